theorem BX5_askHour_0 : bsegs (ByteArray.data cX5_askHour |>.toList.drop 0) 0 [(0, [43]), (1, [182, 0, 52]), (4, [58, 4]), (6, [3]), (7, [54, 5]), (9, [21, 5]), (11, [16, 21]), (13, [162, 0, 93]), (16, [42]), (17, [180, 0, 12]), (20, [43]), (21, [28]), (22, [21, 5]), (24, [29]), (25, [182, 0, 56]), (28, [42]), (29, [180, 0, 18]), (32, [21, 5]), (34, [42]), (35, [180, 0, 12]), (38, [25, 4]), (40, [3]), (41, [182, 0, 60]), (44, [79])] = true := by decide +kernel
theorem dX5_askHour_0 : decode cX5_askHour 0 = .ok (.aload_n 1, 1) := dk_43 (bs_at BX5_askHour_0 0 rfl)
theorem dX5_askHour_1 : decode cX5_askHour 1 = .ok (.invokevirtual 52, 3) := dk_182 0 52 (bs_at BX5_askHour_0 1 rfl) rfl
theorem dX5_askHour_4 : decode cX5_askHour 4 = .ok (.astore 4, 2) := dk_58 4 (bs_at BX5_askHour_0 2 rfl)
theorem dX5_askHour_6 : decode cX5_askHour 6 = .ok (.iconst 0, 1) := dk_3 (bs_at BX5_askHour_0 3 rfl)
theorem dX5_askHour_7 : decode cX5_askHour 7 = .ok (.istore 5, 2) := dk_54 5 (bs_at BX5_askHour_0 4 rfl)
theorem dX5_askHour_9 : decode cX5_askHour 9 = .ok (.iload 5, 2) := dk_21 5 (bs_at BX5_askHour_0 5 rfl)
theorem dX5_askHour_11 : decode cX5_askHour 11 = .ok (.bipush 21, 2) := dk_16 21 (bs_at BX5_askHour_0 6 rfl) rfl
theorem dX5_askHour_13 : decode cX5_askHour 13 = .ok (.if_icmp .ge 93, 3) := dk_162 0 93 (bs_at BX5_askHour_0 7 rfl) rfl
theorem dX5_askHour_16 : decode cX5_askHour 16 = .ok (.aload_n 0, 1) := dk_42 (bs_at BX5_askHour_0 8 rfl)
theorem dX5_askHour_17 : decode cX5_askHour 17 = .ok (.getfield 12, 3) := dk_180 0 12 (bs_at BX5_askHour_0 9 rfl) rfl
theorem dX5_askHour_20 : decode cX5_askHour 20 = .ok (.aload_n 1, 1) := dk_43 (bs_at BX5_askHour_0 10 rfl)
theorem dX5_askHour_21 : decode cX5_askHour 21 = .ok (.iload_n 2, 1) := dk_28 (bs_at BX5_askHour_0 11 rfl)
theorem dX5_askHour_22 : decode cX5_askHour 22 = .ok (.iload 5, 2) := dk_21 5 (bs_at BX5_askHour_0 12 rfl)
theorem dX5_askHour_24 : decode cX5_askHour 24 = .ok (.iload_n 3, 1) := dk_29 (bs_at BX5_askHour_0 13 rfl)
theorem dX5_askHour_25 : decode cX5_askHour 25 = .ok (.invokevirtual 56, 3) := dk_182 0 56 (bs_at BX5_askHour_0 14 rfl) rfl
theorem dX5_askHour_28 : decode cX5_askHour 28 = .ok (.aload_n 0, 1) := dk_42 (bs_at BX5_askHour_0 15 rfl)
theorem dX5_askHour_29 : decode cX5_askHour 29 = .ok (.getfield 18, 3) := dk_180 0 18 (bs_at BX5_askHour_0 16 rfl) rfl
theorem dX5_askHour_32 : decode cX5_askHour 32 = .ok (.iload 5, 2) := dk_21 5 (bs_at BX5_askHour_0 17 rfl)
theorem dX5_askHour_34 : decode cX5_askHour 34 = .ok (.aload_n 0, 1) := dk_42 (bs_at BX5_askHour_0 18 rfl)
theorem dX5_askHour_35 : decode cX5_askHour 35 = .ok (.getfield 12, 3) := dk_180 0 12 (bs_at BX5_askHour_0 19 rfl) rfl
theorem dX5_askHour_38 : decode cX5_askHour 38 = .ok (.aload 4, 2) := dk_25 4 (bs_at BX5_askHour_0 20 rfl)
theorem dX5_askHour_40 : decode cX5_askHour 40 = .ok (.iconst 0, 1) := dk_3 (bs_at BX5_askHour_0 21 rfl)
theorem dX5_askHour_41 : decode cX5_askHour 41 = .ok (.invokevirtual 60, 3) := dk_182 0 60 (bs_at BX5_askHour_0 22 rfl) rfl
theorem dX5_askHour_44 : decode cX5_askHour 44 = .ok (.iastore, 1) := dk_79 (bs_at BX5_askHour_0 23 rfl)
theorem BX5_askHour_45 : bsegs (ByteArray.data cX5_askHour |>.toList.drop 45) 45 [(45, [42]), (46, [180, 0, 12]), (49, [25, 4]), (51, [6]), (52, [182, 0, 60]), (55, [4]), (56, [160, 0, 7]), (59, [4]), (60, [167, 0, 4]), (63, [3]), (64, [54, 6]), (66, [42]), (67, [180, 0, 22]), (70, [21, 5]), (72, [21, 6]), (74, [153, 0, 7]), (77, [2]), (78, [167, 0, 21]), (81, [16, 20]), (83, [21, 5]), (85, [42]), (86, [180, 0, 12]), (89, [25, 4]), (91, [4])] = true := by decide +kernel
theorem dX5_askHour_45 : decode cX5_askHour 45 = .ok (.aload_n 0, 1) := dk_42 (bs_at BX5_askHour_45 0 rfl)
theorem dX5_askHour_46 : decode cX5_askHour 46 = .ok (.getfield 12, 3) := dk_180 0 12 (bs_at BX5_askHour_45 1 rfl) rfl
theorem dX5_askHour_49 : decode cX5_askHour 49 = .ok (.aload 4, 2) := dk_25 4 (bs_at BX5_askHour_45 2 rfl)
theorem dX5_askHour_51 : decode cX5_askHour 51 = .ok (.iconst 3, 1) := dk_6 (bs_at BX5_askHour_45 3 rfl)
theorem dX5_askHour_52 : decode cX5_askHour 52 = .ok (.invokevirtual 60, 3) := dk_182 0 60 (bs_at BX5_askHour_45 4 rfl) rfl
theorem dX5_askHour_55 : decode cX5_askHour 55 = .ok (.iconst 1, 1) := dk_4 (bs_at BX5_askHour_45 5 rfl)
theorem dX5_askHour_56 : decode cX5_askHour 56 = .ok (.if_icmp .ne 7, 3) := dk_160 0 7 (bs_at BX5_askHour_45 6 rfl) rfl
theorem dX5_askHour_59 : decode cX5_askHour 59 = .ok (.iconst 1, 1) := dk_4 (bs_at BX5_askHour_45 7 rfl)
theorem dX5_askHour_60 : decode cX5_askHour 60 = .ok (.goto 4, 3) := dk_167 0 4 (bs_at BX5_askHour_45 8 rfl) rfl
theorem dX5_askHour_63 : decode cX5_askHour 63 = .ok (.iconst 0, 1) := dk_3 (bs_at BX5_askHour_45 9 rfl)
theorem dX5_askHour_64 : decode cX5_askHour 64 = .ok (.istore 6, 2) := dk_54 6 (bs_at BX5_askHour_45 10 rfl)
theorem dX5_askHour_66 : decode cX5_askHour 66 = .ok (.aload_n 0, 1) := dk_42 (bs_at BX5_askHour_45 11 rfl)
theorem dX5_askHour_67 : decode cX5_askHour 67 = .ok (.getfield 22, 3) := dk_180 0 22 (bs_at BX5_askHour_45 12 rfl) rfl
theorem dX5_askHour_70 : decode cX5_askHour 70 = .ok (.iload 5, 2) := dk_21 5 (bs_at BX5_askHour_45 13 rfl)
theorem dX5_askHour_72 : decode cX5_askHour 72 = .ok (.iload 6, 2) := dk_21 6 (bs_at BX5_askHour_45 14 rfl)
theorem dX5_askHour_74 : decode cX5_askHour 74 = .ok (.ifCond .eq 7, 3) := dk_153 0 7 (bs_at BX5_askHour_45 15 rfl) rfl
theorem dX5_askHour_77 : decode cX5_askHour 77 = .ok (.iconst (-1), 1) := dk_2 (bs_at BX5_askHour_45 16 rfl)
theorem dX5_askHour_78 : decode cX5_askHour 78 = .ok (.goto 21, 3) := dk_167 0 21 (bs_at BX5_askHour_45 17 rfl) rfl
theorem dX5_askHour_81 : decode cX5_askHour 81 = .ok (.bipush 20, 2) := dk_16 20 (bs_at BX5_askHour_45 18 rfl) rfl
theorem dX5_askHour_83 : decode cX5_askHour 83 = .ok (.iload 5, 2) := dk_21 5 (bs_at BX5_askHour_45 19 rfl)
theorem dX5_askHour_85 : decode cX5_askHour 85 = .ok (.aload_n 0, 1) := dk_42 (bs_at BX5_askHour_45 20 rfl)
theorem dX5_askHour_86 : decode cX5_askHour 86 = .ok (.getfield 12, 3) := dk_180 0 12 (bs_at BX5_askHour_45 21 rfl) rfl
theorem dX5_askHour_89 : decode cX5_askHour 89 = .ok (.aload 4, 2) := dk_25 4 (bs_at BX5_askHour_45 22 rfl)
theorem dX5_askHour_91 : decode cX5_askHour 91 = .ok (.iconst 1, 1) := dk_4 (bs_at BX5_askHour_45 23 rfl)
theorem BX5_askHour_92 : bsegs (ByteArray.data cX5_askHour |>.toList.drop 92) 92 [(92, [182, 0, 60]), (95, [96]), (96, [184, 0, 64]), (99, [79]), (100, [132, 5, 1]), (103, [167, 255, 162]), (106, [177])] = true := by decide +kernel
theorem dX5_askHour_92 : decode cX5_askHour 92 = .ok (.invokevirtual 60, 3) := dk_182 0 60 (bs_at BX5_askHour_92 0 rfl) rfl
theorem dX5_askHour_95 : decode cX5_askHour 95 = .ok (.iadd, 1) := dk_96 (bs_at BX5_askHour_92 1 rfl)
theorem dX5_askHour_96 : decode cX5_askHour 96 = .ok (.invokestatic 64, 3) := dk_184 0 64 (bs_at BX5_askHour_92 2 rfl) rfl
theorem dX5_askHour_99 : decode cX5_askHour 99 = .ok (.iastore, 1) := dk_79 (bs_at BX5_askHour_92 3 rfl)
theorem dX5_askHour_100 : decode cX5_askHour 100 = .ok (.iinc 5 1, 3) := dk_132 5 1 (bs_at BX5_askHour_92 4 rfl) rfl
theorem dX5_askHour_103 : decode cX5_askHour 103 = .ok (.goto (-94), 3) := dk_167 255 162 (bs_at BX5_askHour_92 5 rfl) rfl
theorem dX5_askHour_106 : decode cX5_askHour 106 = .ok (.return_, 1) := dk_177 (bs_at BX5_askHour_92 6 rfl)
theorem BX5_settleHour_0 : bsegs (ByteArray.data cX5_settleHour |>.toList.drop 0) 0 [(0, [28]), (1, [16, 21]), (3, [104]), (4, [29]), (5, [96]), (6, [54, 5]), (8, [29]), (9, [54, 6]), (11, [42]), (12, [180, 0, 25]), (15, [21, 5]), (17, [17, 3, 232]), (20, [79]), (21, [3]), (22, [54, 7]), (24, [21, 7]), (26, [5]), (27, [163, 0, 109]), (30, [21, 6]), (32, [2]), (33, [159, 0, 103]), (36, [43]), (37, [21, 6]), (39, [182, 0, 69])] = true := by decide +kernel
theorem dX5_settleHour_0 : decode cX5_settleHour 0 = .ok (.iload_n 2, 1) := dk_28 (bs_at BX5_settleHour_0 0 rfl)
theorem dX5_settleHour_1 : decode cX5_settleHour 1 = .ok (.bipush 21, 2) := dk_16 21 (bs_at BX5_settleHour_0 1 rfl) rfl
theorem dX5_settleHour_3 : decode cX5_settleHour 3 = .ok (.imul, 1) := dk_104 (bs_at BX5_settleHour_0 2 rfl)
theorem dX5_settleHour_4 : decode cX5_settleHour 4 = .ok (.iload_n 3, 1) := dk_29 (bs_at BX5_settleHour_0 3 rfl)
theorem dX5_settleHour_5 : decode cX5_settleHour 5 = .ok (.iadd, 1) := dk_96 (bs_at BX5_settleHour_0 4 rfl)
theorem dX5_settleHour_6 : decode cX5_settleHour 6 = .ok (.istore 5, 2) := dk_54 5 (bs_at BX5_settleHour_0 5 rfl)
theorem dX5_settleHour_8 : decode cX5_settleHour 8 = .ok (.iload_n 3, 1) := dk_29 (bs_at BX5_settleHour_0 6 rfl)
theorem dX5_settleHour_9 : decode cX5_settleHour 9 = .ok (.istore 6, 2) := dk_54 6 (bs_at BX5_settleHour_0 7 rfl)
theorem dX5_settleHour_11 : decode cX5_settleHour 11 = .ok (.aload_n 0, 1) := dk_42 (bs_at BX5_settleHour_0 8 rfl)
theorem dX5_settleHour_12 : decode cX5_settleHour 12 = .ok (.getfield 25, 3) := dk_180 0 25 (bs_at BX5_settleHour_0 9 rfl) rfl
theorem dX5_settleHour_15 : decode cX5_settleHour 15 = .ok (.iload 5, 2) := dk_21 5 (bs_at BX5_settleHour_0 10 rfl)
theorem dX5_settleHour_17 : decode cX5_settleHour 17 = .ok (.sipush 1000, 3) := dk_17 3 232 (bs_at BX5_settleHour_0 11 rfl) rfl
theorem dX5_settleHour_20 : decode cX5_settleHour 20 = .ok (.iastore, 1) := dk_79 (bs_at BX5_settleHour_0 12 rfl)
theorem dX5_settleHour_21 : decode cX5_settleHour 21 = .ok (.iconst 0, 1) := dk_3 (bs_at BX5_settleHour_0 13 rfl)
theorem dX5_settleHour_22 : decode cX5_settleHour 22 = .ok (.istore 7, 2) := dk_54 7 (bs_at BX5_settleHour_0 14 rfl)
theorem dX5_settleHour_24 : decode cX5_settleHour 24 = .ok (.iload 7, 2) := dk_21 7 (bs_at BX5_settleHour_0 15 rfl)
theorem dX5_settleHour_26 : decode cX5_settleHour 26 = .ok (.iconst 2, 1) := dk_5 (bs_at BX5_settleHour_0 16 rfl)
theorem dX5_settleHour_27 : decode cX5_settleHour 27 = .ok (.if_icmp .gt 109, 3) := dk_163 0 109 (bs_at BX5_settleHour_0 17 rfl) rfl
theorem dX5_settleHour_30 : decode cX5_settleHour 30 = .ok (.iload 6, 2) := dk_21 6 (bs_at BX5_settleHour_0 18 rfl)
theorem dX5_settleHour_32 : decode cX5_settleHour 32 = .ok (.iconst (-1), 1) := dk_2 (bs_at BX5_settleHour_0 19 rfl)
theorem dX5_settleHour_33 : decode cX5_settleHour 33 = .ok (.if_icmp .eq 103, 3) := dk_159 0 103 (bs_at BX5_settleHour_0 20 rfl) rfl
theorem dX5_settleHour_36 : decode cX5_settleHour 36 = .ok (.aload_n 1, 1) := dk_43 (bs_at BX5_settleHour_0 21 rfl)
theorem dX5_settleHour_37 : decode cX5_settleHour 37 = .ok (.iload 6, 2) := dk_21 6 (bs_at BX5_settleHour_0 22 rfl)
theorem dX5_settleHour_39 : decode cX5_settleHour 39 = .ok (.invokevirtual 69, 3) := dk_182 0 69 (bs_at BX5_settleHour_0 23 rfl) rfl
theorem BX5_settleHour_42 : bsegs (ByteArray.data cX5_settleHour |>.toList.drop 42) 42 [(42, [21, 4]), (44, [160, 0, 77]), (47, [3]), (48, [21, 6]), (50, [42]), (51, [180, 0, 18]), (54, [21, 6]), (56, [46]), (57, [100]), (58, [184, 0, 73]), (61, [54, 8]), (63, [21, 7]), (65, [42]), (66, [180, 0, 25]), (69, [28]), (70, [4]), (71, [96]), (72, [16, 21]), (74, [104]), (75, [21, 8]), (77, [96]), (78, [46]), (79, [96]), (80, [54, 9])] = true := by decide +kernel
theorem dX5_settleHour_42 : decode cX5_settleHour 42 = .ok (.iload 4, 2) := dk_21 4 (bs_at BX5_settleHour_42 0 rfl)
theorem dX5_settleHour_44 : decode cX5_settleHour 44 = .ok (.if_icmp .ne 77, 3) := dk_160 0 77 (bs_at BX5_settleHour_42 1 rfl) rfl
theorem dX5_settleHour_47 : decode cX5_settleHour 47 = .ok (.iconst 0, 1) := dk_3 (bs_at BX5_settleHour_42 2 rfl)
theorem dX5_settleHour_48 : decode cX5_settleHour 48 = .ok (.iload 6, 2) := dk_21 6 (bs_at BX5_settleHour_42 3 rfl)
theorem dX5_settleHour_50 : decode cX5_settleHour 50 = .ok (.aload_n 0, 1) := dk_42 (bs_at BX5_settleHour_42 4 rfl)
theorem dX5_settleHour_51 : decode cX5_settleHour 51 = .ok (.getfield 18, 3) := dk_180 0 18 (bs_at BX5_settleHour_42 5 rfl) rfl
theorem dX5_settleHour_54 : decode cX5_settleHour 54 = .ok (.iload 6, 2) := dk_21 6 (bs_at BX5_settleHour_42 6 rfl)
theorem dX5_settleHour_56 : decode cX5_settleHour 56 = .ok (.iaload, 1) := dk_46 (bs_at BX5_settleHour_42 7 rfl)
theorem dX5_settleHour_57 : decode cX5_settleHour 57 = .ok (.isub, 1) := dk_100 (bs_at BX5_settleHour_42 8 rfl)
theorem dX5_settleHour_58 : decode cX5_settleHour 58 = .ok (.invokestatic 73, 3) := dk_184 0 73 (bs_at BX5_settleHour_42 9 rfl) rfl
theorem dX5_settleHour_61 : decode cX5_settleHour 61 = .ok (.istore 8, 2) := dk_54 8 (bs_at BX5_settleHour_42 10 rfl)
theorem dX5_settleHour_63 : decode cX5_settleHour 63 = .ok (.iload 7, 2) := dk_21 7 (bs_at BX5_settleHour_42 11 rfl)
theorem dX5_settleHour_65 : decode cX5_settleHour 65 = .ok (.aload_n 0, 1) := dk_42 (bs_at BX5_settleHour_42 12 rfl)
theorem dX5_settleHour_66 : decode cX5_settleHour 66 = .ok (.getfield 25, 3) := dk_180 0 25 (bs_at BX5_settleHour_42 13 rfl) rfl
theorem dX5_settleHour_69 : decode cX5_settleHour 69 = .ok (.iload_n 2, 1) := dk_28 (bs_at BX5_settleHour_42 14 rfl)
theorem dX5_settleHour_70 : decode cX5_settleHour 70 = .ok (.iconst 1, 1) := dk_4 (bs_at BX5_settleHour_42 15 rfl)
theorem dX5_settleHour_71 : decode cX5_settleHour 71 = .ok (.iadd, 1) := dk_96 (bs_at BX5_settleHour_42 16 rfl)
theorem dX5_settleHour_72 : decode cX5_settleHour 72 = .ok (.bipush 21, 2) := dk_16 21 (bs_at BX5_settleHour_42 17 rfl) rfl
theorem dX5_settleHour_74 : decode cX5_settleHour 74 = .ok (.imul, 1) := dk_104 (bs_at BX5_settleHour_42 18 rfl)
theorem dX5_settleHour_75 : decode cX5_settleHour 75 = .ok (.iload 8, 2) := dk_21 8 (bs_at BX5_settleHour_42 19 rfl)
theorem dX5_settleHour_77 : decode cX5_settleHour 77 = .ok (.iadd, 1) := dk_96 (bs_at BX5_settleHour_42 20 rfl)
theorem dX5_settleHour_78 : decode cX5_settleHour 78 = .ok (.iaload, 1) := dk_46 (bs_at BX5_settleHour_42 21 rfl)
theorem dX5_settleHour_79 : decode cX5_settleHour 79 = .ok (.iadd, 1) := dk_96 (bs_at BX5_settleHour_42 22 rfl)
theorem dX5_settleHour_80 : decode cX5_settleHour 80 = .ok (.istore 9, 2) := dk_54 9 (bs_at BX5_settleHour_42 23 rfl)
theorem BX5_settleHour_82 : bsegs (ByteArray.data cX5_settleHour |>.toList.drop 82) 82 [(82, [21, 9]), (84, [42]), (85, [180, 0, 25]), (88, [21, 5]), (90, [46]), (91, [162, 0, 30]), (94, [42]), (95, [180, 0, 25]), (98, [21, 5]), (100, [21, 9]), (102, [79]), (103, [42]), (104, [180, 0, 28]), (107, [21, 5]), (109, [21, 7]), (111, [79]), (112, [42]), (113, [180, 0, 31]), (116, [21, 5]), (118, [21, 8]), (120, [79]), (121, [42]), (122, [180, 0, 22]), (125, [21, 6])] = true := by decide +kernel
theorem dX5_settleHour_82 : decode cX5_settleHour 82 = .ok (.iload 9, 2) := dk_21 9 (bs_at BX5_settleHour_82 0 rfl)
theorem dX5_settleHour_84 : decode cX5_settleHour 84 = .ok (.aload_n 0, 1) := dk_42 (bs_at BX5_settleHour_82 1 rfl)
theorem dX5_settleHour_85 : decode cX5_settleHour 85 = .ok (.getfield 25, 3) := dk_180 0 25 (bs_at BX5_settleHour_82 2 rfl) rfl
theorem dX5_settleHour_88 : decode cX5_settleHour 88 = .ok (.iload 5, 2) := dk_21 5 (bs_at BX5_settleHour_82 3 rfl)
theorem dX5_settleHour_90 : decode cX5_settleHour 90 = .ok (.iaload, 1) := dk_46 (bs_at BX5_settleHour_82 4 rfl)
theorem dX5_settleHour_91 : decode cX5_settleHour 91 = .ok (.if_icmp .ge 30, 3) := dk_162 0 30 (bs_at BX5_settleHour_82 5 rfl) rfl
theorem dX5_settleHour_94 : decode cX5_settleHour 94 = .ok (.aload_n 0, 1) := dk_42 (bs_at BX5_settleHour_82 6 rfl)
theorem dX5_settleHour_95 : decode cX5_settleHour 95 = .ok (.getfield 25, 3) := dk_180 0 25 (bs_at BX5_settleHour_82 7 rfl) rfl
theorem dX5_settleHour_98 : decode cX5_settleHour 98 = .ok (.iload 5, 2) := dk_21 5 (bs_at BX5_settleHour_82 8 rfl)
theorem dX5_settleHour_100 : decode cX5_settleHour 100 = .ok (.iload 9, 2) := dk_21 9 (bs_at BX5_settleHour_82 9 rfl)
theorem dX5_settleHour_102 : decode cX5_settleHour 102 = .ok (.iastore, 1) := dk_79 (bs_at BX5_settleHour_82 10 rfl)
theorem dX5_settleHour_103 : decode cX5_settleHour 103 = .ok (.aload_n 0, 1) := dk_42 (bs_at BX5_settleHour_82 11 rfl)
theorem dX5_settleHour_104 : decode cX5_settleHour 104 = .ok (.getfield 28, 3) := dk_180 0 28 (bs_at BX5_settleHour_82 12 rfl) rfl
theorem dX5_settleHour_107 : decode cX5_settleHour 107 = .ok (.iload 5, 2) := dk_21 5 (bs_at BX5_settleHour_82 13 rfl)
theorem dX5_settleHour_109 : decode cX5_settleHour 109 = .ok (.iload 7, 2) := dk_21 7 (bs_at BX5_settleHour_82 14 rfl)
theorem dX5_settleHour_111 : decode cX5_settleHour 111 = .ok (.iastore, 1) := dk_79 (bs_at BX5_settleHour_82 15 rfl)
theorem dX5_settleHour_112 : decode cX5_settleHour 112 = .ok (.aload_n 0, 1) := dk_42 (bs_at BX5_settleHour_82 16 rfl)
theorem dX5_settleHour_113 : decode cX5_settleHour 113 = .ok (.getfield 31, 3) := dk_180 0 31 (bs_at BX5_settleHour_82 17 rfl) rfl
theorem dX5_settleHour_116 : decode cX5_settleHour 116 = .ok (.iload 5, 2) := dk_21 5 (bs_at BX5_settleHour_82 18 rfl)
theorem dX5_settleHour_118 : decode cX5_settleHour 118 = .ok (.iload 8, 2) := dk_21 8 (bs_at BX5_settleHour_82 19 rfl)
theorem dX5_settleHour_120 : decode cX5_settleHour 120 = .ok (.iastore, 1) := dk_79 (bs_at BX5_settleHour_82 20 rfl)
theorem dX5_settleHour_121 : decode cX5_settleHour 121 = .ok (.aload_n 0, 1) := dk_42 (bs_at BX5_settleHour_82 21 rfl)
theorem dX5_settleHour_122 : decode cX5_settleHour 122 = .ok (.getfield 22, 3) := dk_180 0 22 (bs_at BX5_settleHour_82 22 rfl) rfl
theorem dX5_settleHour_125 : decode cX5_settleHour 125 = .ok (.iload 6, 2) := dk_21 6 (bs_at BX5_settleHour_82 23 rfl)
theorem BX5_settleHour_127 : bsegs (ByteArray.data cX5_settleHour |>.toList.drop 127) 127 [(127, [46]), (128, [54, 6]), (130, [132, 7, 1]), (133, [167, 255, 147]), (136, [177])] = true := by decide +kernel
theorem dX5_settleHour_127 : decode cX5_settleHour 127 = .ok (.iaload, 1) := dk_46 (bs_at BX5_settleHour_127 0 rfl)
theorem dX5_settleHour_128 : decode cX5_settleHour 128 = .ok (.istore 6, 2) := dk_54 6 (bs_at BX5_settleHour_127 1 rfl)
theorem dX5_settleHour_130 : decode cX5_settleHour 130 = .ok (.iinc 7 1, 3) := dk_132 7 1 (bs_at BX5_settleHour_127 2 rfl) rfl
theorem dX5_settleHour_133 : decode cX5_settleHour 133 = .ok (.goto (-109), 3) := dk_167 255 147 (bs_at BX5_settleHour_127 3 rfl) rfl
theorem dX5_settleHour_136 : decode cX5_settleHour 136 = .ok (.return_, 1) := dk_177 (bs_at BX5_settleHour_127 4 rfl)
theorem BX5_leastCoal_0 : bsegs (ByteArray.data cX5_leastCoal |>.toList.drop 0) 0 [(0, [3]), (1, [54, 6]), (3, [21, 6]), (5, [16, 21]), (7, [162, 0, 22]), (10, [42]), (11, [180, 0, 25]), (14, [29]), (15, [16, 21]), (17, [104]), (18, [21, 6]), (20, [96]), (21, [3]), (22, [79]), (23, [132, 6, 1]), (26, [167, 255, 233]), (29, [29]), (30, [4]), (31, [100]), (32, [54, 6]), (34, [21, 6]), (36, [155, 0, 58]), (39, [42]), (40, [43])] = true := by decide +kernel
theorem dX5_leastCoal_0 : decode cX5_leastCoal 0 = .ok (.iconst 0, 1) := dk_3 (bs_at BX5_leastCoal_0 0 rfl)
theorem dX5_leastCoal_1 : decode cX5_leastCoal 1 = .ok (.istore 6, 2) := dk_54 6 (bs_at BX5_leastCoal_0 1 rfl)
theorem dX5_leastCoal_3 : decode cX5_leastCoal 3 = .ok (.iload 6, 2) := dk_21 6 (bs_at BX5_leastCoal_0 2 rfl)
theorem dX5_leastCoal_5 : decode cX5_leastCoal 5 = .ok (.bipush 21, 2) := dk_16 21 (bs_at BX5_leastCoal_0 3 rfl) rfl
theorem dX5_leastCoal_7 : decode cX5_leastCoal 7 = .ok (.if_icmp .ge 22, 3) := dk_162 0 22 (bs_at BX5_leastCoal_0 4 rfl) rfl
theorem dX5_leastCoal_10 : decode cX5_leastCoal 10 = .ok (.aload_n 0, 1) := dk_42 (bs_at BX5_leastCoal_0 5 rfl)
theorem dX5_leastCoal_11 : decode cX5_leastCoal 11 = .ok (.getfield 25, 3) := dk_180 0 25 (bs_at BX5_leastCoal_0 6 rfl) rfl
theorem dX5_leastCoal_14 : decode cX5_leastCoal 14 = .ok (.iload_n 3, 1) := dk_29 (bs_at BX5_leastCoal_0 7 rfl)
theorem dX5_leastCoal_15 : decode cX5_leastCoal 15 = .ok (.bipush 21, 2) := dk_16 21 (bs_at BX5_leastCoal_0 8 rfl) rfl
theorem dX5_leastCoal_17 : decode cX5_leastCoal 17 = .ok (.imul, 1) := dk_104 (bs_at BX5_leastCoal_0 9 rfl)
theorem dX5_leastCoal_18 : decode cX5_leastCoal 18 = .ok (.iload 6, 2) := dk_21 6 (bs_at BX5_leastCoal_0 10 rfl)
theorem dX5_leastCoal_20 : decode cX5_leastCoal 20 = .ok (.iadd, 1) := dk_96 (bs_at BX5_leastCoal_0 11 rfl)
theorem dX5_leastCoal_21 : decode cX5_leastCoal 21 = .ok (.iconst 0, 1) := dk_3 (bs_at BX5_leastCoal_0 12 rfl)
theorem dX5_leastCoal_22 : decode cX5_leastCoal 22 = .ok (.iastore, 1) := dk_79 (bs_at BX5_leastCoal_0 13 rfl)
theorem dX5_leastCoal_23 : decode cX5_leastCoal 23 = .ok (.iinc 6 1, 3) := dk_132 6 1 (bs_at BX5_leastCoal_0 14 rfl) rfl
theorem dX5_leastCoal_26 : decode cX5_leastCoal 26 = .ok (.goto (-23), 3) := dk_167 255 233 (bs_at BX5_leastCoal_0 15 rfl) rfl
theorem dX5_leastCoal_29 : decode cX5_leastCoal 29 = .ok (.iload_n 3, 1) := dk_29 (bs_at BX5_leastCoal_0 16 rfl)
theorem dX5_leastCoal_30 : decode cX5_leastCoal 30 = .ok (.iconst 1, 1) := dk_4 (bs_at BX5_leastCoal_0 17 rfl)
theorem dX5_leastCoal_31 : decode cX5_leastCoal 31 = .ok (.isub, 1) := dk_100 (bs_at BX5_leastCoal_0 18 rfl)
theorem dX5_leastCoal_32 : decode cX5_leastCoal 32 = .ok (.istore 6, 2) := dk_54 6 (bs_at BX5_leastCoal_0 19 rfl)
theorem dX5_leastCoal_34 : decode cX5_leastCoal 34 = .ok (.iload 6, 2) := dk_21 6 (bs_at BX5_leastCoal_0 20 rfl)
theorem dX5_leastCoal_36 : decode cX5_leastCoal 36 = .ok (.ifCond .lt 58, 3) := dk_155 0 58 (bs_at BX5_leastCoal_0 21 rfl) rfl
theorem dX5_leastCoal_39 : decode cX5_leastCoal 39 = .ok (.aload_n 0, 1) := dk_42 (bs_at BX5_leastCoal_0 22 rfl)
theorem dX5_leastCoal_40 : decode cX5_leastCoal 40 = .ok (.aload_n 1, 1) := dk_43 (bs_at BX5_leastCoal_0 23 rfl)
theorem BX5_leastCoal_41 : bsegs (ByteArray.data cX5_leastCoal |>.toList.drop 41) 41 [(41, [28]), (42, [21, 6]), (44, [182, 0, 34]), (47, [3]), (48, [54, 7]), (50, [21, 7]), (52, [16, 21]), (54, [162, 0, 34]), (57, [42]), (58, [43]), (59, [21, 6]), (61, [21, 7]), (63, [21, 4]), (65, [21, 6]), (67, [122]), (68, [4]), (69, [126]), (70, [4]), (71, [160, 0, 7]), (74, [4]), (75, [167, 0, 4]), (78, [3]), (79, [182, 0, 38]), (82, [132, 7, 1])] = true := by decide +kernel
theorem dX5_leastCoal_41 : decode cX5_leastCoal 41 = .ok (.iload_n 2, 1) := dk_28 (bs_at BX5_leastCoal_41 0 rfl)
theorem dX5_leastCoal_42 : decode cX5_leastCoal 42 = .ok (.iload 6, 2) := dk_21 6 (bs_at BX5_leastCoal_41 1 rfl)
theorem dX5_leastCoal_44 : decode cX5_leastCoal 44 = .ok (.invokevirtual 34, 3) := dk_182 0 34 (bs_at BX5_leastCoal_41 2 rfl) rfl
theorem dX5_leastCoal_47 : decode cX5_leastCoal 47 = .ok (.iconst 0, 1) := dk_3 (bs_at BX5_leastCoal_41 3 rfl)
theorem dX5_leastCoal_48 : decode cX5_leastCoal 48 = .ok (.istore 7, 2) := dk_54 7 (bs_at BX5_leastCoal_41 4 rfl)
theorem dX5_leastCoal_50 : decode cX5_leastCoal 50 = .ok (.iload 7, 2) := dk_21 7 (bs_at BX5_leastCoal_41 5 rfl)
theorem dX5_leastCoal_52 : decode cX5_leastCoal 52 = .ok (.bipush 21, 2) := dk_16 21 (bs_at BX5_leastCoal_41 6 rfl) rfl
theorem dX5_leastCoal_54 : decode cX5_leastCoal 54 = .ok (.if_icmp .ge 34, 3) := dk_162 0 34 (bs_at BX5_leastCoal_41 7 rfl) rfl
theorem dX5_leastCoal_57 : decode cX5_leastCoal 57 = .ok (.aload_n 0, 1) := dk_42 (bs_at BX5_leastCoal_41 8 rfl)
theorem dX5_leastCoal_58 : decode cX5_leastCoal 58 = .ok (.aload_n 1, 1) := dk_43 (bs_at BX5_leastCoal_41 9 rfl)
theorem dX5_leastCoal_59 : decode cX5_leastCoal 59 = .ok (.iload 6, 2) := dk_21 6 (bs_at BX5_leastCoal_41 10 rfl)
theorem dX5_leastCoal_61 : decode cX5_leastCoal 61 = .ok (.iload 7, 2) := dk_21 7 (bs_at BX5_leastCoal_41 11 rfl)
theorem dX5_leastCoal_63 : decode cX5_leastCoal 63 = .ok (.iload 4, 2) := dk_21 4 (bs_at BX5_leastCoal_41 12 rfl)
theorem dX5_leastCoal_65 : decode cX5_leastCoal 65 = .ok (.iload 6, 2) := dk_21 6 (bs_at BX5_leastCoal_41 13 rfl)
theorem dX5_leastCoal_67 : decode cX5_leastCoal 67 = .ok (.ishr, 1) := dk_122 (bs_at BX5_leastCoal_41 14 rfl)
theorem dX5_leastCoal_68 : decode cX5_leastCoal 68 = .ok (.iconst 1, 1) := dk_4 (bs_at BX5_leastCoal_41 15 rfl)
theorem dX5_leastCoal_69 : decode cX5_leastCoal 69 = .ok (.iand, 1) := dk_126 (bs_at BX5_leastCoal_41 16 rfl)
theorem dX5_leastCoal_70 : decode cX5_leastCoal 70 = .ok (.iconst 1, 1) := dk_4 (bs_at BX5_leastCoal_41 17 rfl)
theorem dX5_leastCoal_71 : decode cX5_leastCoal 71 = .ok (.if_icmp .ne 7, 3) := dk_160 0 7 (bs_at BX5_leastCoal_41 18 rfl) rfl
theorem dX5_leastCoal_74 : decode cX5_leastCoal 74 = .ok (.iconst 1, 1) := dk_4 (bs_at BX5_leastCoal_41 19 rfl)
theorem dX5_leastCoal_75 : decode cX5_leastCoal 75 = .ok (.goto 4, 3) := dk_167 0 4 (bs_at BX5_leastCoal_41 20 rfl) rfl
theorem dX5_leastCoal_78 : decode cX5_leastCoal 78 = .ok (.iconst 0, 1) := dk_3 (bs_at BX5_leastCoal_41 21 rfl)
theorem dX5_leastCoal_79 : decode cX5_leastCoal 79 = .ok (.invokevirtual 38, 3) := dk_182 0 38 (bs_at BX5_leastCoal_41 22 rfl) rfl
theorem dX5_leastCoal_82 : decode cX5_leastCoal 82 = .ok (.iinc 7 1, 3) := dk_132 7 1 (bs_at BX5_leastCoal_41 23 rfl) rfl
theorem BX5_leastCoal_85 : bsegs (ByteArray.data cX5_leastCoal |>.toList.drop 85) 85 [(85, [167, 255, 221]), (88, [132, 6, 255]), (91, [167, 255, 199]), (94, [43]), (95, [28]), (96, [8]), (97, [182, 0, 42]), (100, [54, 6]), (102, [21, 6]), (104, [3]), (105, [16, 20]), (107, [184, 0, 48]), (110, [153, 0, 16]), (113, [42]), (114, [180, 0, 25]), (117, [21, 6]), (119, [46]), (120, [17, 3, 232]), (123, [161, 0, 5]), (126, [2]), (127, [172]), (128, [3]), (129, [54, 7]), (131, [21, 7])] = true := by decide +kernel
theorem dX5_leastCoal_85 : decode cX5_leastCoal 85 = .ok (.goto (-35), 3) := dk_167 255 221 (bs_at BX5_leastCoal_85 0 rfl) rfl
theorem dX5_leastCoal_88 : decode cX5_leastCoal 88 = .ok (.iinc 6 (-1), 3) := dk_132 6 255 (bs_at BX5_leastCoal_85 1 rfl) rfl
theorem dX5_leastCoal_91 : decode cX5_leastCoal 91 = .ok (.goto (-57), 3) := dk_167 255 199 (bs_at BX5_leastCoal_85 2 rfl) rfl
theorem dX5_leastCoal_94 : decode cX5_leastCoal 94 = .ok (.aload_n 1, 1) := dk_43 (bs_at BX5_leastCoal_85 3 rfl)
theorem dX5_leastCoal_95 : decode cX5_leastCoal 95 = .ok (.iload_n 2, 1) := dk_28 (bs_at BX5_leastCoal_85 4 rfl)
theorem dX5_leastCoal_96 : decode cX5_leastCoal 96 = .ok (.iconst 5, 1) := dk_8 (bs_at BX5_leastCoal_85 5 rfl)
theorem dX5_leastCoal_97 : decode cX5_leastCoal 97 = .ok (.invokevirtual 42, 3) := dk_182 0 42 (bs_at BX5_leastCoal_85 6 rfl) rfl
theorem dX5_leastCoal_100 : decode cX5_leastCoal 100 = .ok (.istore 6, 2) := dk_54 6 (bs_at BX5_leastCoal_85 7 rfl)
theorem dX5_leastCoal_102 : decode cX5_leastCoal 102 = .ok (.iload 6, 2) := dk_21 6 (bs_at BX5_leastCoal_85 8 rfl)
theorem dX5_leastCoal_104 : decode cX5_leastCoal 104 = .ok (.iconst 0, 1) := dk_3 (bs_at BX5_leastCoal_85 9 rfl)
theorem dX5_leastCoal_105 : decode cX5_leastCoal 105 = .ok (.bipush 20, 2) := dk_16 20 (bs_at BX5_leastCoal_85 10 rfl) rfl
theorem dX5_leastCoal_107 : decode cX5_leastCoal 107 = .ok (.invokestatic 48, 3) := dk_184 0 48 (bs_at BX5_leastCoal_85 11 rfl) rfl
theorem dX5_leastCoal_110 : decode cX5_leastCoal 110 = .ok (.ifCond .eq 16, 3) := dk_153 0 16 (bs_at BX5_leastCoal_85 12 rfl) rfl
theorem dX5_leastCoal_113 : decode cX5_leastCoal 113 = .ok (.aload_n 0, 1) := dk_42 (bs_at BX5_leastCoal_85 13 rfl)
theorem dX5_leastCoal_114 : decode cX5_leastCoal 114 = .ok (.getfield 25, 3) := dk_180 0 25 (bs_at BX5_leastCoal_85 14 rfl) rfl
theorem dX5_leastCoal_117 : decode cX5_leastCoal 117 = .ok (.iload 6, 2) := dk_21 6 (bs_at BX5_leastCoal_85 15 rfl)
theorem dX5_leastCoal_119 : decode cX5_leastCoal 119 = .ok (.iaload, 1) := dk_46 (bs_at BX5_leastCoal_85 16 rfl)
theorem dX5_leastCoal_120 : decode cX5_leastCoal 120 = .ok (.sipush 1000, 3) := dk_17 3 232 (bs_at BX5_leastCoal_85 17 rfl) rfl
theorem dX5_leastCoal_123 : decode cX5_leastCoal 123 = .ok (.if_icmp .lt 5, 3) := dk_161 0 5 (bs_at BX5_leastCoal_85 18 rfl) rfl
theorem dX5_leastCoal_126 : decode cX5_leastCoal 126 = .ok (.iconst (-1), 1) := dk_2 (bs_at BX5_leastCoal_85 19 rfl)
theorem dX5_leastCoal_127 : decode cX5_leastCoal 127 = .ok (.ireturn, 1) := dk_172 (bs_at BX5_leastCoal_85 20 rfl)
theorem dX5_leastCoal_128 : decode cX5_leastCoal 128 = .ok (.iconst 0, 1) := dk_3 (bs_at BX5_leastCoal_85 21 rfl)
theorem dX5_leastCoal_129 : decode cX5_leastCoal 129 = .ok (.istore 7, 2) := dk_54 7 (bs_at BX5_leastCoal_85 22 rfl)
theorem dX5_leastCoal_131 : decode cX5_leastCoal 131 = .ok (.iload 7, 2) := dk_21 7 (bs_at BX5_leastCoal_85 23 rfl)
theorem BX5_leastCoal_133 : bsegs (ByteArray.data cX5_leastCoal |>.toList.drop 133) 133 [(133, [21, 5]), (135, [162, 0, 24]), (138, [42]), (139, [180, 0, 31]), (142, [21, 7]), (144, [16, 21]), (146, [104]), (147, [21, 6]), (149, [96]), (150, [46]), (151, [54, 6]), (153, [132, 7, 1]), (156, [167, 255, 231]), (159, [21, 5]), (161, [2]), (162, [160, 0, 13]), (165, [42]), (166, [180, 0, 25]), (169, [21, 6]), (171, [46]), (172, [167, 0, 16]), (175, [42]), (176, [180, 0, 28]), (179, [21, 5])] = true := by decide +kernel
theorem dX5_leastCoal_133 : decode cX5_leastCoal 133 = .ok (.iload 5, 2) := dk_21 5 (bs_at BX5_leastCoal_133 0 rfl)
theorem dX5_leastCoal_135 : decode cX5_leastCoal 135 = .ok (.if_icmp .ge 24, 3) := dk_162 0 24 (bs_at BX5_leastCoal_133 1 rfl) rfl
theorem dX5_leastCoal_138 : decode cX5_leastCoal 138 = .ok (.aload_n 0, 1) := dk_42 (bs_at BX5_leastCoal_133 2 rfl)
theorem dX5_leastCoal_139 : decode cX5_leastCoal 139 = .ok (.getfield 31, 3) := dk_180 0 31 (bs_at BX5_leastCoal_133 3 rfl) rfl
theorem dX5_leastCoal_142 : decode cX5_leastCoal 142 = .ok (.iload 7, 2) := dk_21 7 (bs_at BX5_leastCoal_133 4 rfl)
theorem dX5_leastCoal_144 : decode cX5_leastCoal 144 = .ok (.bipush 21, 2) := dk_16 21 (bs_at BX5_leastCoal_133 5 rfl) rfl
theorem dX5_leastCoal_146 : decode cX5_leastCoal 146 = .ok (.imul, 1) := dk_104 (bs_at BX5_leastCoal_133 6 rfl)
theorem dX5_leastCoal_147 : decode cX5_leastCoal 147 = .ok (.iload 6, 2) := dk_21 6 (bs_at BX5_leastCoal_133 7 rfl)
theorem dX5_leastCoal_149 : decode cX5_leastCoal 149 = .ok (.iadd, 1) := dk_96 (bs_at BX5_leastCoal_133 8 rfl)
theorem dX5_leastCoal_150 : decode cX5_leastCoal 150 = .ok (.iaload, 1) := dk_46 (bs_at BX5_leastCoal_133 9 rfl)
theorem dX5_leastCoal_151 : decode cX5_leastCoal 151 = .ok (.istore 6, 2) := dk_54 6 (bs_at BX5_leastCoal_133 10 rfl)
theorem dX5_leastCoal_153 : decode cX5_leastCoal 153 = .ok (.iinc 7 1, 3) := dk_132 7 1 (bs_at BX5_leastCoal_133 11 rfl) rfl
theorem dX5_leastCoal_156 : decode cX5_leastCoal 156 = .ok (.goto (-25), 3) := dk_167 255 231 (bs_at BX5_leastCoal_133 12 rfl) rfl
theorem dX5_leastCoal_159 : decode cX5_leastCoal 159 = .ok (.iload 5, 2) := dk_21 5 (bs_at BX5_leastCoal_133 13 rfl)
theorem dX5_leastCoal_161 : decode cX5_leastCoal 161 = .ok (.iconst (-1), 1) := dk_2 (bs_at BX5_leastCoal_133 14 rfl)
theorem dX5_leastCoal_162 : decode cX5_leastCoal 162 = .ok (.if_icmp .ne 13, 3) := dk_160 0 13 (bs_at BX5_leastCoal_133 15 rfl) rfl
theorem dX5_leastCoal_165 : decode cX5_leastCoal 165 = .ok (.aload_n 0, 1) := dk_42 (bs_at BX5_leastCoal_133 16 rfl)
theorem dX5_leastCoal_166 : decode cX5_leastCoal 166 = .ok (.getfield 25, 3) := dk_180 0 25 (bs_at BX5_leastCoal_133 17 rfl) rfl
theorem dX5_leastCoal_169 : decode cX5_leastCoal 169 = .ok (.iload 6, 2) := dk_21 6 (bs_at BX5_leastCoal_133 18 rfl)
theorem dX5_leastCoal_171 : decode cX5_leastCoal 171 = .ok (.iaload, 1) := dk_46 (bs_at BX5_leastCoal_133 19 rfl)
theorem dX5_leastCoal_172 : decode cX5_leastCoal 172 = .ok (.goto 16, 3) := dk_167 0 16 (bs_at BX5_leastCoal_133 20 rfl) rfl
theorem dX5_leastCoal_175 : decode cX5_leastCoal 175 = .ok (.aload_n 0, 1) := dk_42 (bs_at BX5_leastCoal_133 21 rfl)
theorem dX5_leastCoal_176 : decode cX5_leastCoal 176 = .ok (.getfield 28, 3) := dk_180 0 28 (bs_at BX5_leastCoal_133 22 rfl) rfl
theorem dX5_leastCoal_179 : decode cX5_leastCoal 179 = .ok (.iload 5, 2) := dk_21 5 (bs_at BX5_leastCoal_133 23 rfl)
theorem BX5_leastCoal_181 : bsegs (ByteArray.data cX5_leastCoal |>.toList.drop 181) 181 [(181, [16, 21]), (183, [104]), (184, [21, 6]), (186, [96]), (187, [46]), (188, [172])] = true := by decide +kernel
theorem dX5_leastCoal_181 : decode cX5_leastCoal 181 = .ok (.bipush 21, 2) := dk_16 21 (bs_at BX5_leastCoal_181 0 rfl) rfl
theorem dX5_leastCoal_183 : decode cX5_leastCoal 183 = .ok (.imul, 1) := dk_104 (bs_at BX5_leastCoal_181 1 rfl)
theorem dX5_leastCoal_184 : decode cX5_leastCoal 184 = .ok (.iload 6, 2) := dk_21 6 (bs_at BX5_leastCoal_181 2 rfl)
theorem dX5_leastCoal_186 : decode cX5_leastCoal 186 = .ok (.iadd, 1) := dk_96 (bs_at BX5_leastCoal_181 3 rfl)
theorem dX5_leastCoal_187 : decode cX5_leastCoal 187 = .ok (.iaload, 1) := dk_46 (bs_at BX5_leastCoal_181 4 rfl)
theorem dX5_leastCoal_188 : decode cX5_leastCoal 188 = .ok (.ireturn, 1) := dk_172 (bs_at BX5_leastCoal_181 5 rfl)
theorem BX5_coalBy_0 : bsegs (ByteArray.data cX5_coalBy |>.toList.drop 0) 0 [(0, [3]), (1, [54, 4]), (3, [3]), (4, [54, 5]), (6, [21, 5]), (8, [43]), (9, [180, 0, 76]), (12, [162, 0, 112]), (15, [43]), (16, [21, 5]), (18, [8]), (19, [182, 0, 42]), (22, [54, 6]), (24, [3]), (25, [54, 7]), (27, [21, 7]), (29, [29]), (30, [162, 0, 88]), (33, [21, 6]), (35, [43]), (36, [180, 0, 80]), (39, [5]), (40, [46]), (41, [162, 0, 39])] = true := by decide +kernel
theorem dX5_coalBy_0 : decode cX5_coalBy 0 = .ok (.iconst 0, 1) := dk_3 (bs_at BX5_coalBy_0 0 rfl)
theorem dX5_coalBy_1 : decode cX5_coalBy 1 = .ok (.istore 4, 2) := dk_54 4 (bs_at BX5_coalBy_0 1 rfl)
theorem dX5_coalBy_3 : decode cX5_coalBy 3 = .ok (.iconst 0, 1) := dk_3 (bs_at BX5_coalBy_0 2 rfl)
theorem dX5_coalBy_4 : decode cX5_coalBy 4 = .ok (.istore 5, 2) := dk_54 5 (bs_at BX5_coalBy_0 3 rfl)
theorem dX5_coalBy_6 : decode cX5_coalBy 6 = .ok (.iload 5, 2) := dk_21 5 (bs_at BX5_coalBy_0 4 rfl)
theorem dX5_coalBy_8 : decode cX5_coalBy 8 = .ok (.aload_n 1, 1) := dk_43 (bs_at BX5_coalBy_0 5 rfl)
theorem dX5_coalBy_9 : decode cX5_coalBy 9 = .ok (.getfield 76, 3) := dk_180 0 76 (bs_at BX5_coalBy_0 6 rfl) rfl
theorem dX5_coalBy_12 : decode cX5_coalBy 12 = .ok (.if_icmp .ge 112, 3) := dk_162 0 112 (bs_at BX5_coalBy_0 7 rfl) rfl
theorem dX5_coalBy_15 : decode cX5_coalBy 15 = .ok (.aload_n 1, 1) := dk_43 (bs_at BX5_coalBy_0 8 rfl)
theorem dX5_coalBy_16 : decode cX5_coalBy 16 = .ok (.iload 5, 2) := dk_21 5 (bs_at BX5_coalBy_0 9 rfl)
theorem dX5_coalBy_18 : decode cX5_coalBy 18 = .ok (.iconst 5, 1) := dk_8 (bs_at BX5_coalBy_0 10 rfl)
theorem dX5_coalBy_19 : decode cX5_coalBy 19 = .ok (.invokevirtual 42, 3) := dk_182 0 42 (bs_at BX5_coalBy_0 11 rfl) rfl
theorem dX5_coalBy_22 : decode cX5_coalBy 22 = .ok (.istore 6, 2) := dk_54 6 (bs_at BX5_coalBy_0 12 rfl)
theorem dX5_coalBy_24 : decode cX5_coalBy 24 = .ok (.iconst 0, 1) := dk_3 (bs_at BX5_coalBy_0 13 rfl)
theorem dX5_coalBy_25 : decode cX5_coalBy 25 = .ok (.istore 7, 2) := dk_54 7 (bs_at BX5_coalBy_0 14 rfl)
theorem dX5_coalBy_27 : decode cX5_coalBy 27 = .ok (.iload 7, 2) := dk_21 7 (bs_at BX5_coalBy_0 15 rfl)
theorem dX5_coalBy_29 : decode cX5_coalBy 29 = .ok (.iload_n 3, 1) := dk_29 (bs_at BX5_coalBy_0 16 rfl)
theorem dX5_coalBy_30 : decode cX5_coalBy 30 = .ok (.if_icmp .ge 88, 3) := dk_162 0 88 (bs_at BX5_coalBy_0 17 rfl) rfl
theorem dX5_coalBy_33 : decode cX5_coalBy 33 = .ok (.iload 6, 2) := dk_21 6 (bs_at BX5_coalBy_0 18 rfl)
theorem dX5_coalBy_35 : decode cX5_coalBy 35 = .ok (.aload_n 1, 1) := dk_43 (bs_at BX5_coalBy_0 19 rfl)
theorem dX5_coalBy_36 : decode cX5_coalBy 36 = .ok (.getfield 80, 3) := dk_180 0 80 (bs_at BX5_coalBy_0 20 rfl) rfl
theorem dX5_coalBy_39 : decode cX5_coalBy 39 = .ok (.iconst 2, 1) := dk_5 (bs_at BX5_coalBy_0 21 rfl)
theorem dX5_coalBy_40 : decode cX5_coalBy 40 = .ok (.iaload, 1) := dk_46 (bs_at BX5_coalBy_0 22 rfl)
theorem dX5_coalBy_41 : decode cX5_coalBy 41 = .ok (.if_icmp .ge 39, 3) := dk_162 0 39 (bs_at BX5_coalBy_0 23 rfl) rfl
theorem BX5_coalBy_44 : bsegs (ByteArray.data cX5_coalBy |>.toList.drop 44) 44 [(44, [42]), (45, [180, 0, 12]), (48, [43]), (49, [21, 5]), (51, [21, 6]), (53, [21, 7]), (55, [182, 0, 56]), (58, [16, 20]), (60, [21, 6]), (62, [42]), (63, [180, 0, 12]), (66, [44]), (67, [4]), (68, [182, 0, 60]), (71, [96]), (72, [184, 0, 64]), (75, [54, 6]), (77, [132, 4, 1]), (80, [42]), (81, [180, 0, 12]), (84, [43]), (85, [21, 5]), (87, [21, 6]), (89, [21, 7])] = true := by decide +kernel
theorem dX5_coalBy_44 : decode cX5_coalBy 44 = .ok (.aload_n 0, 1) := dk_42 (bs_at BX5_coalBy_44 0 rfl)
theorem dX5_coalBy_45 : decode cX5_coalBy 45 = .ok (.getfield 12, 3) := dk_180 0 12 (bs_at BX5_coalBy_44 1 rfl) rfl
theorem dX5_coalBy_48 : decode cX5_coalBy 48 = .ok (.aload_n 1, 1) := dk_43 (bs_at BX5_coalBy_44 2 rfl)
theorem dX5_coalBy_49 : decode cX5_coalBy 49 = .ok (.iload 5, 2) := dk_21 5 (bs_at BX5_coalBy_44 3 rfl)
theorem dX5_coalBy_51 : decode cX5_coalBy 51 = .ok (.iload 6, 2) := dk_21 6 (bs_at BX5_coalBy_44 4 rfl)
theorem dX5_coalBy_53 : decode cX5_coalBy 53 = .ok (.iload 7, 2) := dk_21 7 (bs_at BX5_coalBy_44 5 rfl)
theorem dX5_coalBy_55 : decode cX5_coalBy 55 = .ok (.invokevirtual 56, 3) := dk_182 0 56 (bs_at BX5_coalBy_44 6 rfl) rfl
theorem dX5_coalBy_58 : decode cX5_coalBy 58 = .ok (.bipush 20, 2) := dk_16 20 (bs_at BX5_coalBy_44 7 rfl) rfl
theorem dX5_coalBy_60 : decode cX5_coalBy 60 = .ok (.iload 6, 2) := dk_21 6 (bs_at BX5_coalBy_44 8 rfl)
theorem dX5_coalBy_62 : decode cX5_coalBy 62 = .ok (.aload_n 0, 1) := dk_42 (bs_at BX5_coalBy_44 9 rfl)
theorem dX5_coalBy_63 : decode cX5_coalBy 63 = .ok (.getfield 12, 3) := dk_180 0 12 (bs_at BX5_coalBy_44 10 rfl) rfl
theorem dX5_coalBy_66 : decode cX5_coalBy 66 = .ok (.aload_n 2, 1) := dk_44 (bs_at BX5_coalBy_44 11 rfl)
theorem dX5_coalBy_67 : decode cX5_coalBy 67 = .ok (.iconst 1, 1) := dk_4 (bs_at BX5_coalBy_44 12 rfl)
theorem dX5_coalBy_68 : decode cX5_coalBy 68 = .ok (.invokevirtual 60, 3) := dk_182 0 60 (bs_at BX5_coalBy_44 13 rfl) rfl
theorem dX5_coalBy_71 : decode cX5_coalBy 71 = .ok (.iadd, 1) := dk_96 (bs_at BX5_coalBy_44 14 rfl)
theorem dX5_coalBy_72 : decode cX5_coalBy 72 = .ok (.invokestatic 64, 3) := dk_184 0 64 (bs_at BX5_coalBy_44 15 rfl) rfl
theorem dX5_coalBy_75 : decode cX5_coalBy 75 = .ok (.istore 6, 2) := dk_54 6 (bs_at BX5_coalBy_44 16 rfl)
theorem dX5_coalBy_77 : decode cX5_coalBy 77 = .ok (.iinc 4 1, 3) := dk_132 4 1 (bs_at BX5_coalBy_44 17 rfl) rfl
theorem dX5_coalBy_80 : decode cX5_coalBy 80 = .ok (.aload_n 0, 1) := dk_42 (bs_at BX5_coalBy_44 18 rfl)
theorem dX5_coalBy_81 : decode cX5_coalBy 81 = .ok (.getfield 12, 3) := dk_180 0 12 (bs_at BX5_coalBy_44 19 rfl) rfl
theorem dX5_coalBy_84 : decode cX5_coalBy 84 = .ok (.aload_n 1, 1) := dk_43 (bs_at BX5_coalBy_44 20 rfl)
theorem dX5_coalBy_85 : decode cX5_coalBy 85 = .ok (.iload 5, 2) := dk_21 5 (bs_at BX5_coalBy_44 21 rfl)
theorem dX5_coalBy_87 : decode cX5_coalBy 87 = .ok (.iload 6, 2) := dk_21 6 (bs_at BX5_coalBy_44 22 rfl)
theorem dX5_coalBy_89 : decode cX5_coalBy 89 = .ok (.iload 7, 2) := dk_21 7 (bs_at BX5_coalBy_44 23 rfl)
theorem BX5_coalBy_91 : bsegs (ByteArray.data cX5_coalBy |>.toList.drop 91) 91 [(91, [182, 0, 56]), (94, [3]), (95, [21, 6]), (97, [42]), (98, [180, 0, 12]), (101, [44]), (102, [3]), (103, [182, 0, 60]), (106, [100]), (107, [184, 0, 73]), (110, [54, 6]), (112, [132, 7, 1]), (115, [167, 255, 168]), (118, [132, 5, 1]), (121, [167, 255, 141]), (124, [21, 4]), (126, [172])] = true := by decide +kernel
theorem dX5_coalBy_91 : decode cX5_coalBy 91 = .ok (.invokevirtual 56, 3) := dk_182 0 56 (bs_at BX5_coalBy_91 0 rfl) rfl
theorem dX5_coalBy_94 : decode cX5_coalBy 94 = .ok (.iconst 0, 1) := dk_3 (bs_at BX5_coalBy_91 1 rfl)
theorem dX5_coalBy_95 : decode cX5_coalBy 95 = .ok (.iload 6, 2) := dk_21 6 (bs_at BX5_coalBy_91 2 rfl)
theorem dX5_coalBy_97 : decode cX5_coalBy 97 = .ok (.aload_n 0, 1) := dk_42 (bs_at BX5_coalBy_91 3 rfl)
theorem dX5_coalBy_98 : decode cX5_coalBy 98 = .ok (.getfield 12, 3) := dk_180 0 12 (bs_at BX5_coalBy_91 4 rfl) rfl
theorem dX5_coalBy_101 : decode cX5_coalBy 101 = .ok (.aload_n 2, 1) := dk_44 (bs_at BX5_coalBy_91 5 rfl)
theorem dX5_coalBy_102 : decode cX5_coalBy 102 = .ok (.iconst 0, 1) := dk_3 (bs_at BX5_coalBy_91 6 rfl)
theorem dX5_coalBy_103 : decode cX5_coalBy 103 = .ok (.invokevirtual 60, 3) := dk_182 0 60 (bs_at BX5_coalBy_91 7 rfl) rfl
theorem dX5_coalBy_106 : decode cX5_coalBy 106 = .ok (.isub, 1) := dk_100 (bs_at BX5_coalBy_91 8 rfl)
theorem dX5_coalBy_107 : decode cX5_coalBy 107 = .ok (.invokestatic 73, 3) := dk_184 0 73 (bs_at BX5_coalBy_91 9 rfl) rfl
theorem dX5_coalBy_110 : decode cX5_coalBy 110 = .ok (.istore 6, 2) := dk_54 6 (bs_at BX5_coalBy_91 10 rfl)
theorem dX5_coalBy_112 : decode cX5_coalBy 112 = .ok (.iinc 7 1, 3) := dk_132 7 1 (bs_at BX5_coalBy_91 11 rfl) rfl
theorem dX5_coalBy_115 : decode cX5_coalBy 115 = .ok (.goto (-88), 3) := dk_167 255 168 (bs_at BX5_coalBy_91 12 rfl) rfl
theorem dX5_coalBy_118 : decode cX5_coalBy 118 = .ok (.iinc 5 1, 3) := dk_132 5 1 (bs_at BX5_coalBy_91 13 rfl) rfl
theorem dX5_coalBy_121 : decode cX5_coalBy 121 = .ok (.goto (-115), 3) := dk_167 255 141 (bs_at BX5_coalBy_91 14 rfl) rfl
theorem dX5_coalBy_124 : decode cX5_coalBy 124 = .ok (.iload 4, 2) := dk_21 4 (bs_at BX5_coalBy_91 15 rfl)
theorem dX5_coalBy_126 : decode cX5_coalBy 126 = .ok (.ireturn, 1) := dk_172 (bs_at BX5_coalBy_91 16 rfl)
theorem ggX5_askHour_X9_lawInForce : GoodIn wsX5_askHour wsX9_lawInForce := gi_ch ch_X5_askHour ch_X9_lawInForce (by decide +kernel)
set_option maxRecDepth 20000 in
theorem gX5_askHour_X9_lawInForce_n52 : GoodIn wsX5_askHour (wsX9_lawInForce) := ggX5_askHour_X9_lawInForce
theorem ggX5_askHour_X0_face : GoodIn wsX5_askHour wsX0_face := gi_ch ch_X5_askHour ch_X0_face (by decide +kernel)
set_option maxRecDepth 20000 in
theorem gX5_askHour_X0_face_n56 : GoodIn wsX5_askHour (wsX0_face) := ggX5_askHour_X0_face
theorem ggX5_askHour_X0_told : GoodIn wsX5_askHour wsX0_told := gi_ch ch_X5_askHour ch_X0_told (by decide +kernel)
set_option maxRecDepth 20000 in
theorem gX5_askHour_X0_told_n60 : GoodIn wsX5_askHour (wsX0_told) := ggX5_askHour_X0_told
theorem ggX5_settleHour_X9_loud : GoodIn wsX5_settleHour wsX9_loud := gi_ch ch_X5_settleHour ch_X9_loud (by decide +kernel)
set_option maxRecDepth 20000 in
theorem gX5_settleHour_X9_loud_n69 : GoodIn wsX5_settleHour (wsX9_loud) := ggX5_settleHour_X9_loud
theorem ggX5_leastCoal_X9_fact : GoodIn wsX5_leastCoal wsX9_fact := gi_ch ch_X5_leastCoal ch_X9_fact (by decide +kernel)
set_option maxRecDepth 20000 in
theorem gX5_leastCoal_X9_fact_n42 : GoodIn wsX5_leastCoal (wsX9_fact) := ggX5_leastCoal_X9_fact
theorem ggX5_leastCoal_X11_within : GoodIn wsX5_leastCoal wsX11_within := gi_ch ch_X5_leastCoal ch_X11_within (by decide +kernel)
set_option maxRecDepth 20000 in
theorem gX5_leastCoal_X11_within_n48 : GoodIn wsX5_leastCoal (wsX11_within) := ggX5_leastCoal_X11_within
theorem ggX5_leastCoal_X5_askHour : GoodIn wsX5_leastCoal wsX5_askHour := gi_ch ch_X5_leastCoal ch_X5_askHour (by decide +kernel)
theorem gX5_leastCoal_X5_askHour : GoodIn wsX5_leastCoal (wsV RX5 34 RX5 yX5_askHour wsX5_askHour) := gi_ch ch_X5_leastCoal (ch_v [685, 686, 57, 154] rfl ch_X5_askHour) (by decide +kernel)
theorem ggX5_leastCoal_X5_settleHour : GoodIn wsX5_leastCoal wsX5_settleHour := gi_ch ch_X5_leastCoal ch_X5_settleHour (by decide +kernel)
theorem gX5_leastCoal_X5_settleHour : GoodIn wsX5_leastCoal (wsV RX5 38 RX5 yX5_settleHour wsX5_settleHour) := gi_ch ch_X5_leastCoal (ch_v [689, 690, 58, 154] rfl ch_X5_settleHour) (by decide +kernel)
theorem ggX5_coalBy_X9_fact : GoodIn wsX5_coalBy wsX9_fact := gi_ch ch_X5_coalBy ch_X9_fact (by decide +kernel)
set_option maxRecDepth 20000 in
theorem gX5_coalBy_X9_fact_n42 : GoodIn wsX5_coalBy (wsX9_fact) := ggX5_coalBy_X9_fact
theorem ggX5_coalBy_X0_face : GoodIn wsX5_coalBy wsX0_face := gi_ch ch_X5_coalBy ch_X0_face (by decide +kernel)
set_option maxRecDepth 20000 in
theorem gX5_coalBy_X0_face_n56 : GoodIn wsX5_coalBy (wsX0_face) := ggX5_coalBy_X0_face
theorem ggX5_coalBy_X0_told : GoodIn wsX5_coalBy wsX0_told := gi_ch ch_X5_coalBy ch_X0_told (by decide +kernel)
set_option maxRecDepth 20000 in
theorem gX5_coalBy_X0_told_n60 : GoodIn wsX5_coalBy (wsX0_told) := ggX5_coalBy_X0_told
set_option maxRecDepth 100000 in
noncomputable def E_w_askHour_l9 (x : Int32) (y : Int32) (br : Int32) (fs : Nat → Int32) (f1 : Nat → Int32) (f2 : Nat → Int32) (rec_1117 : Int32 → (Nat → Int32) → (Nat → Int32) → (Nat → Int32) → ((Nat → Int32) × (Nat → Int32) × Int32 × (Nat → Int32) × (Nat → Int32))) (v_1057 : Int32) (f_1058 : Nat → Int32) (f_1059 : Nat → Int32) (f_1060 : Nat → Int32) : (Nat → Int32) × (Nat → Int32) × Int32 × (Nat → Int32) × (Nat → Int32) :=
  if 21 ≤ v_1057 then (((f_1058, f_1059, br, fs, f_1060) : (Nat → Int32) × (Nat → Int32) × Int32 × (Nat → Int32) × (Nat → Int32))) else (Lt (E_w_face x v_1057 y f_1060 f1 f2) (fun u_1121_2_1_0 => Lt (E_w_told_n 0 br fs u_1121_2_1_0) (fun r_1123 => Lt (upd f_1058 (v_1057 : Int32).toNatClampNeg r_1123 : Nat → Int32) (fun f_1127 => Lt (E_w_told_n 3 br fs u_1121_2_1_0) (fun r_1128 => if r_1128 = 1 then (Lt (upd f_1059 (v_1057 : Int32).toNatClampNeg (-1) : Nat → Int32) (fun f_1143 => Lt (v_1057 + Int32.ofInt 1 : Int32) (fun x_1144 => rec_1117 x_1144 f_1127 f_1143 u_1121_2_1_0))) else (Lt (E_w_told_n 1 br fs u_1121_2_1_0) (fun r_1134 => Lt (v_1057 + r_1134 : Int32) (fun x_1138 => Lt (if (x_1138 : Int32) < (20 : Int32) then (x_1138 : Int32) else (20 : Int32) : Int32) (fun x_1139 => Lt (upd f_1059 (v_1057 : Int32).toNatClampNeg x_1139 : Nat → Int32) (fun f_1140 => Lt (v_1057 + Int32.ofInt 1 : Int32) (fun x_1141 => rec_1117 x_1141 f_1127 f_1140 u_1121_2_1_0)))))))))))
set_option maxRecDepth 100000 in
noncomputable def E_w_askHour_l9a (G : Nat → LC) (x : Int32) (y : Int32) (f1 : Nat → Int32) (f2 : Nat → Int32) (q_942 : Nat) (rec_1347 : Int32 → Int32 → (Nat → Int32) → (Nat → Int32) → (Nat → Int32) → (Nat → Int32) → ((Nat → Int32) × (Nat → Int32) × Int32 × (Nat → Int32) × (Nat → Int32))) (v_1277 : Int32) (v_1278 : Int32) (f_1279 : Nat → Int32) (f_1280 : Nat → Int32) (f_1281 : Nat → Int32) (f_1282 : Nat → Int32) : (Nat → Int32) × (Nat → Int32) × Int32 × (Nat → Int32) × (Nat → Int32) :=
  if 21 ≤ v_1277 then (((f_1279, f_1280, v_1278, f_1281, f_1282) : (Nat → Int32) × (Nat → Int32) × Int32 × (Nat → Int32) × (Nat → Int32))) else (Lt (E_w_face x v_1277 y f_1282 f1 f2) (fun u_1351_2_1_0 => Lt2 (E_w_told (G q_942).1 (G q_942).2.1 (G q_942).2.2.1 (G q_942).2.2.2.1 (G q_942).2.2.2.2.1 0 v_1278 f_1281 u_1351_2_1_0) (fun r_1353 q0_r_1353 => Lt2 q0_r_1353 (fun u_1354_2_2_2_1_0 u_1354_2_1_0 => Lt (upd f_1279 (v_1277 : Int32).toNatClampNeg r_1353 : Nat → Int32) (fun f_1358 => Lt2 (E_w_told (G q_942).1 (G q_942).2.1 (G q_942).2.2.1 (G q_942).2.2.2.1 (G q_942).2.2.2.2.1 3 u_1354_2_2_2_1_0 u_1354_2_1_0 u_1351_2_1_0) (fun r_1359 q0_r_1359 => Lt2 q0_r_1359 (fun u_1360_2_2_2_1_0 u_1360_2_1_0 => if r_1359 = 1 then (Lt (upd f_1280 (v_1277 : Int32).toNatClampNeg (-1) : Nat → Int32) (fun f_1376 => Lt (v_1277 + Int32.ofInt 1 : Int32) (fun x_1377 => rec_1347 x_1377 u_1360_2_2_2_1_0 f_1358 f_1376 u_1360_2_1_0 u_1351_2_1_0))) else (Lt2 (E_w_told (G q_942).1 (G q_942).2.1 (G q_942).2.2.1 (G q_942).2.2.2.1 (G q_942).2.2.2.2.1 1 u_1360_2_2_2_1_0 u_1360_2_1_0 u_1351_2_1_0) (fun r_1366 q0_r_1366 => Lt2 q0_r_1366 (fun u_1367_2_2_2_1_0 u_1367_2_1_0 => Lt (v_1277 + r_1366 : Int32) (fun x_1371 => Lt (if (x_1371 : Int32) < (20 : Int32) then (x_1371 : Int32) else (20 : Int32) : Int32) (fun x_1372 => Lt (upd f_1280 (v_1277 : Int32).toNatClampNeg x_1372 : Nat → Int32) (fun f_1373 => Lt (v_1277 + Int32.ofInt 1 : Int32) (fun x_1374 => rec_1347 x_1374 u_1367_2_2_2_1_0 f_1358 f_1373 u_1367_2_1_0 u_1351_2_1_0))))))))))))))
set_option maxRecDepth 100000 in
noncomputable def E_w_askHour (G : Nat → LC) (x : Int32) (y : Int32) (fb : Nat → Int32) (ff : Nat → Int32) (br : Int32) (fs : Nat → Int32) (fw : Nat → Int32) (n : Int32) (lt : Int32) (nf : Int32) (fi : Int32) (f1 : Nat → Int32) (f2 : Nat → Int32) (f3 : Nat → Int32) (fl : Nat → Option Nat) : (Nat → Int32) × (Nat → Int32) × Int32 × (Nat → Int32) × (Nat → Int32) :=
  Lt (E_w_lawInForce lt nf fl) (fun r_939 => Oc r_939 (Lp (α := Int32 → (Nat → Int32) → (Nat → Int32) → (Nat → Int32) → ((Nat → Int32) × (Nat → Int32) × Int32 × (Nat → Int32) × (Nat → Int32))) (E_w_askHour_l9 x y br fs f1 f2) (fun _ _ _ _ => ((fun _ => 0, fun _ => 0, 0, fun _ => 0, fun _ => 0) : (Nat → Int32) × (Nat → Int32) × Int32 × (Nat → Int32) × (Nat → Int32))) ((22 - (0 : Int32).toInt : Int).toNat + 1) 0 fb ff fw) (fun q_942 => Lp (α := Int32 → Int32 → (Nat → Int32) → (Nat → Int32) → (Nat → Int32) → (Nat → Int32) → ((Nat → Int32) × (Nat → Int32) × Int32 × (Nat → Int32) × (Nat → Int32))) (E_w_askHour_l9a G x y f1 f2 q_942) (fun _ _ _ _ _ _ => ((fun _ => 0, fun _ => 0, 0, fun _ => 0, fun _ => 0) : (Nat → Int32) × (Nat → Int32) × Int32 × (Nat → Int32) × (Nat → Int32))) ((22 - (0 : Int32).toInt : Int).toNat + 1) 0 br fb ff fs fw))
set_option maxHeartbeats 4000000 in
set_option maxRecDepth 100000 in
theorem w_askHour (l : Launch) (D : va_G) (K : Nat → ClassId) (g : Nat → Nat) (L : Nat → Prop) (G : Nat → LC) (p0 : Nat) (t0 : Nat) (x : Int32) (y : Int32) (a0 : Nat) (p1 : Nat) (p2 : Nat) (p3 : Nat) (p4 : Nat) (p5 : Nat) (fb : Nat → Int32) (ff : Nat → Int32) (m0 : Nat) (w0 : Nat) (m1 : Nat) (br : Int32) (fs : Nat → Int32) (fw : Nat → Int32) (t1 : Nat) (t3 : Nat) (t2 : Nat) (l0 : Nat) (n : Int32) (lt : Int32) (nf : Int32) (fi : Int32) (k_8 : Value) (k_9 : Value) (f1 : Nat → Int32) (gt : Nat → Int32) (f2 : Nat → Int32) (f3 : Nat → Int32) (gc : Nat → Int32) (fl : Nat → Option Nat) (sz : Nat) (zn : 0 ≤ n.toInt ∧ n.toInt ≤ 8) (zlt : 0 ≤ lt.toInt ∧ lt.toInt ≤ 6) (zbr : 0 ≤ br.toInt ∧ br.toInt ≤ 1) (zfb : Rg 21 0 999 fb) (zff : Rg 21 (-1) 20 ff) (zgt : FzC gt f1) (zgc : FzH gc f3) (zfl : InL L fl) : Met l yX5_askHour wsX5_askHour ({ frames := 3, cells := 0, slots := 0, locals := 81 }) (va_Pc [.ref p0, .ref t0, .int x, .int y] (PreY D K [(p0, .inr (5, [.ref a0, .ref p1, .ref p2, .ref p3, .ref p4, .ref p5])), (p1, .inl (K 0, 21, .inl fb)), (p2, .inl (K 0, 21, .inl ff)), (a0, .inr (0, [.ref m0, .ref w0])), (m0, .inr (3, [.ref m1, .int br])), (m1, .inl (K 0, 64, .inl fs)), (w0, .inl (K 0, 9, .inl fw)), (t0, .inr (9, [.ref t1, .ref t3, .ref t2, .ref l0, .int n, .int lt, .int nf, .int fi, k_8, k_9])), (t1, .inl (K 0, 56, .inl f1)), (t2, .inl (K 0, 6, .inl f2)), (t3, .inl (K 0, 24, .inl f3)), (l0, .inl (K 4, 6, .inr (.inr (.inr (.inr fl)))))] [] sz g L G (va_A [(p0, .inr (5, [.ref a0, .ref p1, .ref p2, .ref p3, .ref p4, .ref p5])), (p1, .inl (K 0, 21, .inl fb)), (p2, .inl (K 0, 21, .inl ff)), (a0, .inr (0, [.ref m0, .ref w0])), (m0, .inr (3, [.ref m1, .int br])), (m1, .inl (K 0, 64, .inl fs)), (w0, .inl (K 0, 9, .inl fw)), (t0, .inr (9, [.ref t1, .ref t3, .ref t2, .ref l0, .int n, .int lt, .int nf, .int fi, k_8, k_9])), (t1, .inl (K 0, 56, .inl f1)), (t2, .inl (K 0, 6, .inl f2)), (t3, .inl (K 0, 24, .inl f3)), (l0, .inl (K 4, 6, .inr (.inr (.inr (.inr fl)))))] sz))) (va_Qv (S := Su) (fun (u : Su) => (Rg 21 0 999 (u.2.1 0)) ∧ (Rg 21 (-1) 20 (u.2.1 1)) ∧ (0 ≤ (u.2.2.2.1 0).toInt ∧ (u.2.2.2.1 0).toInt ≤ 1) ∧ (((u.2.1 0), (u.2.1 1), (u.2.2.2.1 0), (u.2.1 2), (u.2.1 3)) = E_w_askHour G x y fb ff br fs fw n lt nf fi f1 f2 f3 fl) ∧ True) (fun u t => Wd D (va_A [(p0, .inr (5, [.ref a0, .ref p1, .ref p2, .ref p3, .ref p4, .ref p5])), (p1, .inl (K 0, 21, .inl fb)), (p2, .inl (K 0, 21, .inl ff)), (a0, .inr (0, [.ref m0, .ref w0])), (m0, .inr (3, [.ref m1, .int br])), (m1, .inl (K 0, 64, .inl fs)), (w0, .inl (K 0, 9, .inl fw)), (t0, .inr (9, [.ref t1, .ref t3, .ref t2, .ref l0, .int n, .int lt, .int nf, .int fi, k_8, k_9])), (t1, .inl (K 0, 56, .inl f1)), (t2, .inl (K 0, 6, .inl f2)), (t3, .inl (K 0, 24, .inl f3)), (l0, .inl (K 4, 6, .inr (.inr (.inr (.inr fl)))))] sz) ((fun u => [(p0, .inr (5, [.ref a0, .ref p1, .ref p2, .ref p3, .ref p4, .ref p5])), (p1, .inl (K 0, 21, .inl (u.2.1 0))), (p2, .inl (K 0, 21, .inl (u.2.1 1))), (a0, .inr (0, [.ref m0, .ref w0])), (m0, .inr (3, [.ref m1, .int (u.2.2.2.1 0)])), (m1, .inl (K 0, 64, .inl (u.2.1 2))), (w0, .inl (K 0, 9, .inl (u.2.1 3))), (t0, .inr (9, [.ref t1, .ref t3, .ref t2, .ref l0, .int n, .int lt, .int nf, .int fi, k_8, k_9])), (t1, .inl (K 0, 56, .inl f1)), (t2, .inl (K 0, 6, .inl f2)), (t3, .inl (K 0, 24, .inl f3)), (l0, .inl (K 4, 6, .inr (.inr (.inr (.inr fl)))))]) u) t) (va_A [(p0, .inr (5, [.ref a0, .ref p1, .ref p2, .ref p3, .ref p4, .ref p5])), (p1, .inl (K 0, 21, .inl fb)), (p2, .inl (K 0, 21, .inl ff)), (a0, .inr (0, [.ref m0, .ref w0])), (m0, .inr (3, [.ref m1, .int br])), (m1, .inl (K 0, 64, .inl fs)), (w0, .inl (K 0, 9, .inl fw)), (t0, .inr (9, [.ref t1, .ref t3, .ref t2, .ref l0, .int n, .int lt, .int nf, .int fi, k_8, k_9])), (t1, .inl (K 0, 56, .inl f1)), (t2, .inl (K 0, 6, .inl f2)), (t3, .inl (K 0, 24, .inl f3)), (l0, .inl (K 4, 6, .inr (.inr (.inr (.inr fl)))))] sz)) 0 0 (va_A [(p0, .inr (5, [.ref a0, .ref p1, .ref p2, .ref p3, .ref p4, .ref p5])), (p1, .inl (K 0, 21, .inl fb)), (p2, .inl (K 0, 21, .inl ff)), (a0, .inr (0, [.ref m0, .ref w0])), (m0, .inr (3, [.ref m1, .int br])), (m1, .inl (K 0, 64, .inl fs)), (w0, .inl (K 0, 9, .inl fw)), (t0, .inr (9, [.ref t1, .ref t3, .ref t2, .ref l0, .int n, .int lt, .int nf, .int fi, k_8, k_9])), (t1, .inl (K 0, 56, .inl f1)), (t2, .inl (K 0, 6, .inl f2)), (t3, .inl (K 0, 24, .inl f3)), (l0, .inl (K 4, 6, .inr (.inr (.inr (.inr fl)))))] sz) := by
  refine Met.ofW (cc := cX5_askHour) (maxL := 7) (ret := none) (by decide +kernel) rfl ?_
  intro p e s m args below meth c s₁ B hml hv
  obtain ⟨rfl, ⟨hsz, hP, hK, hD0, hN⟩, hG, hPl, hRo⟩ := hv
  have hx := B.exec
  have hb := B.bytes
  have hr := B.returns
  have hts := atoms_spec (ws := wsX5_askHour) B.pre
  have hown : s.vm.findClass RX5 = some m.cls := findClass_of_methodNamed B.named
  have hlocks := B.notSynchronized
  subst hsz
  have hD := hD0.self (sz := s.heap.size)
  generalize hAe : va_A [(p0, .inr (5, [.ref a0, .ref p1, .ref p2, .ref p3, .ref p4, .ref p5])), (p1, .inl (K 0, 21, .inl fb)), (p2, .inl (K 0, 21, .inl ff)), (a0, .inr (0, [.ref m0, .ref w0])), (m0, .inr (3, [.ref m1, .int br])), (m1, .inl (K 0, 64, .inl fs)), (w0, .inl (K 0, 9, .inl fw)), (t0, .inr (9, [.ref t1, .ref t3, .ref t2, .ref l0, .int n, .int lt, .int nf, .int fi, k_8, k_9])), (t1, .inl (K 0, 56, .inl f1)), (t2, .inl (K 0, 6, .inl f2)), (t3, .inl (K 0, 24, .inl f3)), (l0, .inl (K 4, 6, .inr (.inr (.inr (.inr fl)))))] s.heap.size = A at hD hG hPl hRo ⊢
  have hA : ∀ q : Nat, s.heap.size ≤ q → A q := fun q h => by rw [← hAe]; exact Or.inr h
  clear hAe
  have hS : va_S A s.heap s.heap [] := va_S.rf
  replace hP : va_P D vwCl [(p0, .inr (5, [.ref a0, .ref p1, .ref p2, .ref p3, .ref p4, .ref p5])), (p1, .inl (K 0, 21, .inl fb)), (p2, .inl (K 0, 21, .inl ff)), (a0, .inr (0, [.ref m0, .ref w0])), (m0, .inr (3, [.ref m1, .int br])), (m1, .inl (K 0, 64, .inl fs)), (w0, .inl (K 0, 9, .inl fw)), (t0, .inr (9, [.ref t1, .ref t3, .ref t2, .ref l0, .int n, .int lt, .int nf, .int fi, k_8, k_9])), (t1, .inl (K 0, 56, .inl f1)), (t2, .inl (K 0, 6, .inl f2)), (t3, .inl (K 0, 24, .inl f3)), (l0, .inl (K 4, 6, .inr (.inr (.inr (.inr fl)))))] s.heap := hP
  have hl := lv_entry [.ref p0, .ref t0, .int x, .int y] (n := 7) (Nat.le_of_ble_eq_true rfl)
  rw [lg_entry_eq]
  generalize (lg_sl [.ref p0, .ref t0, .int x, .int y] ++ List.replicate (7 - (lg_sl [.ref p0, .ref t0, .int x, .int y]).length) Slot.unset).toArray = ls at hl ⊢
  have hl : lv_has ls 7 [(0, .ref p0), (1, .ref t0), (2, .int x), (3, .int y)] := hl
  have hw0 : ∀ w ∈ wsX00, w ∈ wsX5_askHour := fun w h => (List.mem_cons_of_mem _ (List.mem_append_left _ (List.mem_append_left _ (List.mem_append_right _ h))))
  have hw3 : ∀ w ∈ wsX30, w ∈ wsX5_askHour := fun w h => (List.mem_cons_of_mem _ (List.mem_append_right _ h))
  have hw5 : ∀ w ∈ wsX50, w ∈ wsX5_askHour := fun w h => (List.mem_cons_of_mem _ (List.mem_append_left _ (List.mem_append_left _ (List.mem_append_left _ (List.mem_append_left _ (List.mem_append_right _ h))))))
  have hw7 : ∀ w ∈ wsX70, w ∈ wsX5_askHour := fun w h => (List.mem_cons_of_mem _ (List.mem_append_left _ (List.mem_append_right _ h)))
  have hw9 : ∀ w ∈ wsX90, w ∈ wsX5_askHour := fun w h => (List.mem_cons_of_mem _ (List.mem_append_left _ (List.mem_append_left _ (List.mem_append_left _ (List.mem_append_right _ h)))))
  generalize hQ : MQ below _ _ s _ _ _ = Q
  have hE := E_w_askHour.eq_def G x y fb ff br fs fw n lt nf fi f1 f2 f3 fl
  refine lv_aload_n hx hb dX5_askHour_0 rfl (lv_at hl 1 rfl) ?_
  refine pcq (va_runVN (As := []) (rest := []) ⟨hx, hb, hml, hown, hts⟩ (w_lawInForce l D K g L G t0 (.ref t1) (.ref t3) (.ref t2) l0 (.int n) lt nf (.int fi) k_8 k_9 fl s.heap.size (by first | omega | decide) zfl) ⟨va_cnB 0 hts gX5_askHour_X9_lawInForce_n52 rfl rfl rfl (nst_at hN 77 rfl) (hts _ mm_X5_askHour_145) (by decide +kernel) ⟨Nat.le_of_ble_eq_true rfl, Nat.le_of_ble_eq_true rfl⟩, (hts _ mm_X5_askHour_406), (hts _ mm_X5_askHour_11)⟩ (mkVY hK hN (hP.sub [7, 11] rfl) (hD.sub [7, 11] (by decide +kernel) rfl) (ci := 9) (q0 := 0) rfl rfl (fun U hU hW => ⟨Gl.at hG hS hW hU (fun _ h9 => h9.elim), Pool.at hPl hS hU (fun _ h9 => h9.elim), Ro.heap hU (Ro.nil)⟩)) rfl rfl hl.1 rfl (lv_room (Nat.le_of_ble_eq_true rfl)) dX5_askHour_1 ⟨Nat.le_of_ble_eq_true rfl, Nat.le_of_ble_eq_true rfl⟩) (fun r_939 hw => ?_)
  obtain ⟨hw, k_941⟩ := hw
  have hr_939 : InLo L r_939 := hw
  replace hE := hE.trans (Lt_in k_941)
  rcases r_939 with _ | q_942
  · replace hE := hE.trans Oc_n
    have hl : lv_has ls 7 [(0, .ref p0), (1, .ref t0), (2, .int x), (3, .int y)] := hl
    refine W.eq (g2 := F0 m 4 ls [.null]) rfl ?_
    refine lv_astoreN (lv' := [(4, .null), (0, .ref p0), (1, .ref t0), (2, .int x), (3, .int y)]) hx hb dX5_askHour_4 hl (by decide +kernel) rfl (fun ls hl => ?_)
    refine lv_iconst (v := 0) hx hb dX5_askHour_6 (by decide +kernel) ?_
    refine lv_istore (lv' := [(5, .int 0), (4, .null), (0, .ref p0), (1, .ref t0), (2, .int x), (3, .int y)]) hx hb dX5_askHour_7 hl (by decide +kernel) rfl (fun ls hl => ?_)
    have lp_1117 : ∀ (nn_ : Nat) (v_1057 : Int32) (f_1058 : Nat → Int32) (f_1059 : Nat → Int32) (f_1060 : Nat → Int32) (hv_1057 : 0 ≤ v_1057.toInt ∧ v_1057.toInt ≤ 21) (hf_1058_0 : Rg 21 0 999 f_1058) (hf_1059_0 : Rg 21 (-1) 20 f_1059) (hn : (22 - v_1057.toInt : Int).toNat < nn_) (hE : E_w_askHour G x y fb ff br fs fw n lt nf fi f1 f2 f3 fl = Lp (α := Int32 → (Nat → Int32) → (Nat → Int32) → (Nat → Int32) → ((Nat → Int32) × (Nat → Int32) × Int32 × (Nat → Int32) × (Nat → Int32))) (E_w_askHour_l9 x y br fs f1 f2) (fun _ _ _ _ => ((fun _ => 0, fun _ => 0, 0, fun _ => 0, fun _ => 0) : (Nat → Int32) × (Nat → Int32) × Int32 × (Nat → Int32) × (Nat → Int32))) nn_ v_1057 f_1058 f_1059 f_1060) (H : Heap) (locs : List Loc) (hP : va_P D vwCl [(p0, .inr (5, [.ref a0, .ref p1, .ref p2, .ref p3, .ref p4, .ref p5])), (p1, .inl (K 0, 21, .inl f_1058)), (p2, .inl (K 0, 21, .inl f_1059)), (a0, .inr (0, [.ref m0, .ref w0])), (m0, .inr (3, [.ref m1, .int br])), (m1, .inl (K 0, 64, .inl fs)), (w0, .inl (K 0, 9, .inl f_1060)), (t0, .inr (9, [.ref t1, .ref t3, .ref t2, .ref l0, .int n, .int lt, .int nf, .int fi, k_8, k_9])), (t1, .inl (K 0, 56, .inl f1)), (t2, .inl (K 0, 6, .inl f2)), (t3, .inl (K 0, 24, .inl f3)), (l0, .inl (K 4, 6, .inr (.inr (.inr (.inr fl)))))] H) (hD : va_D A [(p0, .inr (5, [.ref a0, .ref p1, .ref p2, .ref p3, .ref p4, .ref p5])), (p1, .inl (K 0, 21, .inl f_1058)), (p2, .inl (K 0, 21, .inl f_1059)), (a0, .inr (0, [.ref m0, .ref w0])), (m0, .inr (3, [.ref m1, .int br])), (m1, .inl (K 0, 64, .inl fs)), (w0, .inl (K 0, 9, .inl f_1060)), (t0, .inr (9, [.ref t1, .ref t3, .ref t2, .ref l0, .int n, .int lt, .int nf, .int fi, k_8, k_9])), (t1, .inl (K 0, 56, .inl f1)), (t2, .inl (K 0, 6, .inl f2)), (t3, .inl (K 0, 24, .inl f3)), (l0, .inl (K 4, 6, .inr (.inr (.inr (.inr fl)))))]) (hS : va_S A s.heap H locs) (ls : Array Slot) (hl : lv_has ls 7 [(5, .int v_1057), (4, .null), (0, .ref p0), (1, .ref t0), (2, .int x), (3, .int y)]), W p l e ({ frames := 3, cells := 0, slots := 0, locals := 81 }) s m (([.ref p0, .ref t0, .int x, .int y] : List Value).toArray) below meth c H locs 0 0 Q (F0 m 9 ls []) := by
      clear hE hP hD hS hl
      intro nn_
      induction nn_ with
      | zero =>
        intro v_1057 f_1058 f_1059 f_1060 hv_1057 hf_1058_0 hf_1059_0 hn hE H locs hP hD hS ls hl
        exact absurd hn (Nat.not_lt_zero _)
      | succ nn_ ih_1118 =>
        intro v_1057 f_1058 f_1059 f_1060 hv_1057 hf_1058_0 hf_1059_0 hn hE H locs hP hD hS ls hl
        replace hE : E_w_askHour G x y fb ff br fs fw n lt nf fi f1 f2 f3 fl = E_w_askHour_l9 x y br fs f1 f2 (Lp (α := Int32 → (Nat → Int32) → (Nat → Int32) → (Nat → Int32) → ((Nat → Int32) × (Nat → Int32) × Int32 × (Nat → Int32) × (Nat → Int32))) (E_w_askHour_l9 x y br fs f1 f2) (fun _ _ _ _ => ((fun _ => 0, fun _ => 0, 0, fun _ => 0, fun _ => 0) : (Nat → Int32) × (Nat → Int32) × Int32 × (Nat → Int32) × (Nat → Int32))) nn_) v_1057 f_1058 f_1059 f_1060 := hE
        obtain ⟨rec_1117, hrec_1117⟩ : ∃ z9, z9 = Lp (α := Int32 → (Nat → Int32) → (Nat → Int32) → (Nat → Int32) → ((Nat → Int32) × (Nat → Int32) × Int32 × (Nat → Int32) × (Nat → Int32))) (E_w_askHour_l9 x y br fs f1 f2) (fun _ _ _ _ => ((fun _ => 0, fun _ => 0, 0, fun _ => 0, fun _ => 0) : (Nat → Int32) × (Nat → Int32) × Int32 × (Nat → Int32) × (Nat → Int32))) nn_ := ⟨_, rfl⟩
        rw [← hrec_1117] at hE
        replace hE := hE.trans (E_w_askHour_l9.eq_def _ _ _ _ _ _ _ _ _ _ _)
        refine lv_iload hx hb dX5_askHour_9 (lv_at hl 0 rfl) ?_
        refine lv_bipush (v := 21) hx hb dX5_askHour_11 (by decide +kernel) ?_
        refine lv_icmp_ge (tgt := 106) hx hb dX5_askHour_13 (by decide +kernel) (fun c_1119 => ?_) (fun c_1119 => ?_)
        · have c_1119i := i_le (x := 21) (y := v_1057.toInt) rfl rfl c_1119
          replace hE := hE.trans (if_pos c_1119)
          rw [← hQ]
          have hP9 := hP.sub (ws' := [(p0, .inr (5, [.ref a0, .ref p1, .ref p2, .ref p3, .ref p4, .ref p5])), (p1, .inl (K 0, 21, .inl f_1058)), (p2, .inl (K 0, 21, .inl f_1059)), (a0, .inr (0, [.ref m0, .ref w0])), (m0, .inr (3, [.ref m1, .int br])), (m1, .inl (K 0, 64, .inl fs)), (w0, .inl (K 0, 9, .inl f_1060)), (t0, .inr (9, [.ref t1, .ref t3, .ref t2, .ref l0, .int n, .int lt, .int nf, .int fi, k_8, k_9])), (t1, .inl (K 0, 56, .inl f1)), (t2, .inl (K 0, 6, .inl f2)), (t3, .inl (K 0, 24, .inl f3)), (l0, .inl (K 4, 6, .inr (.inr (.inr (.inr fl)))))]) [0, 1, 2, 3, 4, 5, 6, 7, 8, 9, 10, 11] rfl
          have hD9 := hD.sub (ws' := [(p0, .inr (5, [.ref a0, .ref p1, .ref p2, .ref p3, .ref p4, .ref p5])), (p1, .inl (K 0, 21, .inl f_1058)), (p2, .inl (K 0, 21, .inl f_1059)), (a0, .inr (0, [.ref m0, .ref w0])), (m0, .inr (3, [.ref m1, .int br])), (m1, .inl (K 0, 64, .inl fs)), (w0, .inl (K 0, 9, .inl f_1060)), (t0, .inr (9, [.ref t1, .ref t3, .ref t2, .ref l0, .int n, .int lt, .int nf, .int fi, k_8, k_9])), (t1, .inl (K 0, 56, .inl f1)), (t2, .inl (K 0, 6, .inl f2)), (t3, .inl (K 0, 24, .inl f3)), (l0, .inl (K 4, 6, .inr (.inr (.inr (.inr fl)))))]) [0, 1, 2, 3, 4, 5, 6, 7, 8, 9, 10, 11] (by decide +kernel) rfl
          exact W.vret hx hb hr (fun t ht hW => ⟨⟨((fun _ => 0, fun i => match i with | 0 => f_1058 | 1 => f_1059 | 2 => fs | _ => f_1060, fun _ => fun _ => 0, fun i => match i with | _ => br, fun _ => 0, fun _ => fun _ => none) : Su), rfl, ⟨hf_1058_0, hf_1059_0, (show 0 ≤ (br : Int32).toInt ∧ (br : Int32).toInt ≤ 1 by omega), hE.symm, trivial⟩, (⟨by rw [ht]; exact hP9, hD9⟩ : Wd D A _ t)⟩, hS.F ht⟩) hS.2.2 dX5_askHour_106
        · have c_1119i := i_nle (x := 21) (y := v_1057.toInt) rfl rfl c_1119
          replace hE := hE.trans (if_neg c_1119)
          refine lv_aload_n hx hb dX5_askHour_16 rfl (lv_at hl 2 rfl) ?_
          refine va_get (ci := 5) (v := .ref a0) (C := RX5) (T := TX5) (N := 6) hx hb hts hw5 hown hK hP 0 rfl rfl 0 (by decide +kernel) (hts _ mm_X5_askHour_307) (fun _ h9 => h9) rfl dX5_askHour_17 ?_
          refine lv_aload_n hx hb dX5_askHour_20 rfl (lv_at hl 3 rfl) ?_
          refine lv_iload_n hx hb dX5_askHour_21 rfl (lv_at hl 4 rfl) ?_
          refine lv_iload hx hb dX5_askHour_22 (lv_at hl 0 rfl) ?_
          refine lv_iload_n hx hb dX5_askHour_24 rfl (lv_at hl 5 rfl) ?_
          refine kcv (S := Su) (wr := [(p0, .inr (5, [.ref a0, .ref p1, .ref p2, .ref p3, .ref p4, .ref p5])), (p1, .inl (K 0, 21, .inl f_1058)), (p2, .inl (K 0, 21, .inl f_1059)), (m0, .inr (3, [.ref m1, .int br])), (m1, .inl (K 0, 64, .inl fs)), (t3, .inl (K 0, 24, .inl f3)), (l0, .inl (K 4, 6, .inr (.inr (.inr (.inr fl)))))]) (va_runVN (As := [.ref t0, .int x, .int v_1057, .int y]) (rest := []) ⟨hx, hb, hml, hown, hts⟩ (w_face l D K a0 t0 x v_1057 y (.ref m0) w0 f_1060 t1 (.ref t3) t2 (.ref l0) (.int n) (.int lt) (.int nf) (.int fi) k_8 k_9 f1 f2 H.size) ⟨va_cnB 4 hts gX5_askHour_X0_face_n56 rfl rfl rfl (nst_at hN 78 rfl) (hts _ mm_X5_askHour_151) (by decide +kernel) ⟨Nat.le_of_ble_eq_true rfl, Nat.le_of_ble_eq_true rfl⟩, (hts _ mm_X5_askHour_404), (hts _ mm_X5_askHour_10)⟩ (mkV hK hN (hP.sub [3, 6, 7, 8, 9] rfl) (hD.sub [3, 6, 7, 8, 9] (by decide +kernel) rfl) (ci := 0) (q0 := 0) rfl rfl) rfl rfl hl.1 rfl (lv_room (Nat.le_of_ble_eq_true rfl)) dX5_askHour_25 ⟨Nat.le_of_ble_eq_true rfl, Nat.le_of_ble_eq_true rfl⟩) hP hD hS hA [3, 6, 7, 8, 9] [0, 1, 2, 4, 5, 10, 11] rfl rfl (by decide +kernel) (by decide +kernel) (fun u_1121 H locs hw hP0 hD0 hS0 => ?_)
          clear hP hD hS
          have hP := hP0
          have hD := hD0
          have hS := hS0
          clear hP0 hD0 hS0
          replace hP : va_P D vwCl [(p0, .inr (5, [.ref a0, .ref p1, .ref p2, .ref p3, .ref p4, .ref p5])), (p1, .inl (K 0, 21, .inl f_1058)), (p2, .inl (K 0, 21, .inl f_1059)), (m0, .inr (3, [.ref m1, .int br])), (m1, .inl (K 0, 64, .inl fs)), (t3, .inl (K 0, 24, .inl f3)), (l0, .inl (K 4, 6, .inr (.inr (.inr (.inr fl))))), (a0, .inr (0, [.ref m0, .ref w0])), (w0, .inl (K 0, 9, .inl (u_1121.2.1 0))), (t0, .inr (9, [.ref t1, .ref t3, .ref t2, .ref l0, .int n, .int lt, .int nf, .int fi, k_8, k_9])), (t1, .inl (K 0, 56, .inl f1)), (t2, .inl (K 0, 6, .inl f2))] H := hP
          replace hD : va_D A [(p0, .inr (5, [.ref a0, .ref p1, .ref p2, .ref p3, .ref p4, .ref p5])), (p1, .inl (K 0, 21, .inl f_1058)), (p2, .inl (K 0, 21, .inl f_1059)), (m0, .inr (3, [.ref m1, .int br])), (m1, .inl (K 0, 64, .inl fs)), (t3, .inl (K 0, 24, .inl f3)), (l0, .inl (K 4, 6, .inr (.inr (.inr (.inr fl))))), (a0, .inr (0, [.ref m0, .ref w0])), (w0, .inl (K 0, 9, .inl (u_1121.2.1 0))), (t0, .inr (9, [.ref t1, .ref t3, .ref t2, .ref l0, .int n, .int lt, .int nf, .int fi, k_8, k_9])), (t1, .inl (K 0, 56, .inl f1)), (t2, .inl (K 0, 6, .inl f2))] := hD
          obtain ⟨k_1122, -⟩ := hw
          replace hE := hE.trans (Lt_in k_1122)
          refine lv_aload_n hx hb dX5_askHour_28 rfl (lv_at hl 2 rfl) ?_
          refine va_get (ci := 5) (v := .ref p1) (C := RX5) (T := TX5) (N := 6) hx hb hts hw5 hown hK hP 0 rfl rfl 1 (by decide +kernel) (hts _ mm_X5_askHour_308) (fun _ h9 => h9) rfl dX5_askHour_29 ?_
          refine lv_iload hx hb dX5_askHour_32 (lv_at hl 0 rfl) ?_
          refine lv_aload_n hx hb dX5_askHour_34 rfl (lv_at hl 2 rfl) ?_
          refine va_get (ci := 5) (v := .ref a0) (C := RX5) (T := TX5) (N := 6) hx hb hts hw5 hown hK hP 0 rfl rfl 0 (by decide +kernel) (hts _ mm_X5_askHour_307) (fun _ h9 => h9) rfl dX5_askHour_35 ?_
          refine lv_aloadN hx hb dX5_askHour_38 (lv_at hl 1 rfl) ?_
          refine lv_iconst (v := 0) hx hb dX5_askHour_40 (by decide +kernel) ?_
          refine kci (S := Su) (wr := [(p0, .inr (5, [.ref a0, .ref p1, .ref p2, .ref p3, .ref p4, .ref p5])), (p1, .inl (K 0, 21, .inl f_1058)), (p2, .inl (K 0, 21, .inl f_1059)), (t3, .inl (K 0, 24, .inl f3)), (l0, .inl (K 4, 6, .inr (.inr (.inr (.inr fl))))), (t0, .inr (9, [.ref t1, .ref t3, .ref t2, .ref l0, .int n, .int lt, .int nf, .int fi, k_8, k_9])), (t1, .inl (K 0, 56, .inl f1)), (t2, .inl (K 0, 6, .inl f2))]) (va_runVN (As := [.null, .int 0]) (rest := [.int v_1057, .ref p1]) ⟨hx, hb, hml, hown, hts⟩ (w_told_n l D K g L G a0 0 m0 w0 m1 br fs (u_1121.2.1 0) H.size (by first | omega | decide) (by first | omega | decide)) ⟨va_cnB 2 hts gX5_askHour_X0_told_n60 rfl rfl rfl (nst_at hN 79 rfl) (hts _ mm_X5_askHour_151) (by decide +kernel) ⟨Nat.le_of_ble_eq_true rfl, Nat.le_of_ble_eq_true rfl⟩, (hts _ mm_X5_askHour_411), (hts _ mm_X5_askHour_13)⟩ (mkVY hK hN (hP.sub [7, 3, 4, 8] rfl) (hD.sub [7, 3, 4, 8] (by decide +kernel) rfl) (ci := 0) (q0 := 0) rfl rfl (fun U hU hW => ⟨Gl.at hG hS hW hU (fun q h => va_free hD hS hA [7, 3, 4, 8] rfl q h), Pool.at hPl hS hU (fun q h => va_free hD hS hA [7, 3, 4, 8] rfl q h), Ro.heap hU (Ro.nil)⟩)) rfl rfl hl.1 rfl (lv_room (Nat.le_of_ble_eq_true rfl)) dX5_askHour_41 ⟨Nat.le_of_ble_eq_true rfl, Nat.le_of_ble_eq_true rfl⟩) hP hD hS hA [7, 3, 4, 8] [0, 1, 2, 5, 6, 9, 10, 11] rfl rfl (by decide +kernel) (by decide +kernel) (fun r_1123 u_1124 H locs hw hP0 hD0 hS0 => ?_)
          clear hP hD hS
          have hP := hP0
          have hD := hD0
          have hS := hS0
          clear hP0 hD0 hS0
          replace hP : va_P D vwCl [(p0, .inr (5, [.ref a0, .ref p1, .ref p2, .ref p3, .ref p4, .ref p5])), (p1, .inl (K 0, 21, .inl f_1058)), (p2, .inl (K 0, 21, .inl f_1059)), (t3, .inl (K 0, 24, .inl f3)), (l0, .inl (K 4, 6, .inr (.inr (.inr (.inr fl))))), (t0, .inr (9, [.ref t1, .ref t3, .ref t2, .ref l0, .int n, .int lt, .int nf, .int fi, k_8, k_9])), (t1, .inl (K 0, 56, .inl f1)), (t2, .inl (K 0, 6, .inl f2)), (a0, .inr (0, [.ref m0, .ref w0])), (m0, .inr (3, [.ref m1, .int br])), (m1, .inl (K 0, 64, .inl fs)), (w0, .inl (K 0, 9, .inl (u_1121.2.1 0)))] H := hP
          replace hD : va_D A [(p0, .inr (5, [.ref a0, .ref p1, .ref p2, .ref p3, .ref p4, .ref p5])), (p1, .inl (K 0, 21, .inl f_1058)), (p2, .inl (K 0, 21, .inl f_1059)), (t3, .inl (K 0, 24, .inl f3)), (l0, .inl (K 4, 6, .inr (.inr (.inr (.inr fl))))), (t0, .inr (9, [.ref t1, .ref t3, .ref t2, .ref l0, .int n, .int lt, .int nf, .int fi, k_8, k_9])), (t1, .inl (K 0, 56, .inl f1)), (t2, .inl (K 0, 6, .inl f2)), (a0, .inr (0, [.ref m0, .ref w0])), (m0, .inr (3, [.ref m1, .int br])), (m1, .inl (K 0, 64, .inl fs)), (w0, .inl (K 0, 9, .inl (u_1121.2.1 0)))] := hD
          obtain ⟨h_1126, k_1125, -⟩ := hw
          replace hE := hE.trans (Lt_in k_1125)
          refine va_iast hx hb hK hP hD hS 1 0 rfl rfl (i_in rfl (by omega)) dX5_askHour_44 (fun H locs hP0 hD0 hS0 => ?_)
          clear hP hD hS
          have hP := hP0
          have hD := hD0
          have hS := hS0
          clear hP0 hD0 hS0
          generalize hf_1127 : (upd f_1058 (v_1057 : Int32).toNatClampNeg r_1123) = f_1127 at hP hD
          replace hE := hE.trans (Lt_in hf_1127.symm)
          have hf_1127_0 : Rg 21 0 999 f_1127 := by rw [← hf_1127]; exact Rg.upd hf_1058_0 rfl (by omega)
          replace hP : va_P D vwCl [(p0, .inr (5, [.ref a0, .ref p1, .ref p2, .ref p3, .ref p4, .ref p5])), (p1, .inl (K 0, 21, .inl f_1127)), (p2, .inl (K 0, 21, .inl f_1059)), (t3, .inl (K 0, 24, .inl f3)), (l0, .inl (K 4, 6, .inr (.inr (.inr (.inr fl))))), (t0, .inr (9, [.ref t1, .ref t3, .ref t2, .ref l0, .int n, .int lt, .int nf, .int fi, k_8, k_9])), (t1, .inl (K 0, 56, .inl f1)), (t2, .inl (K 0, 6, .inl f2)), (a0, .inr (0, [.ref m0, .ref w0])), (m0, .inr (3, [.ref m1, .int br])), (m1, .inl (K 0, 64, .inl fs)), (w0, .inl (K 0, 9, .inl (u_1121.2.1 0)))] H := hP
          replace hD : va_D A [(p0, .inr (5, [.ref a0, .ref p1, .ref p2, .ref p3, .ref p4, .ref p5])), (p1, .inl (K 0, 21, .inl f_1127)), (p2, .inl (K 0, 21, .inl f_1059)), (t3, .inl (K 0, 24, .inl f3)), (l0, .inl (K 4, 6, .inr (.inr (.inr (.inr fl))))), (t0, .inr (9, [.ref t1, .ref t3, .ref t2, .ref l0, .int n, .int lt, .int nf, .int fi, k_8, k_9])), (t1, .inl (K 0, 56, .inl f1)), (t2, .inl (K 0, 6, .inl f2)), (a0, .inr (0, [.ref m0, .ref w0])), (m0, .inr (3, [.ref m1, .int br])), (m1, .inl (K 0, 64, .inl fs)), (w0, .inl (K 0, 9, .inl (u_1121.2.1 0)))] := hD
          refine lv_aload_n hx hb dX5_askHour_45 rfl (lv_at hl 2 rfl) ?_
          refine va_get (ci := 5) (v := .ref a0) (C := RX5) (T := TX5) (N := 6) hx hb hts hw5 hown hK hP 0 rfl rfl 0 (by decide +kernel) (hts _ mm_X5_askHour_307) (fun _ h9 => h9) rfl dX5_askHour_46 ?_
          refine lv_aloadN hx hb dX5_askHour_49 (lv_at hl 1 rfl) ?_
          refine lv_iconst (v := 3) hx hb dX5_askHour_51 (by decide +kernel) ?_
          refine kci (S := Su) (wr := [(p0, .inr (5, [.ref a0, .ref p1, .ref p2, .ref p3, .ref p4, .ref p5])), (p1, .inl (K 0, 21, .inl f_1127)), (p2, .inl (K 0, 21, .inl f_1059)), (t3, .inl (K 0, 24, .inl f3)), (l0, .inl (K 4, 6, .inr (.inr (.inr (.inr fl))))), (t0, .inr (9, [.ref t1, .ref t3, .ref t2, .ref l0, .int n, .int lt, .int nf, .int fi, k_8, k_9])), (t1, .inl (K 0, 56, .inl f1)), (t2, .inl (K 0, 6, .inl f2))]) (va_runVN (As := [.null, .int 3]) (rest := []) ⟨hx, hb, hml, hown, hts⟩ (w_told_n l D K g L G a0 3 m0 w0 m1 br fs (u_1121.2.1 0) H.size (by first | omega | decide) (by first | omega | decide)) ⟨va_cnB 2 hts gX5_askHour_X0_told_n60 rfl rfl rfl (nst_at hN 79 rfl) (hts _ mm_X5_askHour_151) (by decide +kernel) ⟨Nat.le_of_ble_eq_true rfl, Nat.le_of_ble_eq_true rfl⟩, (hts _ mm_X5_askHour_411), (hts _ mm_X5_askHour_13)⟩ (mkVY hK hN (hP.sub [8, 9, 10, 11] rfl) (hD.sub [8, 9, 10, 11] (by decide +kernel) rfl) (ci := 0) (q0 := 0) rfl rfl (fun U hU hW => ⟨Gl.at hG hS hW hU (fun q h => va_free hD hS hA [8, 9, 10, 11] rfl q h), Pool.at hPl hS hU (fun q h => va_free hD hS hA [8, 9, 10, 11] rfl q h), Ro.heap hU (Ro.nil)⟩)) rfl rfl hl.1 rfl (lv_room (Nat.le_of_ble_eq_true rfl)) dX5_askHour_52 ⟨Nat.le_of_ble_eq_true rfl, Nat.le_of_ble_eq_true rfl⟩) hP hD hS hA [8, 9, 10, 11] [0, 1, 2, 3, 4, 5, 6, 7] rfl rfl (by decide +kernel) (by decide +kernel) (fun r_1128 u_1129 H locs hw hP0 hD0 hS0 => ?_)
          clear hP hD hS
          have hP := hP0
          have hD := hD0
          have hS := hS0
          clear hP0 hD0 hS0
          replace hP : va_P D vwCl [(p0, .inr (5, [.ref a0, .ref p1, .ref p2, .ref p3, .ref p4, .ref p5])), (p1, .inl (K 0, 21, .inl f_1127)), (p2, .inl (K 0, 21, .inl f_1059)), (t3, .inl (K 0, 24, .inl f3)), (l0, .inl (K 4, 6, .inr (.inr (.inr (.inr fl))))), (t0, .inr (9, [.ref t1, .ref t3, .ref t2, .ref l0, .int n, .int lt, .int nf, .int fi, k_8, k_9])), (t1, .inl (K 0, 56, .inl f1)), (t2, .inl (K 0, 6, .inl f2)), (a0, .inr (0, [.ref m0, .ref w0])), (m0, .inr (3, [.ref m1, .int br])), (m1, .inl (K 0, 64, .inl fs)), (w0, .inl (K 0, 9, .inl (u_1121.2.1 0)))] H := hP
          replace hD : va_D A [(p0, .inr (5, [.ref a0, .ref p1, .ref p2, .ref p3, .ref p4, .ref p5])), (p1, .inl (K 0, 21, .inl f_1127)), (p2, .inl (K 0, 21, .inl f_1059)), (t3, .inl (K 0, 24, .inl f3)), (l0, .inl (K 4, 6, .inr (.inr (.inr (.inr fl))))), (t0, .inr (9, [.ref t1, .ref t3, .ref t2, .ref l0, .int n, .int lt, .int nf, .int fi, k_8, k_9])), (t1, .inl (K 0, 56, .inl f1)), (t2, .inl (K 0, 6, .inl f2)), (a0, .inr (0, [.ref m0, .ref w0])), (m0, .inr (3, [.ref m1, .int br])), (m1, .inl (K 0, 64, .inl fs)), (w0, .inl (K 0, 9, .inl (u_1121.2.1 0)))] := hD
          obtain ⟨h_1131, k_1130, -⟩ := hw
          replace hE := hE.trans (Lt_in k_1130)
          refine lv_iconst (v := 1) hx hb dX5_askHour_55 (by decide +kernel) ?_
          refine lv_icmp_ne (tgt := 63) hx hb dX5_askHour_56 (by decide +kernel) (fun c_1132 => ?_) (fun c_1132 => ?_)
          · have c_1132i := i_ne (x := r_1128.toInt) (y := 1) rfl rfl c_1132
            replace hE := hE.trans (if_neg c_1132)
            refine lv_iconst (v := 0) hx hb dX5_askHour_63 (by decide +kernel) ?_
            refine lv_istore (lv' := [(6, .int 0), (5, .int v_1057), (4, .null), (0, .ref p0), (1, .ref t0), (2, .int x), (3, .int y)]) hx hb dX5_askHour_64 hl (by decide +kernel) rfl (fun ls hl => ?_)
            refine lv_aload_n hx hb dX5_askHour_66 rfl (lv_at hl 3 rfl) ?_
            refine va_get (ci := 5) (v := .ref p2) (C := RX5) (T := TX5) (N := 6) hx hb hts hw5 hown hK hP 0 rfl rfl 2 (by decide +kernel) (hts _ mm_X5_askHour_309) (fun _ h9 => h9) rfl dX5_askHour_67 ?_
            refine lv_iload hx hb dX5_askHour_70 (lv_at hl 1 rfl) ?_
            refine lv_iload hx hb dX5_askHour_72 (lv_at hl 0 rfl) ?_
            refine lv_if_eq (tgt := 81) hx hb dX5_askHour_74 (by decide +kernel) (fun c_1133 => ?_) (fun c_1133 => absurd (by decide +kernel) c_1133)
            refine lv_bipush (v := 20) hx hb dX5_askHour_81 (by decide +kernel) ?_
            refine lv_iload hx hb dX5_askHour_83 (lv_at hl 1 rfl) ?_
            refine lv_aload_n hx hb dX5_askHour_85 rfl (lv_at hl 3 rfl) ?_
            refine va_get (ci := 5) (v := .ref a0) (C := RX5) (T := TX5) (N := 6) hx hb hts hw5 hown hK hP 0 rfl rfl 0 (by decide +kernel) (hts _ mm_X5_askHour_307) (fun _ h9 => h9) rfl dX5_askHour_86 ?_
            refine lv_aloadN hx hb dX5_askHour_89 (lv_at hl 2 rfl) ?_
            refine lv_iconst (v := 1) hx hb dX5_askHour_91 (by decide +kernel) ?_
            refine kci (S := Su) (wr := [(p0, .inr (5, [.ref a0, .ref p1, .ref p2, .ref p3, .ref p4, .ref p5])), (p1, .inl (K 0, 21, .inl f_1127)), (p2, .inl (K 0, 21, .inl f_1059)), (t3, .inl (K 0, 24, .inl f3)), (l0, .inl (K 4, 6, .inr (.inr (.inr (.inr fl))))), (t0, .inr (9, [.ref t1, .ref t3, .ref t2, .ref l0, .int n, .int lt, .int nf, .int fi, k_8, k_9])), (t1, .inl (K 0, 56, .inl f1)), (t2, .inl (K 0, 6, .inl f2))]) (va_runVN (As := [.null, .int 1]) (rest := [.int v_1057, .int 20, .int v_1057, .ref p2]) ⟨hx, hb, hml, hown, hts⟩ (w_told_n l D K g L G a0 1 m0 w0 m1 br fs (u_1121.2.1 0) H.size (by first | omega | decide) (by first | omega | decide)) ⟨va_cnB 2 hts gX5_askHour_X0_told_n60 rfl rfl rfl (nst_at hN 79 rfl) (hts _ mm_X5_askHour_151) (by decide +kernel) ⟨Nat.le_of_ble_eq_true rfl, Nat.le_of_ble_eq_true rfl⟩, (hts _ mm_X5_askHour_411), (hts _ mm_X5_askHour_13)⟩ (mkVY hK hN (hP.sub [8, 9, 10, 11] rfl) (hD.sub [8, 9, 10, 11] (by decide +kernel) rfl) (ci := 0) (q0 := 0) rfl rfl (fun U hU hW => ⟨Gl.at hG hS hW hU (fun q h => va_free hD hS hA [8, 9, 10, 11] rfl q h), Pool.at hPl hS hU (fun q h => va_free hD hS hA [8, 9, 10, 11] rfl q h), Ro.heap hU (Ro.nil)⟩)) rfl rfl hl.1 rfl (lv_room (Nat.le_of_ble_eq_true rfl)) dX5_askHour_92 ⟨Nat.le_of_ble_eq_true rfl, Nat.le_of_ble_eq_true rfl⟩) hP hD hS hA [8, 9, 10, 11] [0, 1, 2, 3, 4, 5, 6, 7] rfl rfl (by decide +kernel) (by decide +kernel) (fun r_1134 u_1135 H locs hw hP0 hD0 hS0 => ?_)
            clear hP hD hS
            have hP := hP0
            have hD := hD0
            have hS := hS0
            clear hP0 hD0 hS0
            replace hP : va_P D vwCl [(p0, .inr (5, [.ref a0, .ref p1, .ref p2, .ref p3, .ref p4, .ref p5])), (p1, .inl (K 0, 21, .inl f_1127)), (p2, .inl (K 0, 21, .inl f_1059)), (t3, .inl (K 0, 24, .inl f3)), (l0, .inl (K 4, 6, .inr (.inr (.inr (.inr fl))))), (t0, .inr (9, [.ref t1, .ref t3, .ref t2, .ref l0, .int n, .int lt, .int nf, .int fi, k_8, k_9])), (t1, .inl (K 0, 56, .inl f1)), (t2, .inl (K 0, 6, .inl f2)), (a0, .inr (0, [.ref m0, .ref w0])), (m0, .inr (3, [.ref m1, .int br])), (m1, .inl (K 0, 64, .inl fs)), (w0, .inl (K 0, 9, .inl (u_1121.2.1 0)))] H := hP
            replace hD : va_D A [(p0, .inr (5, [.ref a0, .ref p1, .ref p2, .ref p3, .ref p4, .ref p5])), (p1, .inl (K 0, 21, .inl f_1127)), (p2, .inl (K 0, 21, .inl f_1059)), (t3, .inl (K 0, 24, .inl f3)), (l0, .inl (K 4, 6, .inr (.inr (.inr (.inr fl))))), (t0, .inr (9, [.ref t1, .ref t3, .ref t2, .ref l0, .int n, .int lt, .int nf, .int fi, k_8, k_9])), (t1, .inl (K 0, 56, .inl f1)), (t2, .inl (K 0, 6, .inl f2)), (a0, .inr (0, [.ref m0, .ref w0])), (m0, .inr (3, [.ref m1, .int br])), (m1, .inl (K 0, 64, .inl fs)), (w0, .inl (K 0, 9, .inl (u_1121.2.1 0)))] := hD
            obtain ⟨h_1137, k_1136, -⟩ := hw
            replace hE := hE.trans (Lt_in k_1136)
            refine lv_iadd hx hb dX5_askHour_95 ?_
            refine lv_topi (fun x_1138 ex_1138 => ?_)
            replace hE := hE.trans (Lt_in ex_1138)
            have hx_1138 : x_1138.toInt = (v_1057.toInt + r_1134.toInt) := by rw [ex_1138]; exact i_add rfl rfl (by omega)
            refine va_mmin hx hb (hml.trans hl.1.symm) hown (hts _ mm_X5_askHour_688) (hts _ mm_X5_askHour_426) (hts _ mm_X5_askHour_157) (hts _ mm_X5_askHour_427) (Nat.le_of_ble_eq_true rfl) (Nat.le_of_ble_eq_true rfl) (Nat.le_of_ble_eq_true rfl) (Nat.le_of_ble_eq_true rfl) dX5_askHour_96 ?_
            refine lv_topi (fun x_1139 ex_1139 => ?_)
            replace hE := hE.trans (Lt_in ex_1139)
            have hx_1139 : (20 ≤ (v_1057.toInt + r_1134.toInt) ∧ x_1139.toInt = 20) ∨ ((v_1057.toInt + r_1134.toInt) < 20 ∧ x_1139.toInt = (v_1057.toInt + r_1134.toInt)) := by rw [ex_1139]; exact i_min (show (20 : Int32).toInt = 20 from rfl) hx_1138
            replace hx_1139 : x_1139.toInt ≤ (v_1057.toInt + r_1134.toInt) ∧ 0 ≤ x_1139.toInt ∧ x_1139.toInt ≤ 20 := by omega
            refine va_iast hx hb hK hP hD hS 2 0 rfl rfl (i_in rfl (by omega)) dX5_askHour_99 (fun H locs hP0 hD0 hS0 => ?_)
            clear hP hD hS
            have hP := hP0
            have hD := hD0
            have hS := hS0
            clear hP0 hD0 hS0
            generalize hf_1140 : (upd f_1059 (v_1057 : Int32).toNatClampNeg x_1139) = f_1140 at hP hD
            replace hE := hE.trans (Lt_in hf_1140.symm)
            have hf_1140_0 : Rg 21 (-1) 20 f_1140 := by rw [← hf_1140]; exact Rg.upd hf_1059_0 rfl (by omega)
            replace hP : va_P D vwCl [(p0, .inr (5, [.ref a0, .ref p1, .ref p2, .ref p3, .ref p4, .ref p5])), (p1, .inl (K 0, 21, .inl f_1127)), (p2, .inl (K 0, 21, .inl f_1140)), (t3, .inl (K 0, 24, .inl f3)), (l0, .inl (K 4, 6, .inr (.inr (.inr (.inr fl))))), (t0, .inr (9, [.ref t1, .ref t3, .ref t2, .ref l0, .int n, .int lt, .int nf, .int fi, k_8, k_9])), (t1, .inl (K 0, 56, .inl f1)), (t2, .inl (K 0, 6, .inl f2)), (a0, .inr (0, [.ref m0, .ref w0])), (m0, .inr (3, [.ref m1, .int br])), (m1, .inl (K 0, 64, .inl fs)), (w0, .inl (K 0, 9, .inl (u_1121.2.1 0)))] H := hP
            replace hD : va_D A [(p0, .inr (5, [.ref a0, .ref p1, .ref p2, .ref p3, .ref p4, .ref p5])), (p1, .inl (K 0, 21, .inl f_1127)), (p2, .inl (K 0, 21, .inl f_1140)), (t3, .inl (K 0, 24, .inl f3)), (l0, .inl (K 4, 6, .inr (.inr (.inr (.inr fl))))), (t0, .inr (9, [.ref t1, .ref t3, .ref t2, .ref l0, .int n, .int lt, .int nf, .int fi, k_8, k_9])), (t1, .inl (K 0, 56, .inl f1)), (t2, .inl (K 0, 6, .inl f2)), (a0, .inr (0, [.ref m0, .ref w0])), (m0, .inr (3, [.ref m1, .int br])), (m1, .inl (K 0, 64, .inl fs)), (w0, .inl (K 0, 9, .inl (u_1121.2.1 0)))] := hD
            obtain ⟨x_1141, ex_1141⟩ : ∃ y : Int32, y = v_1057 + Int32.ofInt 1 := ⟨_, rfl⟩
            replace hE := hE.trans (Lt_in ex_1141)
            have hx_1141 : x_1141.toInt = (v_1057.toInt + 1) := by rw [ex_1141]; exact i_add rfl (show (Int32.ofInt 1).toInt = 1 from rfl) (by omega)
            refine lv_iinc (v := x_1141) (lv' := [(5, .int x_1141), (6, .int 0), (4, .null), (0, .ref p0), (1, .ref t0), (2, .int x), (3, .int y)]) hx hb dX5_askHour_100 hl (k := 1) rfl (by rw [ex_1141]) (by decide +kernel) rfl (fun ls hl => ?_)
            refine lv_goto (tgt := 9) hx hb dX5_askHour_103 (by decide +kernel) ?_
            exact ih_1118 x_1141 f_1127 f_1140 (u_1121.2.1 0) (by rw [hx_1141]; omega) hf_1127_0 hf_1140_0 (by omega) (hE.trans (by rw [hrec_1117])) _ _ (hP.sub [0, 1, 2, 8, 9, 10, 11, 5, 6, 7, 3, 4] rfl) (hD.sub [0, 1, 2, 8, 9, 10, 11, 5, 6, 7, 3, 4] (by decide +kernel) rfl) hS ls (lv_sub hl [0, 2, 3, 4, 5, 6] rfl)
          · have c_1132i := i_eq (x := r_1128.toInt) (y := 1) rfl rfl c_1132
            replace hE := hE.trans (if_pos c_1132)
            refine lv_iconst (v := 1) hx hb dX5_askHour_59 (by decide +kernel) ?_
            refine lv_goto (tgt := 64) hx hb dX5_askHour_60 (by decide +kernel) ?_
            refine lv_istore (lv' := [(6, .int 1), (5, .int v_1057), (4, .null), (0, .ref p0), (1, .ref t0), (2, .int x), (3, .int y)]) hx hb dX5_askHour_64 hl (by decide +kernel) rfl (fun ls hl => ?_)
            refine lv_aload_n hx hb dX5_askHour_66 rfl (lv_at hl 3 rfl) ?_
            refine va_get (ci := 5) (v := .ref p2) (C := RX5) (T := TX5) (N := 6) hx hb hts hw5 hown hK hP 0 rfl rfl 2 (by decide +kernel) (hts _ mm_X5_askHour_309) (fun _ h9 => h9) rfl dX5_askHour_67 ?_
            refine lv_iload hx hb dX5_askHour_70 (lv_at hl 1 rfl) ?_
            refine lv_iload hx hb dX5_askHour_72 (lv_at hl 0 rfl) ?_
            refine lv_if_eq (tgt := 81) hx hb dX5_askHour_74 (by decide +kernel) (fun c_1142 => absurd c_1142 (by decide +kernel)) (fun c_1142 => ?_)
            refine lv_iconst (v := (-1)) hx hb dX5_askHour_77 (by decide +kernel) ?_
            refine lv_goto (tgt := 99) hx hb dX5_askHour_78 (by decide +kernel) ?_
            refine va_iast hx hb hK hP hD hS 2 0 rfl rfl (i_in rfl (by omega)) dX5_askHour_99 (fun H locs hP0 hD0 hS0 => ?_)
            clear hP hD hS
            have hP := hP0
            have hD := hD0
            have hS := hS0
            clear hP0 hD0 hS0
            generalize hf_1143 : (upd f_1059 (v_1057 : Int32).toNatClampNeg (-1)) = f_1143 at hP hD
            replace hE := hE.trans (Lt_in hf_1143.symm)
            have hf_1143_0 : Rg 21 (-1) 20 f_1143 := by rw [← hf_1143]; exact Rg.upd hf_1059_0 (show ((-1) : Int32).toInt = (-1) from rfl) (by omega)
            replace hP : va_P D vwCl [(p0, .inr (5, [.ref a0, .ref p1, .ref p2, .ref p3, .ref p4, .ref p5])), (p1, .inl (K 0, 21, .inl f_1127)), (p2, .inl (K 0, 21, .inl f_1143)), (t3, .inl (K 0, 24, .inl f3)), (l0, .inl (K 4, 6, .inr (.inr (.inr (.inr fl))))), (t0, .inr (9, [.ref t1, .ref t3, .ref t2, .ref l0, .int n, .int lt, .int nf, .int fi, k_8, k_9])), (t1, .inl (K 0, 56, .inl f1)), (t2, .inl (K 0, 6, .inl f2)), (a0, .inr (0, [.ref m0, .ref w0])), (m0, .inr (3, [.ref m1, .int br])), (m1, .inl (K 0, 64, .inl fs)), (w0, .inl (K 0, 9, .inl (u_1121.2.1 0)))] H := hP
            replace hD : va_D A [(p0, .inr (5, [.ref a0, .ref p1, .ref p2, .ref p3, .ref p4, .ref p5])), (p1, .inl (K 0, 21, .inl f_1127)), (p2, .inl (K 0, 21, .inl f_1143)), (t3, .inl (K 0, 24, .inl f3)), (l0, .inl (K 4, 6, .inr (.inr (.inr (.inr fl))))), (t0, .inr (9, [.ref t1, .ref t3, .ref t2, .ref l0, .int n, .int lt, .int nf, .int fi, k_8, k_9])), (t1, .inl (K 0, 56, .inl f1)), (t2, .inl (K 0, 6, .inl f2)), (a0, .inr (0, [.ref m0, .ref w0])), (m0, .inr (3, [.ref m1, .int br])), (m1, .inl (K 0, 64, .inl fs)), (w0, .inl (K 0, 9, .inl (u_1121.2.1 0)))] := hD
            obtain ⟨x_1144, ex_1144⟩ : ∃ y : Int32, y = v_1057 + Int32.ofInt 1 := ⟨_, rfl⟩
            replace hE := hE.trans (Lt_in ex_1144)
            have hx_1144 : x_1144.toInt = (v_1057.toInt + 1) := by rw [ex_1144]; exact i_add rfl (show (Int32.ofInt 1).toInt = 1 from rfl) (by omega)
            refine lv_iinc (v := x_1144) (lv' := [(5, .int x_1144), (6, .int 1), (4, .null), (0, .ref p0), (1, .ref t0), (2, .int x), (3, .int y)]) hx hb dX5_askHour_100 hl (k := 1) rfl (by rw [ex_1144]) (by decide +kernel) rfl (fun ls hl => ?_)
            refine lv_goto (tgt := 9) hx hb dX5_askHour_103 (by decide +kernel) ?_
            exact ih_1118 x_1144 f_1127 f_1143 (u_1121.2.1 0) (by rw [hx_1144]; omega) hf_1127_0 hf_1143_0 (by omega) (hE.trans (by rw [hrec_1117])) _ _ (hP.sub [0, 1, 2, 8, 9, 10, 11, 5, 6, 7, 3, 4] rfl) (hD.sub [0, 1, 2, 8, 9, 10, 11, 5, 6, 7, 3, 4] (by decide +kernel) rfl) hS ls (lv_sub hl [0, 2, 3, 4, 5, 6] rfl)
    exact lp_1117 ((22 - (0 : Int32).toInt : Int).toNat + 1) 0 fb ff fw (by decide +kernel) zfb zff (Nat.lt_succ_self _) hE _ _ hP hD hS ls (lv_sub hl [0, 1, 2, 3, 4, 5] rfl)
  · replace hE := hE.trans Oc_s
    have hl : lv_has ls 7 [(0, .ref p0), (1, .ref t0), (2, .int x), (3, .int y)] := hl
    refine W.eq (g2 := F0 m 4 ls [.ref q_942]) rfl ?_
    refine lv_astore (lv' := [(4, .ref q_942), (0, .ref p0), (1, .ref t0), (2, .int x), (3, .int y)]) hx hb dX5_askHour_4 hl (by decide +kernel) rfl (fun ls hl => ?_)
    refine lv_iconst (v := 0) hx hb dX5_askHour_6 (by decide +kernel) ?_
    refine lv_istore (lv' := [(5, .int 0), (4, .ref q_942), (0, .ref p0), (1, .ref t0), (2, .int x), (3, .int y)]) hx hb dX5_askHour_7 hl (by decide +kernel) rfl (fun ls hl => ?_)
    have lp_1347 : ∀ (nn_ : Nat) (v_1277 : Int32) (v_1278 : Int32) (f_1279 : Nat → Int32) (f_1280 : Nat → Int32) (f_1281 : Nat → Int32) (f_1282 : Nat → Int32) (hv_1277 : 0 ≤ v_1277.toInt ∧ v_1277.toInt ≤ 21) (hv_1278 : 0 ≤ v_1278.toInt ∧ v_1278.toInt ≤ 1) (hf_1279_0 : Rg 21 0 999 f_1279) (hf_1280_0 : Rg 21 (-1) 20 f_1280) (hn : (22 - v_1277.toInt : Int).toNat < nn_) (hE : E_w_askHour G x y fb ff br fs fw n lt nf fi f1 f2 f3 fl = Lp (α := Int32 → Int32 → (Nat → Int32) → (Nat → Int32) → (Nat → Int32) → (Nat → Int32) → ((Nat → Int32) × (Nat → Int32) × Int32 × (Nat → Int32) × (Nat → Int32))) (E_w_askHour_l9a G x y f1 f2 q_942) (fun _ _ _ _ _ _ => ((fun _ => 0, fun _ => 0, 0, fun _ => 0, fun _ => 0) : (Nat → Int32) × (Nat → Int32) × Int32 × (Nat → Int32) × (Nat → Int32))) nn_ v_1277 v_1278 f_1279 f_1280 f_1281 f_1282) (H : Heap) (locs : List Loc) (hP : va_P D vwCl [(p0, .inr (5, [.ref a0, .ref p1, .ref p2, .ref p3, .ref p4, .ref p5])), (p1, .inl (K 0, 21, .inl f_1279)), (p2, .inl (K 0, 21, .inl f_1280)), (a0, .inr (0, [.ref m0, .ref w0])), (m0, .inr (3, [.ref m1, .int v_1278])), (m1, .inl (K 0, 64, .inl f_1281)), (w0, .inl (K 0, 9, .inl f_1282)), (t0, .inr (9, [.ref t1, .ref t3, .ref t2, .ref l0, .int n, .int lt, .int nf, .int fi, k_8, k_9])), (t1, .inl (K 0, 56, .inl f1)), (t2, .inl (K 0, 6, .inl f2)), (t3, .inl (K 0, 24, .inl f3)), (l0, .inl (K 4, 6, .inr (.inr (.inr (.inr fl)))))] H) (hD : va_D A [(p0, .inr (5, [.ref a0, .ref p1, .ref p2, .ref p3, .ref p4, .ref p5])), (p1, .inl (K 0, 21, .inl f_1279)), (p2, .inl (K 0, 21, .inl f_1280)), (a0, .inr (0, [.ref m0, .ref w0])), (m0, .inr (3, [.ref m1, .int v_1278])), (m1, .inl (K 0, 64, .inl f_1281)), (w0, .inl (K 0, 9, .inl f_1282)), (t0, .inr (9, [.ref t1, .ref t3, .ref t2, .ref l0, .int n, .int lt, .int nf, .int fi, k_8, k_9])), (t1, .inl (K 0, 56, .inl f1)), (t2, .inl (K 0, 6, .inl f2)), (t3, .inl (K 0, 24, .inl f3)), (l0, .inl (K 4, 6, .inr (.inr (.inr (.inr fl)))))]) (hS : va_S A s.heap H locs) (ls : Array Slot) (hl : lv_has ls 7 [(5, .int v_1277), (4, .ref q_942), (0, .ref p0), (1, .ref t0), (2, .int x), (3, .int y)]), W p l e ({ frames := 3, cells := 0, slots := 0, locals := 81 }) s m (([.ref p0, .ref t0, .int x, .int y] : List Value).toArray) below meth c H locs 0 0 Q (F0 m 9 ls []) := by
      clear hE hP hD hS hl
      intro nn_
      induction nn_ with
      | zero =>
        intro v_1277 v_1278 f_1279 f_1280 f_1281 f_1282 hv_1277 hv_1278 hf_1279_0 hf_1280_0 hn hE H locs hP hD hS ls hl
        exact absurd hn (Nat.not_lt_zero _)
      | succ nn_ ih_1348 =>
        intro v_1277 v_1278 f_1279 f_1280 f_1281 f_1282 hv_1277 hv_1278 hf_1279_0 hf_1280_0 hn hE H locs hP hD hS ls hl
        replace hE : E_w_askHour G x y fb ff br fs fw n lt nf fi f1 f2 f3 fl = E_w_askHour_l9a G x y f1 f2 q_942 (Lp (α := Int32 → Int32 → (Nat → Int32) → (Nat → Int32) → (Nat → Int32) → (Nat → Int32) → ((Nat → Int32) × (Nat → Int32) × Int32 × (Nat → Int32) × (Nat → Int32))) (E_w_askHour_l9a G x y f1 f2 q_942) (fun _ _ _ _ _ _ => ((fun _ => 0, fun _ => 0, 0, fun _ => 0, fun _ => 0) : (Nat → Int32) × (Nat → Int32) × Int32 × (Nat → Int32) × (Nat → Int32))) nn_) v_1277 v_1278 f_1279 f_1280 f_1281 f_1282 := hE
        obtain ⟨rec_1347, hrec_1347⟩ : ∃ z9, z9 = Lp (α := Int32 → Int32 → (Nat → Int32) → (Nat → Int32) → (Nat → Int32) → (Nat → Int32) → ((Nat → Int32) × (Nat → Int32) × Int32 × (Nat → Int32) × (Nat → Int32))) (E_w_askHour_l9a G x y f1 f2 q_942) (fun _ _ _ _ _ _ => ((fun _ => 0, fun _ => 0, 0, fun _ => 0, fun _ => 0) : (Nat → Int32) × (Nat → Int32) × Int32 × (Nat → Int32) × (Nat → Int32))) nn_ := ⟨_, rfl⟩
        rw [← hrec_1347] at hE
        replace hE := hE.trans (E_w_askHour_l9a.eq_def _ _ _ _ _ _ _ _ _ _ _ _ _)
        refine lv_iload hx hb dX5_askHour_9 (lv_at hl 0 rfl) ?_
        refine lv_bipush (v := 21) hx hb dX5_askHour_11 (by decide +kernel) ?_
        refine lv_icmp_ge (tgt := 106) hx hb dX5_askHour_13 (by decide +kernel) (fun c_1349 => ?_) (fun c_1349 => ?_)
        · have c_1349i := i_le (x := 21) (y := v_1277.toInt) rfl rfl c_1349
          replace hE := hE.trans (if_pos c_1349)
          rw [← hQ]
          have hP9 := hP.sub (ws' := [(p0, .inr (5, [.ref a0, .ref p1, .ref p2, .ref p3, .ref p4, .ref p5])), (p1, .inl (K 0, 21, .inl f_1279)), (p2, .inl (K 0, 21, .inl f_1280)), (a0, .inr (0, [.ref m0, .ref w0])), (m0, .inr (3, [.ref m1, .int v_1278])), (m1, .inl (K 0, 64, .inl f_1281)), (w0, .inl (K 0, 9, .inl f_1282)), (t0, .inr (9, [.ref t1, .ref t3, .ref t2, .ref l0, .int n, .int lt, .int nf, .int fi, k_8, k_9])), (t1, .inl (K 0, 56, .inl f1)), (t2, .inl (K 0, 6, .inl f2)), (t3, .inl (K 0, 24, .inl f3)), (l0, .inl (K 4, 6, .inr (.inr (.inr (.inr fl)))))]) [0, 1, 2, 3, 4, 5, 6, 7, 8, 9, 10, 11] rfl
          have hD9 := hD.sub (ws' := [(p0, .inr (5, [.ref a0, .ref p1, .ref p2, .ref p3, .ref p4, .ref p5])), (p1, .inl (K 0, 21, .inl f_1279)), (p2, .inl (K 0, 21, .inl f_1280)), (a0, .inr (0, [.ref m0, .ref w0])), (m0, .inr (3, [.ref m1, .int v_1278])), (m1, .inl (K 0, 64, .inl f_1281)), (w0, .inl (K 0, 9, .inl f_1282)), (t0, .inr (9, [.ref t1, .ref t3, .ref t2, .ref l0, .int n, .int lt, .int nf, .int fi, k_8, k_9])), (t1, .inl (K 0, 56, .inl f1)), (t2, .inl (K 0, 6, .inl f2)), (t3, .inl (K 0, 24, .inl f3)), (l0, .inl (K 4, 6, .inr (.inr (.inr (.inr fl)))))]) [0, 1, 2, 3, 4, 5, 6, 7, 8, 9, 10, 11] (by decide +kernel) rfl
          exact W.vret hx hb hr (fun t ht hW => ⟨⟨((fun _ => 0, fun i => match i with | 0 => f_1279 | 1 => f_1280 | 2 => f_1281 | _ => f_1282, fun _ => fun _ => 0, fun i => match i with | _ => v_1278, fun _ => 0, fun _ => fun _ => none) : Su), rfl, ⟨hf_1279_0, hf_1280_0, (show 0 ≤ (v_1278 : Int32).toInt ∧ (v_1278 : Int32).toInt ≤ 1 by omega), hE.symm, trivial⟩, (⟨by rw [ht]; exact hP9, hD9⟩ : Wd D A _ t)⟩, hS.F ht⟩) hS.2.2 dX5_askHour_106
        · have c_1349i := i_nle (x := 21) (y := v_1277.toInt) rfl rfl c_1349
          replace hE := hE.trans (if_neg c_1349)
          refine lv_aload_n hx hb dX5_askHour_16 rfl (lv_at hl 2 rfl) ?_
          refine va_get (ci := 5) (v := .ref a0) (C := RX5) (T := TX5) (N := 6) hx hb hts hw5 hown hK hP 0 rfl rfl 0 (by decide +kernel) (hts _ mm_X5_askHour_307) (fun _ h9 => h9) rfl dX5_askHour_17 ?_
          refine lv_aload_n hx hb dX5_askHour_20 rfl (lv_at hl 3 rfl) ?_
          refine lv_iload_n hx hb dX5_askHour_21 rfl (lv_at hl 4 rfl) ?_
          refine lv_iload hx hb dX5_askHour_22 (lv_at hl 0 rfl) ?_
          refine lv_iload_n hx hb dX5_askHour_24 rfl (lv_at hl 5 rfl) ?_
          refine kcv (S := Su) (wr := [(p0, .inr (5, [.ref a0, .ref p1, .ref p2, .ref p3, .ref p4, .ref p5])), (p1, .inl (K 0, 21, .inl f_1279)), (p2, .inl (K 0, 21, .inl f_1280)), (m0, .inr (3, [.ref m1, .int v_1278])), (m1, .inl (K 0, 64, .inl f_1281)), (t3, .inl (K 0, 24, .inl f3)), (l0, .inl (K 4, 6, .inr (.inr (.inr (.inr fl)))))]) (va_runVN (As := [.ref t0, .int x, .int v_1277, .int y]) (rest := []) ⟨hx, hb, hml, hown, hts⟩ (w_face l D K a0 t0 x v_1277 y (.ref m0) w0 f_1282 t1 (.ref t3) t2 (.ref l0) (.int n) (.int lt) (.int nf) (.int fi) k_8 k_9 f1 f2 H.size) ⟨va_cnB 4 hts gX5_askHour_X0_face_n56 rfl rfl rfl (nst_at hN 78 rfl) (hts _ mm_X5_askHour_151) (by decide +kernel) ⟨Nat.le_of_ble_eq_true rfl, Nat.le_of_ble_eq_true rfl⟩, (hts _ mm_X5_askHour_404), (hts _ mm_X5_askHour_10)⟩ (mkV hK hN (hP.sub [3, 6, 7, 8, 9] rfl) (hD.sub [3, 6, 7, 8, 9] (by decide +kernel) rfl) (ci := 0) (q0 := 0) rfl rfl) rfl rfl hl.1 rfl (lv_room (Nat.le_of_ble_eq_true rfl)) dX5_askHour_25 ⟨Nat.le_of_ble_eq_true rfl, Nat.le_of_ble_eq_true rfl⟩) hP hD hS hA [3, 6, 7, 8, 9] [0, 1, 2, 4, 5, 10, 11] rfl rfl (by decide +kernel) (by decide +kernel) (fun u_1351 H locs hw hP0 hD0 hS0 => ?_)
          clear hP hD hS
          have hP := hP0
          have hD := hD0
          have hS := hS0
          clear hP0 hD0 hS0
          replace hP : va_P D vwCl [(p0, .inr (5, [.ref a0, .ref p1, .ref p2, .ref p3, .ref p4, .ref p5])), (p1, .inl (K 0, 21, .inl f_1279)), (p2, .inl (K 0, 21, .inl f_1280)), (m0, .inr (3, [.ref m1, .int v_1278])), (m1, .inl (K 0, 64, .inl f_1281)), (t3, .inl (K 0, 24, .inl f3)), (l0, .inl (K 4, 6, .inr (.inr (.inr (.inr fl))))), (a0, .inr (0, [.ref m0, .ref w0])), (w0, .inl (K 0, 9, .inl (u_1351.2.1 0))), (t0, .inr (9, [.ref t1, .ref t3, .ref t2, .ref l0, .int n, .int lt, .int nf, .int fi, k_8, k_9])), (t1, .inl (K 0, 56, .inl f1)), (t2, .inl (K 0, 6, .inl f2))] H := hP
          replace hD : va_D A [(p0, .inr (5, [.ref a0, .ref p1, .ref p2, .ref p3, .ref p4, .ref p5])), (p1, .inl (K 0, 21, .inl f_1279)), (p2, .inl (K 0, 21, .inl f_1280)), (m0, .inr (3, [.ref m1, .int v_1278])), (m1, .inl (K 0, 64, .inl f_1281)), (t3, .inl (K 0, 24, .inl f3)), (l0, .inl (K 4, 6, .inr (.inr (.inr (.inr fl))))), (a0, .inr (0, [.ref m0, .ref w0])), (w0, .inl (K 0, 9, .inl (u_1351.2.1 0))), (t0, .inr (9, [.ref t1, .ref t3, .ref t2, .ref l0, .int n, .int lt, .int nf, .int fi, k_8, k_9])), (t1, .inl (K 0, 56, .inl f1)), (t2, .inl (K 0, 6, .inl f2))] := hD
          obtain ⟨k_1352, -⟩ := hw
          replace hE := hE.trans (Lt_in k_1352)
          refine lv_aload_n hx hb dX5_askHour_28 rfl (lv_at hl 2 rfl) ?_
          refine va_get (ci := 5) (v := .ref p1) (C := RX5) (T := TX5) (N := 6) hx hb hts hw5 hown hK hP 0 rfl rfl 1 (by decide +kernel) (hts _ mm_X5_askHour_308) (fun _ h9 => h9) rfl dX5_askHour_29 ?_
          refine lv_iload hx hb dX5_askHour_32 (lv_at hl 0 rfl) ?_
          refine lv_aload_n hx hb dX5_askHour_34 rfl (lv_at hl 2 rfl) ?_
          refine va_get (ci := 5) (v := .ref a0) (C := RX5) (T := TX5) (N := 6) hx hb hts hw5 hown hK hP 0 rfl rfl 0 (by decide +kernel) (hts _ mm_X5_askHour_307) (fun _ h9 => h9) rfl dX5_askHour_35 ?_
          refine lv_aload hx hb dX5_askHour_38 (lv_at hl 1 rfl) ?_
          refine lv_iconst (v := 0) hx hb dX5_askHour_40 (by decide +kernel) ?_
          refine kci (S := Su) (wr := [(p0, .inr (5, [.ref a0, .ref p1, .ref p2, .ref p3, .ref p4, .ref p5])), (p1, .inl (K 0, 21, .inl f_1279)), (p2, .inl (K 0, 21, .inl f_1280)), (t3, .inl (K 0, 24, .inl f3)), (l0, .inl (K 4, 6, .inr (.inr (.inr (.inr fl))))), (t0, .inr (9, [.ref t1, .ref t3, .ref t2, .ref l0, .int n, .int lt, .int nf, .int fi, k_8, k_9])), (t1, .inl (K 0, 56, .inl f1)), (t2, .inl (K 0, 6, .inl f2))]) (va_runVN (As := [.ref q_942, .int 0]) (rest := [.int v_1277, .ref p1]) ⟨hx, hb, hml, hown, hts⟩ (w_told l D K g L G a0 q_942 0 m0 w0 m1 v_1278 f_1281 (u_1351.2.1 0) H.size hr_939 (by first | omega | decide) (by first | omega | decide)) ⟨va_cnB 2 hts gX5_askHour_X0_told_n60 rfl rfl rfl (nst_at hN 79 rfl) (hts _ mm_X5_askHour_151) (by decide +kernel) ⟨Nat.le_of_ble_eq_true rfl, Nat.le_of_ble_eq_true rfl⟩, (hts _ mm_X5_askHour_411), (hts _ mm_X5_askHour_13)⟩ (mkVY hK hN (hP.sub [7, 3, 4, 8] rfl) (hD.sub [7, 3, 4, 8] (by decide +kernel) rfl) (ci := 0) (q0 := 0) rfl rfl (fun U hU hW => ⟨Gl.at hG hS hW hU (fun q h => va_free hD hS hA [7, 3, 4, 8] rfl q h), Pool.at hPl hS hU (fun q h => va_free hD hS hA [7, 3, 4, 8] rfl q h), Ro.heap hU (Ro.nil)⟩)) rfl rfl hl.1 rfl (lv_room (Nat.le_of_ble_eq_true rfl)) dX5_askHour_41 ⟨Nat.le_of_ble_eq_true rfl, Nat.le_of_ble_eq_true rfl⟩) hP hD hS hA [7, 3, 4, 8] [0, 1, 2, 5, 6, 9, 10, 11] rfl rfl (by decide +kernel) (by decide +kernel) (fun r_1353 u_1354 H locs hw hP0 hD0 hS0 => ?_)
          clear hP hD hS
          have hP := hP0
          have hD := hD0
          have hS := hS0
          clear hP0 hD0 hS0
          replace hP : va_P D vwCl [(p0, .inr (5, [.ref a0, .ref p1, .ref p2, .ref p3, .ref p4, .ref p5])), (p1, .inl (K 0, 21, .inl f_1279)), (p2, .inl (K 0, 21, .inl f_1280)), (t3, .inl (K 0, 24, .inl f3)), (l0, .inl (K 4, 6, .inr (.inr (.inr (.inr fl))))), (t0, .inr (9, [.ref t1, .ref t3, .ref t2, .ref l0, .int n, .int lt, .int nf, .int fi, k_8, k_9])), (t1, .inl (K 0, 56, .inl f1)), (t2, .inl (K 0, 6, .inl f2)), (a0, .inr (0, [.ref m0, .ref w0])), (m0, .inr (3, [.ref m1, .int (u_1354.2.2.2.1 0)])), (m1, .inl (K 0, 64, .inl (u_1354.2.1 0))), (w0, .inl (K 0, 9, .inl (u_1351.2.1 0)))] H := hP
          replace hD : va_D A [(p0, .inr (5, [.ref a0, .ref p1, .ref p2, .ref p3, .ref p4, .ref p5])), (p1, .inl (K 0, 21, .inl f_1279)), (p2, .inl (K 0, 21, .inl f_1280)), (t3, .inl (K 0, 24, .inl f3)), (l0, .inl (K 4, 6, .inr (.inr (.inr (.inr fl))))), (t0, .inr (9, [.ref t1, .ref t3, .ref t2, .ref l0, .int n, .int lt, .int nf, .int fi, k_8, k_9])), (t1, .inl (K 0, 56, .inl f1)), (t2, .inl (K 0, 6, .inl f2)), (a0, .inr (0, [.ref m0, .ref w0])), (m0, .inr (3, [.ref m1, .int (u_1354.2.2.2.1 0)])), (m1, .inl (K 0, 64, .inl (u_1354.2.1 0))), (w0, .inl (K 0, 9, .inl (u_1351.2.1 0)))] := hD
          obtain ⟨h_1357, k_1355, k_1356, -⟩ := hw
          replace hE := (hE.trans (Lt2_in k_1356)).trans (Lt2_in rfl)
          refine va_iast hx hb hK hP hD hS 1 0 rfl rfl (i_in rfl (by omega)) dX5_askHour_44 (fun H locs hP0 hD0 hS0 => ?_)
          clear hP hD hS
          have hP := hP0
          have hD := hD0
          have hS := hS0
          clear hP0 hD0 hS0
          generalize hf_1358 : (upd f_1279 (v_1277 : Int32).toNatClampNeg r_1353) = f_1358 at hP hD
          replace hE := hE.trans (Lt_in hf_1358.symm)
          have hf_1358_0 : Rg 21 0 999 f_1358 := by rw [← hf_1358]; exact Rg.upd hf_1279_0 rfl (by omega)
          replace hP : va_P D vwCl [(p0, .inr (5, [.ref a0, .ref p1, .ref p2, .ref p3, .ref p4, .ref p5])), (p1, .inl (K 0, 21, .inl f_1358)), (p2, .inl (K 0, 21, .inl f_1280)), (t3, .inl (K 0, 24, .inl f3)), (l0, .inl (K 4, 6, .inr (.inr (.inr (.inr fl))))), (t0, .inr (9, [.ref t1, .ref t3, .ref t2, .ref l0, .int n, .int lt, .int nf, .int fi, k_8, k_9])), (t1, .inl (K 0, 56, .inl f1)), (t2, .inl (K 0, 6, .inl f2)), (a0, .inr (0, [.ref m0, .ref w0])), (m0, .inr (3, [.ref m1, .int (u_1354.2.2.2.1 0)])), (m1, .inl (K 0, 64, .inl (u_1354.2.1 0))), (w0, .inl (K 0, 9, .inl (u_1351.2.1 0)))] H := hP
          replace hD : va_D A [(p0, .inr (5, [.ref a0, .ref p1, .ref p2, .ref p3, .ref p4, .ref p5])), (p1, .inl (K 0, 21, .inl f_1358)), (p2, .inl (K 0, 21, .inl f_1280)), (t3, .inl (K 0, 24, .inl f3)), (l0, .inl (K 4, 6, .inr (.inr (.inr (.inr fl))))), (t0, .inr (9, [.ref t1, .ref t3, .ref t2, .ref l0, .int n, .int lt, .int nf, .int fi, k_8, k_9])), (t1, .inl (K 0, 56, .inl f1)), (t2, .inl (K 0, 6, .inl f2)), (a0, .inr (0, [.ref m0, .ref w0])), (m0, .inr (3, [.ref m1, .int (u_1354.2.2.2.1 0)])), (m1, .inl (K 0, 64, .inl (u_1354.2.1 0))), (w0, .inl (K 0, 9, .inl (u_1351.2.1 0)))] := hD
          refine lv_aload_n hx hb dX5_askHour_45 rfl (lv_at hl 2 rfl) ?_
          refine va_get (ci := 5) (v := .ref a0) (C := RX5) (T := TX5) (N := 6) hx hb hts hw5 hown hK hP 0 rfl rfl 0 (by decide +kernel) (hts _ mm_X5_askHour_307) (fun _ h9 => h9) rfl dX5_askHour_46 ?_
          refine lv_aload hx hb dX5_askHour_49 (lv_at hl 1 rfl) ?_
          refine lv_iconst (v := 3) hx hb dX5_askHour_51 (by decide +kernel) ?_
          refine kci (S := Su) (wr := [(p0, .inr (5, [.ref a0, .ref p1, .ref p2, .ref p3, .ref p4, .ref p5])), (p1, .inl (K 0, 21, .inl f_1358)), (p2, .inl (K 0, 21, .inl f_1280)), (t3, .inl (K 0, 24, .inl f3)), (l0, .inl (K 4, 6, .inr (.inr (.inr (.inr fl))))), (t0, .inr (9, [.ref t1, .ref t3, .ref t2, .ref l0, .int n, .int lt, .int nf, .int fi, k_8, k_9])), (t1, .inl (K 0, 56, .inl f1)), (t2, .inl (K 0, 6, .inl f2))]) (va_runVN (As := [.ref q_942, .int 3]) (rest := []) ⟨hx, hb, hml, hown, hts⟩ (w_told l D K g L G a0 q_942 3 m0 w0 m1 (u_1354.2.2.2.1 0) (u_1354.2.1 0) (u_1351.2.1 0) H.size hr_939 (by first | omega | decide) (by first | omega | decide)) ⟨va_cnB 2 hts gX5_askHour_X0_told_n60 rfl rfl rfl (nst_at hN 79 rfl) (hts _ mm_X5_askHour_151) (by decide +kernel) ⟨Nat.le_of_ble_eq_true rfl, Nat.le_of_ble_eq_true rfl⟩, (hts _ mm_X5_askHour_411), (hts _ mm_X5_askHour_13)⟩ (mkVY hK hN (hP.sub [8, 9, 10, 11] rfl) (hD.sub [8, 9, 10, 11] (by decide +kernel) rfl) (ci := 0) (q0 := 0) rfl rfl (fun U hU hW => ⟨Gl.at hG hS hW hU (fun q h => va_free hD hS hA [8, 9, 10, 11] rfl q h), Pool.at hPl hS hU (fun q h => va_free hD hS hA [8, 9, 10, 11] rfl q h), Ro.heap hU (Ro.nil)⟩)) rfl rfl hl.1 rfl (lv_room (Nat.le_of_ble_eq_true rfl)) dX5_askHour_52 ⟨Nat.le_of_ble_eq_true rfl, Nat.le_of_ble_eq_true rfl⟩) hP hD hS hA [8, 9, 10, 11] [0, 1, 2, 3, 4, 5, 6, 7] rfl rfl (by decide +kernel) (by decide +kernel) (fun r_1359 u_1360 H locs hw hP0 hD0 hS0 => ?_)
          clear hP hD hS
          have hP := hP0
          have hD := hD0
          have hS := hS0
          clear hP0 hD0 hS0
          replace hP : va_P D vwCl [(p0, .inr (5, [.ref a0, .ref p1, .ref p2, .ref p3, .ref p4, .ref p5])), (p1, .inl (K 0, 21, .inl f_1358)), (p2, .inl (K 0, 21, .inl f_1280)), (t3, .inl (K 0, 24, .inl f3)), (l0, .inl (K 4, 6, .inr (.inr (.inr (.inr fl))))), (t0, .inr (9, [.ref t1, .ref t3, .ref t2, .ref l0, .int n, .int lt, .int nf, .int fi, k_8, k_9])), (t1, .inl (K 0, 56, .inl f1)), (t2, .inl (K 0, 6, .inl f2)), (a0, .inr (0, [.ref m0, .ref w0])), (m0, .inr (3, [.ref m1, .int (u_1360.2.2.2.1 0)])), (m1, .inl (K 0, 64, .inl (u_1360.2.1 0))), (w0, .inl (K 0, 9, .inl (u_1351.2.1 0)))] H := hP
          replace hD : va_D A [(p0, .inr (5, [.ref a0, .ref p1, .ref p2, .ref p3, .ref p4, .ref p5])), (p1, .inl (K 0, 21, .inl f_1358)), (p2, .inl (K 0, 21, .inl f_1280)), (t3, .inl (K 0, 24, .inl f3)), (l0, .inl (K 4, 6, .inr (.inr (.inr (.inr fl))))), (t0, .inr (9, [.ref t1, .ref t3, .ref t2, .ref l0, .int n, .int lt, .int nf, .int fi, k_8, k_9])), (t1, .inl (K 0, 56, .inl f1)), (t2, .inl (K 0, 6, .inl f2)), (a0, .inr (0, [.ref m0, .ref w0])), (m0, .inr (3, [.ref m1, .int (u_1360.2.2.2.1 0)])), (m1, .inl (K 0, 64, .inl (u_1360.2.1 0))), (w0, .inl (K 0, 9, .inl (u_1351.2.1 0)))] := hD
          obtain ⟨h_1363, k_1361, k_1362, -⟩ := hw
          replace hE := (hE.trans (Lt2_in k_1362)).trans (Lt2_in rfl)
          refine lv_iconst (v := 1) hx hb dX5_askHour_55 (by decide +kernel) ?_
          refine lv_icmp_ne (tgt := 63) hx hb dX5_askHour_56 (by decide +kernel) (fun c_1364 => ?_) (fun c_1364 => ?_)
          · have c_1364i := i_ne (x := r_1359.toInt) (y := 1) rfl rfl c_1364
            replace hE := hE.trans (if_neg c_1364)
            refine lv_iconst (v := 0) hx hb dX5_askHour_63 (by decide +kernel) ?_
            refine lv_istore (lv' := [(6, .int 0), (5, .int v_1277), (4, .ref q_942), (0, .ref p0), (1, .ref t0), (2, .int x), (3, .int y)]) hx hb dX5_askHour_64 hl (by decide +kernel) rfl (fun ls hl => ?_)
            refine lv_aload_n hx hb dX5_askHour_66 rfl (lv_at hl 3 rfl) ?_
            refine va_get (ci := 5) (v := .ref p2) (C := RX5) (T := TX5) (N := 6) hx hb hts hw5 hown hK hP 0 rfl rfl 2 (by decide +kernel) (hts _ mm_X5_askHour_309) (fun _ h9 => h9) rfl dX5_askHour_67 ?_
            refine lv_iload hx hb dX5_askHour_70 (lv_at hl 1 rfl) ?_
            refine lv_iload hx hb dX5_askHour_72 (lv_at hl 0 rfl) ?_
            refine lv_if_eq (tgt := 81) hx hb dX5_askHour_74 (by decide +kernel) (fun c_1365 => ?_) (fun c_1365 => absurd (by decide +kernel) c_1365)
            refine lv_bipush (v := 20) hx hb dX5_askHour_81 (by decide +kernel) ?_
            refine lv_iload hx hb dX5_askHour_83 (lv_at hl 1 rfl) ?_
            refine lv_aload_n hx hb dX5_askHour_85 rfl (lv_at hl 3 rfl) ?_
            refine va_get (ci := 5) (v := .ref a0) (C := RX5) (T := TX5) (N := 6) hx hb hts hw5 hown hK hP 0 rfl rfl 0 (by decide +kernel) (hts _ mm_X5_askHour_307) (fun _ h9 => h9) rfl dX5_askHour_86 ?_
            refine lv_aload hx hb dX5_askHour_89 (lv_at hl 2 rfl) ?_
            refine lv_iconst (v := 1) hx hb dX5_askHour_91 (by decide +kernel) ?_
            refine kci (S := Su) (wr := [(p0, .inr (5, [.ref a0, .ref p1, .ref p2, .ref p3, .ref p4, .ref p5])), (p1, .inl (K 0, 21, .inl f_1358)), (p2, .inl (K 0, 21, .inl f_1280)), (t3, .inl (K 0, 24, .inl f3)), (l0, .inl (K 4, 6, .inr (.inr (.inr (.inr fl))))), (t0, .inr (9, [.ref t1, .ref t3, .ref t2, .ref l0, .int n, .int lt, .int nf, .int fi, k_8, k_9])), (t1, .inl (K 0, 56, .inl f1)), (t2, .inl (K 0, 6, .inl f2))]) (va_runVN (As := [.ref q_942, .int 1]) (rest := [.int v_1277, .int 20, .int v_1277, .ref p2]) ⟨hx, hb, hml, hown, hts⟩ (w_told l D K g L G a0 q_942 1 m0 w0 m1 (u_1360.2.2.2.1 0) (u_1360.2.1 0) (u_1351.2.1 0) H.size hr_939 (by first | omega | decide) (by first | omega | decide)) ⟨va_cnB 2 hts gX5_askHour_X0_told_n60 rfl rfl rfl (nst_at hN 79 rfl) (hts _ mm_X5_askHour_151) (by decide +kernel) ⟨Nat.le_of_ble_eq_true rfl, Nat.le_of_ble_eq_true rfl⟩, (hts _ mm_X5_askHour_411), (hts _ mm_X5_askHour_13)⟩ (mkVY hK hN (hP.sub [8, 9, 10, 11] rfl) (hD.sub [8, 9, 10, 11] (by decide +kernel) rfl) (ci := 0) (q0 := 0) rfl rfl (fun U hU hW => ⟨Gl.at hG hS hW hU (fun q h => va_free hD hS hA [8, 9, 10, 11] rfl q h), Pool.at hPl hS hU (fun q h => va_free hD hS hA [8, 9, 10, 11] rfl q h), Ro.heap hU (Ro.nil)⟩)) rfl rfl hl.1 rfl (lv_room (Nat.le_of_ble_eq_true rfl)) dX5_askHour_92 ⟨Nat.le_of_ble_eq_true rfl, Nat.le_of_ble_eq_true rfl⟩) hP hD hS hA [8, 9, 10, 11] [0, 1, 2, 3, 4, 5, 6, 7] rfl rfl (by decide +kernel) (by decide +kernel) (fun r_1366 u_1367 H locs hw hP0 hD0 hS0 => ?_)
            clear hP hD hS
            have hP := hP0
            have hD := hD0
            have hS := hS0
            clear hP0 hD0 hS0
            replace hP : va_P D vwCl [(p0, .inr (5, [.ref a0, .ref p1, .ref p2, .ref p3, .ref p4, .ref p5])), (p1, .inl (K 0, 21, .inl f_1358)), (p2, .inl (K 0, 21, .inl f_1280)), (t3, .inl (K 0, 24, .inl f3)), (l0, .inl (K 4, 6, .inr (.inr (.inr (.inr fl))))), (t0, .inr (9, [.ref t1, .ref t3, .ref t2, .ref l0, .int n, .int lt, .int nf, .int fi, k_8, k_9])), (t1, .inl (K 0, 56, .inl f1)), (t2, .inl (K 0, 6, .inl f2)), (a0, .inr (0, [.ref m0, .ref w0])), (m0, .inr (3, [.ref m1, .int (u_1367.2.2.2.1 0)])), (m1, .inl (K 0, 64, .inl (u_1367.2.1 0))), (w0, .inl (K 0, 9, .inl (u_1351.2.1 0)))] H := hP
            replace hD : va_D A [(p0, .inr (5, [.ref a0, .ref p1, .ref p2, .ref p3, .ref p4, .ref p5])), (p1, .inl (K 0, 21, .inl f_1358)), (p2, .inl (K 0, 21, .inl f_1280)), (t3, .inl (K 0, 24, .inl f3)), (l0, .inl (K 4, 6, .inr (.inr (.inr (.inr fl))))), (t0, .inr (9, [.ref t1, .ref t3, .ref t2, .ref l0, .int n, .int lt, .int nf, .int fi, k_8, k_9])), (t1, .inl (K 0, 56, .inl f1)), (t2, .inl (K 0, 6, .inl f2)), (a0, .inr (0, [.ref m0, .ref w0])), (m0, .inr (3, [.ref m1, .int (u_1367.2.2.2.1 0)])), (m1, .inl (K 0, 64, .inl (u_1367.2.1 0))), (w0, .inl (K 0, 9, .inl (u_1351.2.1 0)))] := hD
            obtain ⟨h_1370, k_1368, k_1369, -⟩ := hw
            replace hE := (hE.trans (Lt2_in k_1369)).trans (Lt2_in rfl)
            refine lv_iadd hx hb dX5_askHour_95 ?_
            refine lv_topi (fun x_1371 ex_1371 => ?_)
            replace hE := hE.trans (Lt_in ex_1371)
            have hx_1371 : x_1371.toInt = (v_1277.toInt + r_1366.toInt) := by rw [ex_1371]; exact i_add rfl rfl (by omega)
            refine va_mmin hx hb (hml.trans hl.1.symm) hown (hts _ mm_X5_askHour_688) (hts _ mm_X5_askHour_426) (hts _ mm_X5_askHour_157) (hts _ mm_X5_askHour_427) (Nat.le_of_ble_eq_true rfl) (Nat.le_of_ble_eq_true rfl) (Nat.le_of_ble_eq_true rfl) (Nat.le_of_ble_eq_true rfl) dX5_askHour_96 ?_
            refine lv_topi (fun x_1372 ex_1372 => ?_)
            replace hE := hE.trans (Lt_in ex_1372)
            have hx_1372 : (20 ≤ (v_1277.toInt + r_1366.toInt) ∧ x_1372.toInt = 20) ∨ ((v_1277.toInt + r_1366.toInt) < 20 ∧ x_1372.toInt = (v_1277.toInt + r_1366.toInt)) := by rw [ex_1372]; exact i_min (show (20 : Int32).toInt = 20 from rfl) hx_1371
            replace hx_1372 : x_1372.toInt ≤ (v_1277.toInt + r_1366.toInt) ∧ 0 ≤ x_1372.toInt ∧ x_1372.toInt ≤ 20 := by omega
            refine va_iast hx hb hK hP hD hS 2 0 rfl rfl (i_in rfl (by omega)) dX5_askHour_99 (fun H locs hP0 hD0 hS0 => ?_)
            clear hP hD hS
            have hP := hP0
            have hD := hD0
            have hS := hS0
            clear hP0 hD0 hS0
            generalize hf_1373 : (upd f_1280 (v_1277 : Int32).toNatClampNeg x_1372) = f_1373 at hP hD
            replace hE := hE.trans (Lt_in hf_1373.symm)
            have hf_1373_0 : Rg 21 (-1) 20 f_1373 := by rw [← hf_1373]; exact Rg.upd hf_1280_0 rfl (by omega)
            replace hP : va_P D vwCl [(p0, .inr (5, [.ref a0, .ref p1, .ref p2, .ref p3, .ref p4, .ref p5])), (p1, .inl (K 0, 21, .inl f_1358)), (p2, .inl (K 0, 21, .inl f_1373)), (t3, .inl (K 0, 24, .inl f3)), (l0, .inl (K 4, 6, .inr (.inr (.inr (.inr fl))))), (t0, .inr (9, [.ref t1, .ref t3, .ref t2, .ref l0, .int n, .int lt, .int nf, .int fi, k_8, k_9])), (t1, .inl (K 0, 56, .inl f1)), (t2, .inl (K 0, 6, .inl f2)), (a0, .inr (0, [.ref m0, .ref w0])), (m0, .inr (3, [.ref m1, .int (u_1367.2.2.2.1 0)])), (m1, .inl (K 0, 64, .inl (u_1367.2.1 0))), (w0, .inl (K 0, 9, .inl (u_1351.2.1 0)))] H := hP
            replace hD : va_D A [(p0, .inr (5, [.ref a0, .ref p1, .ref p2, .ref p3, .ref p4, .ref p5])), (p1, .inl (K 0, 21, .inl f_1358)), (p2, .inl (K 0, 21, .inl f_1373)), (t3, .inl (K 0, 24, .inl f3)), (l0, .inl (K 4, 6, .inr (.inr (.inr (.inr fl))))), (t0, .inr (9, [.ref t1, .ref t3, .ref t2, .ref l0, .int n, .int lt, .int nf, .int fi, k_8, k_9])), (t1, .inl (K 0, 56, .inl f1)), (t2, .inl (K 0, 6, .inl f2)), (a0, .inr (0, [.ref m0, .ref w0])), (m0, .inr (3, [.ref m1, .int (u_1367.2.2.2.1 0)])), (m1, .inl (K 0, 64, .inl (u_1367.2.1 0))), (w0, .inl (K 0, 9, .inl (u_1351.2.1 0)))] := hD
            obtain ⟨x_1374, ex_1374⟩ : ∃ y : Int32, y = v_1277 + Int32.ofInt 1 := ⟨_, rfl⟩
            replace hE := hE.trans (Lt_in ex_1374)
            have hx_1374 : x_1374.toInt = (v_1277.toInt + 1) := by rw [ex_1374]; exact i_add rfl (show (Int32.ofInt 1).toInt = 1 from rfl) (by omega)
            refine lv_iinc (v := x_1374) (lv' := [(5, .int x_1374), (6, .int 0), (4, .ref q_942), (0, .ref p0), (1, .ref t0), (2, .int x), (3, .int y)]) hx hb dX5_askHour_100 hl (k := 1) rfl (by rw [ex_1374]) (by decide +kernel) rfl (fun ls hl => ?_)
            refine lv_goto (tgt := 9) hx hb dX5_askHour_103 (by decide +kernel) ?_
            exact ih_1348 x_1374 (u_1367.2.2.2.1 0) f_1358 f_1373 (u_1367.2.1 0) (u_1351.2.1 0) (by rw [hx_1374]; omega) (by omega) hf_1358_0 hf_1373_0 (by omega) (hE.trans (by rw [hrec_1347])) _ _ (hP.sub [0, 1, 2, 8, 9, 10, 11, 5, 6, 7, 3, 4] rfl) (hD.sub [0, 1, 2, 8, 9, 10, 11, 5, 6, 7, 3, 4] (by decide +kernel) rfl) hS ls (lv_sub hl [0, 2, 3, 4, 5, 6] rfl)
          · have c_1364i := i_eq (x := r_1359.toInt) (y := 1) rfl rfl c_1364
            replace hE := hE.trans (if_pos c_1364)
            refine lv_iconst (v := 1) hx hb dX5_askHour_59 (by decide +kernel) ?_
            refine lv_goto (tgt := 64) hx hb dX5_askHour_60 (by decide +kernel) ?_
            refine lv_istore (lv' := [(6, .int 1), (5, .int v_1277), (4, .ref q_942), (0, .ref p0), (1, .ref t0), (2, .int x), (3, .int y)]) hx hb dX5_askHour_64 hl (by decide +kernel) rfl (fun ls hl => ?_)
            refine lv_aload_n hx hb dX5_askHour_66 rfl (lv_at hl 3 rfl) ?_
            refine va_get (ci := 5) (v := .ref p2) (C := RX5) (T := TX5) (N := 6) hx hb hts hw5 hown hK hP 0 rfl rfl 2 (by decide +kernel) (hts _ mm_X5_askHour_309) (fun _ h9 => h9) rfl dX5_askHour_67 ?_
            refine lv_iload hx hb dX5_askHour_70 (lv_at hl 1 rfl) ?_
            refine lv_iload hx hb dX5_askHour_72 (lv_at hl 0 rfl) ?_
            refine lv_if_eq (tgt := 81) hx hb dX5_askHour_74 (by decide +kernel) (fun c_1375 => absurd c_1375 (by decide +kernel)) (fun c_1375 => ?_)
            refine lv_iconst (v := (-1)) hx hb dX5_askHour_77 (by decide +kernel) ?_
            refine lv_goto (tgt := 99) hx hb dX5_askHour_78 (by decide +kernel) ?_
            refine va_iast hx hb hK hP hD hS 2 0 rfl rfl (i_in rfl (by omega)) dX5_askHour_99 (fun H locs hP0 hD0 hS0 => ?_)
            clear hP hD hS
            have hP := hP0
            have hD := hD0
            have hS := hS0
            clear hP0 hD0 hS0
            generalize hf_1376 : (upd f_1280 (v_1277 : Int32).toNatClampNeg (-1)) = f_1376 at hP hD
            replace hE := hE.trans (Lt_in hf_1376.symm)
            have hf_1376_0 : Rg 21 (-1) 20 f_1376 := by rw [← hf_1376]; exact Rg.upd hf_1280_0 (show ((-1) : Int32).toInt = (-1) from rfl) (by omega)
            replace hP : va_P D vwCl [(p0, .inr (5, [.ref a0, .ref p1, .ref p2, .ref p3, .ref p4, .ref p5])), (p1, .inl (K 0, 21, .inl f_1358)), (p2, .inl (K 0, 21, .inl f_1376)), (t3, .inl (K 0, 24, .inl f3)), (l0, .inl (K 4, 6, .inr (.inr (.inr (.inr fl))))), (t0, .inr (9, [.ref t1, .ref t3, .ref t2, .ref l0, .int n, .int lt, .int nf, .int fi, k_8, k_9])), (t1, .inl (K 0, 56, .inl f1)), (t2, .inl (K 0, 6, .inl f2)), (a0, .inr (0, [.ref m0, .ref w0])), (m0, .inr (3, [.ref m1, .int (u_1360.2.2.2.1 0)])), (m1, .inl (K 0, 64, .inl (u_1360.2.1 0))), (w0, .inl (K 0, 9, .inl (u_1351.2.1 0)))] H := hP
            replace hD : va_D A [(p0, .inr (5, [.ref a0, .ref p1, .ref p2, .ref p3, .ref p4, .ref p5])), (p1, .inl (K 0, 21, .inl f_1358)), (p2, .inl (K 0, 21, .inl f_1376)), (t3, .inl (K 0, 24, .inl f3)), (l0, .inl (K 4, 6, .inr (.inr (.inr (.inr fl))))), (t0, .inr (9, [.ref t1, .ref t3, .ref t2, .ref l0, .int n, .int lt, .int nf, .int fi, k_8, k_9])), (t1, .inl (K 0, 56, .inl f1)), (t2, .inl (K 0, 6, .inl f2)), (a0, .inr (0, [.ref m0, .ref w0])), (m0, .inr (3, [.ref m1, .int (u_1360.2.2.2.1 0)])), (m1, .inl (K 0, 64, .inl (u_1360.2.1 0))), (w0, .inl (K 0, 9, .inl (u_1351.2.1 0)))] := hD
            obtain ⟨x_1377, ex_1377⟩ : ∃ y : Int32, y = v_1277 + Int32.ofInt 1 := ⟨_, rfl⟩
            replace hE := hE.trans (Lt_in ex_1377)
            have hx_1377 : x_1377.toInt = (v_1277.toInt + 1) := by rw [ex_1377]; exact i_add rfl (show (Int32.ofInt 1).toInt = 1 from rfl) (by omega)
            refine lv_iinc (v := x_1377) (lv' := [(5, .int x_1377), (6, .int 1), (4, .ref q_942), (0, .ref p0), (1, .ref t0), (2, .int x), (3, .int y)]) hx hb dX5_askHour_100 hl (k := 1) rfl (by rw [ex_1377]) (by decide +kernel) rfl (fun ls hl => ?_)
            refine lv_goto (tgt := 9) hx hb dX5_askHour_103 (by decide +kernel) ?_
            exact ih_1348 x_1377 (u_1360.2.2.2.1 0) f_1358 f_1376 (u_1360.2.1 0) (u_1351.2.1 0) (by rw [hx_1377]; omega) (by omega) hf_1358_0 hf_1376_0 (by omega) (hE.trans (by rw [hrec_1347])) _ _ (hP.sub [0, 1, 2, 8, 9, 10, 11, 5, 6, 7, 3, 4] rfl) (hD.sub [0, 1, 2, 8, 9, 10, 11, 5, 6, 7, 3, 4] (by decide +kernel) rfl) hS ls (lv_sub hl [0, 2, 3, 4, 5, 6] rfl)
    exact lp_1347 ((22 - (0 : Int32).toInt : Int).toNat + 1) 0 br fb ff fs fw (by decide +kernel) (by omega) zfb zff (Nat.lt_succ_self _) hE _ _ hP hD hS ls (lv_sub hl [0, 1, 2, 3, 4, 5] rfl)
set_option maxRecDepth 100000 in
noncomputable def E_w_settleHour_j136 (f_1617 : Nat → Int32) (f_1618 : Nat → Int32) (f_1619 : Nat → Int32) : (Nat → Int32) × (Nat → Int32) × (Nat → Int32) :=
  ((f_1617, f_1618, f_1619) : (Nat → Int32) × (Nat → Int32) × (Nat → Int32))
set_option maxRecDepth 100000 in
noncomputable def E_w_settleHour_j121 (ff : Nat → Int32) (v_1615 : Int32) (v_1616 : Int32) (rec_1791 : Int32 → Int32 → (Nat → Int32) → (Nat → Int32) → (Nat → Int32) → ((Nat → Int32) × (Nat → Int32) × (Nat → Int32))) (f_1854 : Nat → Int32) (f_1855 : Nat → Int32) (f_1856 : Nat → Int32) : (Nat → Int32) × (Nat → Int32) × (Nat → Int32) :=
  Lt (ff (v_1616 : Int32).toNatClampNeg : Int32) (fun x_1860 => Lt (v_1615 + Int32.ofInt 1 : Int32) (fun x_1861 => rec_1791 x_1861 x_1860 f_1854 f_1855 f_1856))
set_option maxRecDepth 100000 in
noncomputable def E_w_settleHour_l24 (x : Int32) (z : Int32) (fb : Nat → Int32) (ff : Nat → Int32) (f2 : Nat → Int32) (x_1272 : Int32) (rec_1791 : Int32 → Int32 → (Nat → Int32) → (Nat → Int32) → (Nat → Int32) → ((Nat → Int32) × (Nat → Int32) × (Nat → Int32))) (v_1615 : Int32) (v_1616 : Int32) (f_1617 : Nat → Int32) (f_1618 : Nat → Int32) (f_1619 : Nat → Int32) : (Nat → Int32) × (Nat → Int32) × (Nat → Int32) :=
  if 2 < v_1615 then (E_w_settleHour_j136 f_1617 f_1618 f_1619) else (if v_1616 = (-1) then (E_w_settleHour_j136 f_1617 f_1618 f_1619) else (Lt (E_w_loud v_1616 f2) (fun r_1837 => if r_1837 = z then (Lt (fb (v_1616 : Int32).toNatClampNeg : Int32) (fun x_1863 => Lt (v_1616 - x_1863 : Int32) (fun x_1864 => Lt (if (0 : Int32) < (x_1864 : Int32) then (x_1864 : Int32) else (0 : Int32) : Int32) (fun x_1865 => Lt (x + 1 : Int32) (fun x_1866 => Lt (x_1866 * 21 : Int32) (fun x_1867 => Lt (x_1867 + x_1865 : Int32) (fun x_1868 => Lt (f_1617 (x_1868 : Int32).toNatClampNeg : Int32) (fun x_1869 => Lt (v_1615 + x_1869 : Int32) (fun x_1870 => Lt (f_1617 (x_1272 : Int32).toNatClampNeg : Int32) (fun x_1871 => if x_1871 ≤ x_1870 then (E_w_settleHour_j121 ff v_1615 v_1616 rec_1791 f_1617 f_1618 f_1619) else (Lt (upd f_1617 (x_1272 : Int32).toNatClampNeg x_1870 : Nat → Int32) (fun f_1873 => Lt (upd f_1618 (x_1272 : Int32).toNatClampNeg v_1615 : Nat → Int32) (fun f_1874 => Lt (upd f_1619 (x_1272 : Int32).toNatClampNeg x_1865 : Nat → Int32) (fun f_1875 => E_w_settleHour_j121 ff v_1615 v_1616 rec_1791 f_1873 f_1874 f_1875)))))))))))))) else (E_w_settleHour_j121 ff v_1615 v_1616 rec_1791 f_1617 f_1618 f_1619))))
set_option maxRecDepth 100000 in
noncomputable def E_w_settleHour (x : Int32) (y : Int32) (z : Int32) (fb : Nat → Int32) (ff : Nat → Int32) (fo : Nat → Int32) (fk : Nat → Int32) (fa : Nat → Int32) (f2 : Nat → Int32) : (Nat → Int32) × (Nat → Int32) × (Nat → Int32) :=
  Lt (x * 21 : Int32) (fun x_1271 => Lt (x_1271 + y : Int32) (fun x_1272 => Lt (upd fo (x_1272 : Int32).toNatClampNeg 1000 : Nat → Int32) (fun f_1273 => Lp (α := Int32 → Int32 → (Nat → Int32) → (Nat → Int32) → (Nat → Int32) → ((Nat → Int32) × (Nat → Int32) × (Nat → Int32))) (E_w_settleHour_l24 x z fb ff f2 x_1272) (fun _ _ _ _ _ => ((fun _ => 0, fun _ => 0, fun _ => 0) : (Nat → Int32) × (Nat → Int32) × (Nat → Int32))) ((4 - (0 : Int32).toInt : Int).toNat + 1) 0 y f_1273 fk fa)))
set_option maxHeartbeats 4000000 in
set_option maxRecDepth 100000 in
theorem w_settleHour (l : Launch) (D : va_G) (K : Nat → ClassId) (p0 : Nat) (t0 : Nat) (x : Int32) (y : Int32) (z : Int32) (a0 : Nat) (p1 : Nat) (p2 : Nat) (p3 : Nat) (p4 : Nat) (p5 : Nat) (fb : Nat → Int32) (ff : Nat → Int32) (fo : Nat → Int32) (fk : Nat → Int32) (fa : Nat → Int32) (k_0 : Value) (k_1 : Value) (t2 : Nat) (k_3 : Value) (k_4 : Value) (k_5 : Value) (k_6 : Value) (k_7 : Value) (k_8 : Value) (k_9 : Value) (f2 : Nat → Int32) (sz : Nat) (zx : 0 ≤ x.toInt ∧ x.toInt ≤ 11) (zy : 0 ≤ y.toInt ∧ y.toInt ≤ 20) (zz : 0 ≤ z.toInt ∧ z.toInt ≤ 1) (zfb : Rg 21 0 999 fb) (zff : Rg 21 (-1) 20 ff) (zfo : Rg 273 0 1000 fo) (zfa : Rg 252 0 20 fa) : Met l yX5_settleHour wsX5_settleHour ({ frames := 1, cells := 0, slots := 0, locals := 21 }) (va_Pc [.ref p0, .ref t0, .int x, .int y, .int z] (Pre D K [(p0, .inr (5, [.ref a0, .ref p1, .ref p2, .ref p3, .ref p4, .ref p5])), (p1, .inl (K 0, 21, .inl fb)), (p2, .inl (K 0, 21, .inl ff)), (p3, .inl (K 0, 273, .inl fo)), (p4, .inl (K 0, 252, .inl fk)), (p5, .inl (K 0, 252, .inl fa)), (t0, .inr (9, [k_0, k_1, .ref t2, k_3, k_4, k_5, k_6, k_7, k_8, k_9])), (t2, .inl (K 0, 6, .inl f2))] sz)) (va_Qv (S := Su) (fun (u : Su) => (Rg 273 0 1000 (u.2.1 0)) ∧ (Rg 252 0 20 (u.2.1 2)) ∧ (((u.2.1 0), (u.2.1 1), (u.2.1 2)) = E_w_settleHour x y z fb ff fo fk fa f2) ∧ True) (fun u t => Wd D (va_A [(p0, .inr (5, [.ref a0, .ref p1, .ref p2, .ref p3, .ref p4, .ref p5])), (p1, .inl (K 0, 21, .inl fb)), (p2, .inl (K 0, 21, .inl ff)), (p3, .inl (K 0, 273, .inl fo)), (p4, .inl (K 0, 252, .inl fk)), (p5, .inl (K 0, 252, .inl fa)), (t0, .inr (9, [k_0, k_1, .ref t2, k_3, k_4, k_5, k_6, k_7, k_8, k_9])), (t2, .inl (K 0, 6, .inl f2))] sz) ((fun u => [(p0, .inr (5, [.ref a0, .ref p1, .ref p2, .ref p3, .ref p4, .ref p5])), (p1, .inl (K 0, 21, .inl fb)), (p2, .inl (K 0, 21, .inl ff)), (p3, .inl (K 0, 273, .inl (u.2.1 0))), (p4, .inl (K 0, 252, .inl (u.2.1 1))), (p5, .inl (K 0, 252, .inl (u.2.1 2))), (t0, .inr (9, [k_0, k_1, .ref t2, k_3, k_4, k_5, k_6, k_7, k_8, k_9])), (t2, .inl (K 0, 6, .inl f2))]) u) t) (va_A [(p0, .inr (5, [.ref a0, .ref p1, .ref p2, .ref p3, .ref p4, .ref p5])), (p1, .inl (K 0, 21, .inl fb)), (p2, .inl (K 0, 21, .inl ff)), (p3, .inl (K 0, 273, .inl fo)), (p4, .inl (K 0, 252, .inl fk)), (p5, .inl (K 0, 252, .inl fa)), (t0, .inr (9, [k_0, k_1, .ref t2, k_3, k_4, k_5, k_6, k_7, k_8, k_9])), (t2, .inl (K 0, 6, .inl f2))] sz)) 0 0 (va_A [(p0, .inr (5, [.ref a0, .ref p1, .ref p2, .ref p3, .ref p4, .ref p5])), (p1, .inl (K 0, 21, .inl fb)), (p2, .inl (K 0, 21, .inl ff)), (p3, .inl (K 0, 273, .inl fo)), (p4, .inl (K 0, 252, .inl fk)), (p5, .inl (K 0, 252, .inl fa)), (t0, .inr (9, [k_0, k_1, .ref t2, k_3, k_4, k_5, k_6, k_7, k_8, k_9])), (t2, .inl (K 0, 6, .inl f2))] sz) := by
  refine Met.ofW (cc := cX5_settleHour) (maxL := 10) (ret := none) (by decide +kernel) rfl ?_
  intro p e s m args below meth c s₁ B hml hv
  obtain ⟨rfl, hsz, hP, hK, hD0, hN⟩ := hv
  have hx := B.exec
  have hb := B.bytes
  have hr := B.returns
  have hts := atoms_spec (ws := wsX5_settleHour) B.pre
  have hown : s.vm.findClass RX5 = some m.cls := findClass_of_methodNamed B.named
  have hlocks := B.notSynchronized
  subst hsz
  have hD := hD0.self (sz := s.heap.size)
  generalize hAe : va_A [(p0, .inr (5, [.ref a0, .ref p1, .ref p2, .ref p3, .ref p4, .ref p5])), (p1, .inl (K 0, 21, .inl fb)), (p2, .inl (K 0, 21, .inl ff)), (p3, .inl (K 0, 273, .inl fo)), (p4, .inl (K 0, 252, .inl fk)), (p5, .inl (K 0, 252, .inl fa)), (t0, .inr (9, [k_0, k_1, .ref t2, k_3, k_4, k_5, k_6, k_7, k_8, k_9])), (t2, .inl (K 0, 6, .inl f2))] s.heap.size = A at hD ⊢
  have hA : ∀ q : Nat, s.heap.size ≤ q → A q := fun q h => by rw [← hAe]; exact Or.inr h
  clear hAe
  have hS : va_S A s.heap s.heap [] := va_S.rf
  replace hP : va_P D vwCl [(p0, .inr (5, [.ref a0, .ref p1, .ref p2, .ref p3, .ref p4, .ref p5])), (p1, .inl (K 0, 21, .inl fb)), (p2, .inl (K 0, 21, .inl ff)), (p3, .inl (K 0, 273, .inl fo)), (p4, .inl (K 0, 252, .inl fk)), (p5, .inl (K 0, 252, .inl fa)), (t0, .inr (9, [k_0, k_1, .ref t2, k_3, k_4, k_5, k_6, k_7, k_8, k_9])), (t2, .inl (K 0, 6, .inl f2))] s.heap := hP
  have hl := lv_entry [.ref p0, .ref t0, .int x, .int y, .int z] (n := 10) (Nat.le_of_ble_eq_true rfl)
  rw [lg_entry_eq]
  generalize (lg_sl [.ref p0, .ref t0, .int x, .int y, .int z] ++ List.replicate (10 - (lg_sl [.ref p0, .ref t0, .int x, .int y, .int z]).length) Slot.unset).toArray = ls at hl ⊢
  have hl : lv_has ls 10 [(0, .ref p0), (1, .ref t0), (2, .int x), (3, .int y), (4, .int z)] := hl
  have hw5 : ∀ w ∈ wsX50, w ∈ wsX5_settleHour := fun w h => (List.mem_cons_of_mem _ (List.mem_append_left _ (List.mem_append_right _ h)))
  have hw9 : ∀ w ∈ wsX90, w ∈ wsX5_settleHour := fun w h => (List.mem_cons_of_mem _ (List.mem_append_right _ h))
  generalize hQ : MQ below _ _ s _ _ _ = Q
  have hE := E_w_settleHour.eq_def x y z fb ff fo fk fa f2
  refine lv_iload_n hx hb dX5_settleHour_0 rfl (lv_at hl 2 rfl) ?_
  refine lv_bipush (v := 21) hx hb dX5_settleHour_1 (by decide +kernel) ?_
  refine lv_imul hx hb dX5_settleHour_3 ?_
  refine lv_topi (fun x_1271 ex_1271 => ?_)
  replace hE := hE.trans (Lt_in ex_1271)
  have hx_1271 : x_1271.toInt = (x.toInt * 21) := by rw [ex_1271]; exact i_mul rfl (show (21 : Int32).toInt = 21 from rfl) (by omega)
  refine lv_iload_n hx hb dX5_settleHour_4 rfl (lv_at hl 3 rfl) ?_
  refine lv_iadd hx hb dX5_settleHour_5 ?_
  refine lv_topi (fun x_1272 ex_1272 => ?_)
  replace hE := hE.trans (Lt_in ex_1272)
  have hx_1272 : x_1272.toInt = ((x.toInt * 21) + y.toInt) := by rw [ex_1272]; exact i_add hx_1271 rfl (by omega)
  refine lv_istore (lv' := [(5, .int x_1272), (0, .ref p0), (1, .ref t0), (2, .int x), (3, .int y), (4, .int z)]) hx hb dX5_settleHour_6 hl (by decide +kernel) rfl (fun ls hl => ?_)
  refine lv_iload_n hx hb dX5_settleHour_8 rfl (lv_at hl 4 rfl) ?_
  refine lv_istore (lv' := [(6, .int y), (5, .int x_1272), (0, .ref p0), (1, .ref t0), (2, .int x), (3, .int y), (4, .int z)]) hx hb dX5_settleHour_9 hl (by decide +kernel) rfl (fun ls hl => ?_)
  refine lv_aload_n hx hb dX5_settleHour_11 rfl (lv_at hl 2 rfl) ?_
  refine va_get (ci := 5) (v := .ref p3) (C := RX5) (T := TX5) (N := 6) hx hb hts hw5 hown hK hP 0 rfl rfl 3 (by decide +kernel) (hts _ mm_X5_settleHour_310) (fun _ h9 => h9) rfl dX5_settleHour_12 ?_
  refine lv_iload hx hb dX5_settleHour_15 (lv_at hl 1 rfl) ?_
  refine lv_sipush (v := 1000) hx hb dX5_settleHour_17 (by decide +kernel) ?_
  refine va_iast hx hb hK hP hD hS 3 0 rfl rfl (i_in hx_1272 (by omega)) dX5_settleHour_20 (fun H locs hP0 hD0 hS0 => ?_)
  clear hP hD hS
  have hP := hP0
  have hD := hD0
  have hS := hS0
  clear hP0 hD0 hS0
  generalize hf_1273 : (upd fo (x_1272 : Int32).toNatClampNeg 1000) = f_1273 at hP hD
  replace hE := hE.trans (Lt_in hf_1273.symm)
  have hf_1273_0 : Rg 273 0 1000 f_1273 := by rw [← hf_1273]; exact Rg.upd zfo (show (1000 : Int32).toInt = 1000 from rfl) (by omega)
  replace hP : va_P D vwCl [(p0, .inr (5, [.ref a0, .ref p1, .ref p2, .ref p3, .ref p4, .ref p5])), (p1, .inl (K 0, 21, .inl fb)), (p2, .inl (K 0, 21, .inl ff)), (p3, .inl (K 0, 273, .inl f_1273)), (p4, .inl (K 0, 252, .inl fk)), (p5, .inl (K 0, 252, .inl fa)), (t0, .inr (9, [k_0, k_1, .ref t2, k_3, k_4, k_5, k_6, k_7, k_8, k_9])), (t2, .inl (K 0, 6, .inl f2))] H := hP
  replace hD : va_D A [(p0, .inr (5, [.ref a0, .ref p1, .ref p2, .ref p3, .ref p4, .ref p5])), (p1, .inl (K 0, 21, .inl fb)), (p2, .inl (K 0, 21, .inl ff)), (p3, .inl (K 0, 273, .inl f_1273)), (p4, .inl (K 0, 252, .inl fk)), (p5, .inl (K 0, 252, .inl fa)), (t0, .inr (9, [k_0, k_1, .ref t2, k_3, k_4, k_5, k_6, k_7, k_8, k_9])), (t2, .inl (K 0, 6, .inl f2))] := hD
  refine lv_iconst (v := 0) hx hb dX5_settleHour_21 (by decide +kernel) ?_
  refine lv_istore (lv' := [(7, .int 0), (6, .int y), (5, .int x_1272), (0, .ref p0), (1, .ref t0), (2, .int x), (3, .int y), (4, .int z)]) hx hb dX5_settleHour_22 hl (by decide +kernel) rfl (fun ls hl => ?_)
  have lp_1791 : ∀ (nn_ : Nat) (v_1615 : Int32) (v_1616 : Int32) (f_1617 : Nat → Int32) (f_1618 : Nat → Int32) (f_1619 : Nat → Int32) (hv_1615 : 0 ≤ v_1615.toInt ∧ v_1615.toInt ≤ 3) (hv_1616 : (-1) ≤ v_1616.toInt ∧ v_1616.toInt ≤ 20) (hf_1617_0 : Rg 273 0 1000 f_1617) (hf_1619_0 : Rg 252 0 20 f_1619) (hn : (4 - v_1615.toInt : Int).toNat < nn_) (hE : E_w_settleHour x y z fb ff fo fk fa f2 = Lp (α := Int32 → Int32 → (Nat → Int32) → (Nat → Int32) → (Nat → Int32) → ((Nat → Int32) × (Nat → Int32) × (Nat → Int32))) (E_w_settleHour_l24 x z fb ff f2 x_1272) (fun _ _ _ _ _ => ((fun _ => 0, fun _ => 0, fun _ => 0) : (Nat → Int32) × (Nat → Int32) × (Nat → Int32))) nn_ v_1615 v_1616 f_1617 f_1618 f_1619) (H : Heap) (locs : List Loc) (hP : va_P D vwCl [(p0, .inr (5, [.ref a0, .ref p1, .ref p2, .ref p3, .ref p4, .ref p5])), (p1, .inl (K 0, 21, .inl fb)), (p2, .inl (K 0, 21, .inl ff)), (p3, .inl (K 0, 273, .inl f_1617)), (p4, .inl (K 0, 252, .inl f_1618)), (p5, .inl (K 0, 252, .inl f_1619)), (t0, .inr (9, [k_0, k_1, .ref t2, k_3, k_4, k_5, k_6, k_7, k_8, k_9])), (t2, .inl (K 0, 6, .inl f2))] H) (hD : va_D A [(p0, .inr (5, [.ref a0, .ref p1, .ref p2, .ref p3, .ref p4, .ref p5])), (p1, .inl (K 0, 21, .inl fb)), (p2, .inl (K 0, 21, .inl ff)), (p3, .inl (K 0, 273, .inl f_1617)), (p4, .inl (K 0, 252, .inl f_1618)), (p5, .inl (K 0, 252, .inl f_1619)), (t0, .inr (9, [k_0, k_1, .ref t2, k_3, k_4, k_5, k_6, k_7, k_8, k_9])), (t2, .inl (K 0, 6, .inl f2))]) (hS : va_S A s.heap H locs) (ls : Array Slot) (hl : lv_has ls 10 [(7, .int v_1615), (6, .int v_1616), (5, .int x_1272), (0, .ref p0), (1, .ref t0), (2, .int x), (4, .int z)]), W p l e ({ frames := 1, cells := 0, slots := 0, locals := 21 }) s m (([.ref p0, .ref t0, .int x, .int y, .int z] : List Value).toArray) below meth c H locs 0 0 Q (F0 m 24 ls []) := by
    clear hE hP hD hS hl
    intro nn_
    induction nn_ with
    | zero =>
      intro v_1615 v_1616 f_1617 f_1618 f_1619 hv_1615 hv_1616 hf_1617_0 hf_1619_0 hn hE H locs hP hD hS ls hl
      exact absurd hn (Nat.not_lt_zero _)
    | succ nn_ ih_1792 =>
      intro v_1615 v_1616 f_1617 f_1618 f_1619 hv_1615 hv_1616 hf_1617_0 hf_1619_0 hn hE H locs hP hD hS ls hl
      replace hE : E_w_settleHour x y z fb ff fo fk fa f2 = E_w_settleHour_l24 x z fb ff f2 x_1272 (Lp (α := Int32 → Int32 → (Nat → Int32) → (Nat → Int32) → (Nat → Int32) → ((Nat → Int32) × (Nat → Int32) × (Nat → Int32))) (E_w_settleHour_l24 x z fb ff f2 x_1272) (fun _ _ _ _ _ => ((fun _ => 0, fun _ => 0, fun _ => 0) : (Nat → Int32) × (Nat → Int32) × (Nat → Int32))) nn_) v_1615 v_1616 f_1617 f_1618 f_1619 := hE
      obtain ⟨rec_1791, hrec_1791⟩ : ∃ z9, z9 = Lp (α := Int32 → Int32 → (Nat → Int32) → (Nat → Int32) → (Nat → Int32) → ((Nat → Int32) × (Nat → Int32) × (Nat → Int32))) (E_w_settleHour_l24 x z fb ff f2 x_1272) (fun _ _ _ _ _ => ((fun _ => 0, fun _ => 0, fun _ => 0) : (Nat → Int32) × (Nat → Int32) × (Nat → Int32))) nn_ := ⟨_, rfl⟩
      rw [← hrec_1791] at hE
      replace hE := hE.trans (E_w_settleHour_l24.eq_def _ _ _ _ _ _ _ _ _ _ _ _)
      refine lv_iload hx hb dX5_settleHour_24 (lv_at hl 0 rfl) ?_
      refine lv_iconst (v := 2) hx hb dX5_settleHour_26 (by decide +kernel) ?_
      have j_1834 : ∀ (hE : E_w_settleHour x y z fb ff fo fk fa f2 = E_w_settleHour_j136 f_1617 f_1618 f_1619) (H : Heap) (locs : List Loc) (hP : va_P D vwCl [(p0, .inr (5, [.ref a0, .ref p1, .ref p2, .ref p3, .ref p4, .ref p5])), (p1, .inl (K 0, 21, .inl fb)), (p2, .inl (K 0, 21, .inl ff)), (p3, .inl (K 0, 273, .inl f_1617)), (p4, .inl (K 0, 252, .inl f_1618)), (p5, .inl (K 0, 252, .inl f_1619)), (t0, .inr (9, [k_0, k_1, .ref t2, k_3, k_4, k_5, k_6, k_7, k_8, k_9])), (t2, .inl (K 0, 6, .inl f2))] H) (hD : va_D A [(p0, .inr (5, [.ref a0, .ref p1, .ref p2, .ref p3, .ref p4, .ref p5])), (p1, .inl (K 0, 21, .inl fb)), (p2, .inl (K 0, 21, .inl ff)), (p3, .inl (K 0, 273, .inl f_1617)), (p4, .inl (K 0, 252, .inl f_1618)), (p5, .inl (K 0, 252, .inl f_1619)), (t0, .inr (9, [k_0, k_1, .ref t2, k_3, k_4, k_5, k_6, k_7, k_8, k_9])), (t2, .inl (K 0, 6, .inl f2))]) (hS : va_S A s.heap H locs) (ls : Array Slot) (hl : lv_has ls 10 []), W p l e ({ frames := 1, cells := 0, slots := 0, locals := 21 }) s m (([.ref p0, .ref t0, .int x, .int y, .int z] : List Value).toArray) below meth c H locs 0 0 Q (F0 m 136 ls []) := by
        clear hE hP hD hS hl
        intro hE H locs hP hD hS ls hl
        replace hE := hE.trans (E_w_settleHour_j136.eq_def _ _ _)
        rw [← hQ]
        have hP9 := hP.sub (ws' := [(p0, .inr (5, [.ref a0, .ref p1, .ref p2, .ref p3, .ref p4, .ref p5])), (p1, .inl (K 0, 21, .inl fb)), (p2, .inl (K 0, 21, .inl ff)), (p3, .inl (K 0, 273, .inl f_1617)), (p4, .inl (K 0, 252, .inl f_1618)), (p5, .inl (K 0, 252, .inl f_1619)), (t0, .inr (9, [k_0, k_1, .ref t2, k_3, k_4, k_5, k_6, k_7, k_8, k_9])), (t2, .inl (K 0, 6, .inl f2))]) [0, 1, 2, 3, 4, 5, 6, 7] rfl
        have hD9 := hD.sub (ws' := [(p0, .inr (5, [.ref a0, .ref p1, .ref p2, .ref p3, .ref p4, .ref p5])), (p1, .inl (K 0, 21, .inl fb)), (p2, .inl (K 0, 21, .inl ff)), (p3, .inl (K 0, 273, .inl f_1617)), (p4, .inl (K 0, 252, .inl f_1618)), (p5, .inl (K 0, 252, .inl f_1619)), (t0, .inr (9, [k_0, k_1, .ref t2, k_3, k_4, k_5, k_6, k_7, k_8, k_9])), (t2, .inl (K 0, 6, .inl f2))]) [0, 1, 2, 3, 4, 5, 6, 7] (by decide +kernel) rfl
        exact W.vret hx hb hr (fun t ht hW => ⟨⟨((fun _ => 0, fun i => match i with | 0 => f_1617 | 1 => f_1618 | _ => f_1619, fun _ => fun _ => 0, fun _ => 0, fun _ => 0, fun _ => fun _ => none) : Su), rfl, ⟨hf_1617_0, hf_1619_0, hE.symm, trivial⟩, (⟨by rw [ht]; exact hP9, hD9⟩ : Wd D A _ t)⟩, hS.F ht⟩) hS.2.2 dX5_settleHour_136
      refine lv_icmp_gt (tgt := 136) hx hb dX5_settleHour_27 (by decide +kernel) (fun c_1835 => ?_) (fun c_1835 => ?_)
      · have c_1835i := i_lt (x := 2) (y := v_1615.toInt) rfl rfl c_1835
        replace hE := hE.trans (if_pos c_1835)
        exact j_1834   hE _ _ hP hD hS ls (lv_sub hl [] rfl)
      · have c_1835i := i_nlt (x := 2) (y := v_1615.toInt) rfl rfl c_1835
        replace hE := hE.trans (if_neg c_1835)
        refine lv_iload hx hb dX5_settleHour_30 (lv_at hl 1 rfl) ?_
        refine lv_iconst (v := (-1)) hx hb dX5_settleHour_32 (by decide +kernel) ?_
        refine lv_icmp_eq (tgt := 136) hx hb dX5_settleHour_33 (by decide +kernel) (fun c_1836 => ?_) (fun c_1836 => ?_)
        · have c_1836i := i_eq (x := v_1616.toInt) (y := (-1)) rfl rfl c_1836
          replace hE := hE.trans (if_pos c_1836)
          exact j_1834   hE _ _ hP hD hS ls (lv_sub hl [] rfl)
        · have c_1836i := i_ne (x := v_1616.toInt) (y := (-1)) rfl rfl c_1836
          replace hE := hE.trans (if_neg c_1836)
          refine lv_aload_n hx hb dX5_settleHour_36 rfl (lv_at hl 4 rfl) ?_
          refine lv_iload hx hb dX5_settleHour_37 (lv_at hl 1 rfl) ?_
          refine pci (va_runVN (As := [.int v_1616]) (rest := []) ⟨hx, hb, hml, hown, hts⟩ (w_loud l D K t0 v_1616 k_0 k_1 t2 k_3 k_4 k_5 k_6 k_7 k_8 k_9 f2 H.size) ⟨va_cnB 1 hts gX5_settleHour_X9_loud_n69 rfl rfl rfl (nst_at hN 80 rfl) (hts _ mm_X5_settleHour_145) (by decide +kernel) ⟨Nat.le_of_ble_eq_true rfl, Nat.le_of_ble_eq_true rfl⟩, (hts _ mm_X5_settleHour_402), (hts _ mm_X5_settleHour_9)⟩ (mkV hK hN (hP.sub [6, 7] rfl) (hD.sub [6, 7] (by decide +kernel) rfl) (ci := 9) (q0 := 0) rfl rfl) rfl rfl hl.1 rfl (lv_room (Nat.le_of_ble_eq_true rfl)) dX5_settleHour_39 ⟨Nat.le_of_ble_eq_true rfl, Nat.le_of_ble_eq_true rfl⟩) (fun r_1837 hw => ?_)
          obtain ⟨h_1839, k_1838, -⟩ := hw
          replace hE := hE.trans (Lt_in k_1838)
          refine lv_iload hx hb dX5_settleHour_42 (lv_at hl 6 rfl) ?_
          have j_1859 : ∀ (f_1854 : Nat → Int32) (f_1855 : Nat → Int32) (f_1856 : Nat → Int32) (hf_1854_0 : Rg 273 0 1000 f_1854) (hf_1856_0 : Rg 252 0 20 f_1856) (hE : E_w_settleHour x y z fb ff fo fk fa f2 = E_w_settleHour_j121 ff v_1615 v_1616 rec_1791 f_1854 f_1855 f_1856) (H : Heap) (locs : List Loc) (hP : va_P D vwCl [(p0, .inr (5, [.ref a0, .ref p1, .ref p2, .ref p3, .ref p4, .ref p5])), (p1, .inl (K 0, 21, .inl fb)), (p2, .inl (K 0, 21, .inl ff)), (p3, .inl (K 0, 273, .inl f_1854)), (p4, .inl (K 0, 252, .inl f_1855)), (p5, .inl (K 0, 252, .inl f_1856)), (t0, .inr (9, [k_0, k_1, .ref t2, k_3, k_4, k_5, k_6, k_7, k_8, k_9])), (t2, .inl (K 0, 6, .inl f2))] H) (hD : va_D A [(p0, .inr (5, [.ref a0, .ref p1, .ref p2, .ref p3, .ref p4, .ref p5])), (p1, .inl (K 0, 21, .inl fb)), (p2, .inl (K 0, 21, .inl ff)), (p3, .inl (K 0, 273, .inl f_1854)), (p4, .inl (K 0, 252, .inl f_1855)), (p5, .inl (K 0, 252, .inl f_1856)), (t0, .inr (9, [k_0, k_1, .ref t2, k_3, k_4, k_5, k_6, k_7, k_8, k_9])), (t2, .inl (K 0, 6, .inl f2))]) (hS : va_S A s.heap H locs) (ls : Array Slot) (hl : lv_has ls 10 [(7, .int v_1615), (6, .int v_1616), (5, .int x_1272), (0, .ref p0), (1, .ref t0), (2, .int x), (4, .int z)]), W p l e ({ frames := 1, cells := 0, slots := 0, locals := 21 }) s m (([.ref p0, .ref t0, .int x, .int y, .int z] : List Value).toArray) below meth c H locs 0 0 Q (F0 m 121 ls []) := by
            clear hE hP hD hS hl
            intro f_1854 f_1855 f_1856 hf_1854_0 hf_1856_0 hE H locs hP hD hS ls hl
            replace hE := hE.trans (E_w_settleHour_j121.eq_def _ _ _ _ _ _ _)
            refine lv_aload_n hx hb dX5_settleHour_121 rfl (lv_at hl 3 rfl) ?_
            refine va_get (ci := 5) (v := .ref p2) (C := RX5) (T := TX5) (N := 6) hx hb hts hw5 hown hK hP 0 rfl rfl 2 (by decide +kernel) (hts _ mm_X5_settleHour_309) (fun _ h9 => h9) rfl dX5_settleHour_122 ?_
            refine lv_iload hx hb dX5_settleHour_125 (lv_at hl 1 rfl) ?_
            refine va_iald hx hb hK hP 2 0 rfl rfl (i_in rfl (by omega)) dX5_settleHour_127 ?_
            refine lv_topi (fun x_1860 ex_1860 => ?_)
            replace hE := hE.trans (Lt_in ex_1860)
            have hx_1860 := Rg.at zff rfl (show 0 ≤ v_1616.toInt ∧ v_1616.toInt < _ by omega)
            rw [← ex_1860] at hx_1860
            refine lv_istore (lv' := [(6, .int x_1860), (7, .int v_1615), (5, .int x_1272), (0, .ref p0), (1, .ref t0), (2, .int x), (4, .int z)]) hx hb dX5_settleHour_128 hl (by decide +kernel) rfl (fun ls hl => ?_)
            obtain ⟨x_1861, ex_1861⟩ : ∃ y : Int32, y = v_1615 + Int32.ofInt 1 := ⟨_, rfl⟩
            replace hE := hE.trans (Lt_in ex_1861)
            have hx_1861 : x_1861.toInt = (v_1615.toInt + 1) := by rw [ex_1861]; exact i_add rfl (show (Int32.ofInt 1).toInt = 1 from rfl) (by omega)
            refine lv_iinc (v := x_1861) (lv' := [(7, .int x_1861), (6, .int x_1860), (5, .int x_1272), (0, .ref p0), (1, .ref t0), (2, .int x), (4, .int z)]) hx hb dX5_settleHour_130 hl (k := 1) rfl (by rw [ex_1861]) (by decide +kernel) rfl (fun ls hl => ?_)
            refine lv_goto (tgt := 24) hx hb dX5_settleHour_133 (by decide +kernel) ?_
            exact ih_1792 x_1861 x_1860 f_1854 f_1855 f_1856 (by rw [hx_1861]; omega) (by omega) hf_1854_0 hf_1856_0 (by omega) (hE.trans (by rw [hrec_1791])) _ _ hP hD hS ls (lv_sub hl [0, 1, 2, 3, 4, 5, 6] rfl)
          refine lv_icmp_ne (tgt := 121) hx hb dX5_settleHour_44 (by decide +kernel) (fun c_1862 => ?_) (fun c_1862 => ?_)
          · have c_1862i := i_ne (x := r_1837.toInt) (y := z.toInt) rfl rfl c_1862
            replace hE := hE.trans (if_neg c_1862)
            exact j_1859 f_1617 f_1618 f_1619 hf_1617_0 hf_1619_0 hE _ _ hP hD hS ls (lv_sub hl [0, 1, 2, 3, 4, 5, 6] rfl)
          · have c_1862i := i_eq (x := r_1837.toInt) (y := z.toInt) rfl rfl c_1862
            replace hE := hE.trans (if_pos c_1862)
            refine lv_iconst (v := 0) hx hb dX5_settleHour_47 (by decide +kernel) ?_
            refine lv_iload hx hb dX5_settleHour_48 (lv_at hl 1 rfl) ?_
            refine lv_aload_n hx hb dX5_settleHour_50 rfl (lv_at hl 3 rfl) ?_
            refine va_get (ci := 5) (v := .ref p1) (C := RX5) (T := TX5) (N := 6) hx hb hts hw5 hown hK hP 0 rfl rfl 1 (by decide +kernel) (hts _ mm_X5_settleHour_308) (fun _ h9 => h9) rfl dX5_settleHour_51 ?_
            refine lv_iload hx hb dX5_settleHour_54 (lv_at hl 1 rfl) ?_
            refine va_iald hx hb hK hP 1 0 rfl rfl (i_in rfl (by omega)) dX5_settleHour_56 ?_
            refine lv_topi (fun x_1863 ex_1863 => ?_)
            replace hE := hE.trans (Lt_in ex_1863)
            have hx_1863 := Rg.at zfb rfl (show 0 ≤ v_1616.toInt ∧ v_1616.toInt < _ by omega)
            rw [← ex_1863] at hx_1863
            refine lv_isub hx hb dX5_settleHour_57 ?_
            refine lv_topi (fun x_1864 ex_1864 => ?_)
            replace hE := hE.trans (Lt_in ex_1864)
            have hx_1864 : x_1864.toInt = (v_1616.toInt - x_1863.toInt) := by rw [ex_1864]; exact i_sub rfl rfl (by omega)
            refine va_mmax hx hb (hml.trans hl.1.symm) hown (hts _ mm_X5_settleHour_692) (hts _ mm_X5_settleHour_418) (hts _ mm_X5_settleHour_157) (hts _ mm_X5_settleHour_419) (Nat.le_of_ble_eq_true rfl) (Nat.le_of_ble_eq_true rfl) (Nat.le_of_ble_eq_true rfl) (Nat.le_of_ble_eq_true rfl) dX5_settleHour_58 ?_
            refine lv_topi (fun x_1865 ex_1865 => ?_)
            replace hE := hE.trans (Lt_in ex_1865)
            have hx_1865 : ((v_1616.toInt - x_1863.toInt) ≤ 0 ∧ x_1865.toInt = 0) ∨ (0 < (v_1616.toInt - x_1863.toInt) ∧ x_1865.toInt = (v_1616.toInt - x_1863.toInt)) := by rw [ex_1865]; exact i_max (show (0 : Int32).toInt = 0 from rfl) hx_1864
            replace hx_1865 : (v_1616.toInt - x_1863.toInt) ≤ x_1865.toInt ∧ 0 ≤ x_1865.toInt ∧ x_1865.toInt ≤ 20 := by omega
            refine lv_istore (lv' := [(8, .int x_1865), (7, .int v_1615), (6, .int v_1616), (5, .int x_1272), (0, .ref p0), (1, .ref t0), (2, .int x), (4, .int z)]) hx hb dX5_settleHour_61 hl (by decide +kernel) rfl (fun ls hl => ?_)
            refine lv_iload hx hb dX5_settleHour_63 (lv_at hl 1 rfl) ?_
            refine lv_aload_n hx hb dX5_settleHour_65 rfl (lv_at hl 4 rfl) ?_
            refine va_get (ci := 5) (v := .ref p3) (C := RX5) (T := TX5) (N := 6) hx hb hts hw5 hown hK hP 0 rfl rfl 3 (by decide +kernel) (hts _ mm_X5_settleHour_310) (fun _ h9 => h9) rfl dX5_settleHour_66 ?_
            refine lv_iload_n hx hb dX5_settleHour_69 rfl (lv_at hl 6 rfl) ?_
            refine lv_iconst (v := 1) hx hb dX5_settleHour_70 (by decide +kernel) ?_
            refine lv_iadd hx hb dX5_settleHour_71 ?_
            refine lv_topi (fun x_1866 ex_1866 => ?_)
            replace hE := hE.trans (Lt_in ex_1866)
            have hx_1866 : x_1866.toInt = (x.toInt + 1) := by rw [ex_1866]; exact i_add rfl (show (1 : Int32).toInt = 1 from rfl) (by omega)
            refine lv_bipush (v := 21) hx hb dX5_settleHour_72 (by decide +kernel) ?_
            refine lv_imul hx hb dX5_settleHour_74 ?_
            refine lv_topi (fun x_1867 ex_1867 => ?_)
            replace hE := hE.trans (Lt_in ex_1867)
            have hx_1867 : x_1867.toInt = ((x.toInt + 1) * 21) := by rw [ex_1867]; exact i_mul hx_1866 (show (21 : Int32).toInt = 21 from rfl) (by omega)
            refine lv_iload hx hb dX5_settleHour_75 (lv_at hl 0 rfl) ?_
            refine lv_iadd hx hb dX5_settleHour_77 ?_
            refine lv_topi (fun x_1868 ex_1868 => ?_)
            replace hE := hE.trans (Lt_in ex_1868)
            have hx_1868 : x_1868.toInt = (((x.toInt + 1) * 21) + x_1865.toInt) := by rw [ex_1868]; exact i_add hx_1867 rfl (by omega)
            refine va_iald hx hb hK hP 3 0 rfl rfl (i_in hx_1868 (by omega)) dX5_settleHour_78 ?_
            refine lv_topi (fun x_1869 ex_1869 => ?_)
            replace hE := hE.trans (Lt_in ex_1869)
            have hx_1869 := Rg.at hf_1617_0 hx_1868 (show 0 ≤ (((x.toInt + 1) * 21) + x_1865.toInt) ∧ (((x.toInt + 1) * 21) + x_1865.toInt) < _ by omega)
            rw [← ex_1869] at hx_1869
            refine lv_iadd hx hb dX5_settleHour_79 ?_
            refine lv_topi (fun x_1870 ex_1870 => ?_)
            replace hE := hE.trans (Lt_in ex_1870)
            have hx_1870 : x_1870.toInt = (v_1615.toInt + x_1869.toInt) := by rw [ex_1870]; exact i_add rfl rfl (by omega)
            refine lv_istore (lv' := [(9, .int x_1870), (8, .int x_1865), (7, .int v_1615), (6, .int v_1616), (5, .int x_1272), (0, .ref p0), (1, .ref t0), (2, .int x), (4, .int z)]) hx hb dX5_settleHour_80 hl (by decide +kernel) rfl (fun ls hl => ?_)
            refine lv_iload hx hb dX5_settleHour_82 (lv_at hl 0 rfl) ?_
            refine lv_aload_n hx hb dX5_settleHour_84 rfl (lv_at hl 5 rfl) ?_
            refine va_get (ci := 5) (v := .ref p3) (C := RX5) (T := TX5) (N := 6) hx hb hts hw5 hown hK hP 0 rfl rfl 3 (by decide +kernel) (hts _ mm_X5_settleHour_310) (fun _ h9 => h9) rfl dX5_settleHour_85 ?_
            refine lv_iload hx hb dX5_settleHour_88 (lv_at hl 4 rfl) ?_
            refine va_iald hx hb hK hP 3 0 rfl rfl (i_in hx_1272 (by omega)) dX5_settleHour_90 ?_
            refine lv_topi (fun x_1871 ex_1871 => ?_)
            replace hE := hE.trans (Lt_in ex_1871)
            have hx_1871 := Rg.at hf_1617_0 hx_1272 (show 0 ≤ ((x.toInt * 21) + y.toInt) ∧ ((x.toInt * 21) + y.toInt) < _ by omega)
            rw [← ex_1871] at hx_1871
            refine lv_icmp_ge (tgt := 121) hx hb dX5_settleHour_91 (by decide +kernel) (fun c_1872 => ?_) (fun c_1872 => ?_)
            · have c_1872i := i_le (x := x_1871.toInt) (y := (v_1615.toInt + x_1869.toInt)) rfl hx_1870 c_1872
              replace hE := hE.trans (if_pos c_1872)
              exact j_1859 f_1617 f_1618 f_1619 hf_1617_0 hf_1619_0 hE _ _ hP hD hS ls (lv_sub hl [2, 3, 4, 5, 6, 7, 8] rfl)
            · have c_1872i := i_nle (x := x_1871.toInt) (y := (v_1615.toInt + x_1869.toInt)) rfl hx_1870 c_1872
              replace hE := hE.trans (if_neg c_1872)
              refine lv_aload_n hx hb dX5_settleHour_94 rfl (lv_at hl 5 rfl) ?_
              refine va_get (ci := 5) (v := .ref p3) (C := RX5) (T := TX5) (N := 6) hx hb hts hw5 hown hK hP 0 rfl rfl 3 (by decide +kernel) (hts _ mm_X5_settleHour_310) (fun _ h9 => h9) rfl dX5_settleHour_95 ?_
              refine lv_iload hx hb dX5_settleHour_98 (lv_at hl 4 rfl) ?_
              refine lv_iload hx hb dX5_settleHour_100 (lv_at hl 0 rfl) ?_
              refine va_iast hx hb hK hP hD hS 3 0 rfl rfl (i_in hx_1272 (by omega)) dX5_settleHour_102 (fun H locs hP0 hD0 hS0 => ?_)
              clear hP hD hS
              have hP := hP0
              have hD := hD0
              have hS := hS0
              clear hP0 hD0 hS0
              generalize hf_1873 : (upd f_1617 (x_1272 : Int32).toNatClampNeg x_1870) = f_1873 at hP hD
              replace hE := hE.trans (Lt_in hf_1873.symm)
              have hf_1873_0 : Rg 273 0 1000 f_1873 := by rw [← hf_1873]; exact Rg.upd hf_1617_0 hx_1870 (by omega)
              replace hP : va_P D vwCl [(p0, .inr (5, [.ref a0, .ref p1, .ref p2, .ref p3, .ref p4, .ref p5])), (p1, .inl (K 0, 21, .inl fb)), (p2, .inl (K 0, 21, .inl ff)), (p3, .inl (K 0, 273, .inl f_1873)), (p4, .inl (K 0, 252, .inl f_1618)), (p5, .inl (K 0, 252, .inl f_1619)), (t0, .inr (9, [k_0, k_1, .ref t2, k_3, k_4, k_5, k_6, k_7, k_8, k_9])), (t2, .inl (K 0, 6, .inl f2))] H := hP
              replace hD : va_D A [(p0, .inr (5, [.ref a0, .ref p1, .ref p2, .ref p3, .ref p4, .ref p5])), (p1, .inl (K 0, 21, .inl fb)), (p2, .inl (K 0, 21, .inl ff)), (p3, .inl (K 0, 273, .inl f_1873)), (p4, .inl (K 0, 252, .inl f_1618)), (p5, .inl (K 0, 252, .inl f_1619)), (t0, .inr (9, [k_0, k_1, .ref t2, k_3, k_4, k_5, k_6, k_7, k_8, k_9])), (t2, .inl (K 0, 6, .inl f2))] := hD
              refine lv_aload_n hx hb dX5_settleHour_103 rfl (lv_at hl 5 rfl) ?_
              refine va_get (ci := 5) (v := .ref p4) (C := RX5) (T := TX5) (N := 6) hx hb hts hw5 hown hK hP 0 rfl rfl 4 (by decide +kernel) (hts _ mm_X5_settleHour_311) (fun _ h9 => h9) rfl dX5_settleHour_104 ?_
              refine lv_iload hx hb dX5_settleHour_107 (lv_at hl 4 rfl) ?_
              refine lv_iload hx hb dX5_settleHour_109 (lv_at hl 2 rfl) ?_
              refine va_iast hx hb hK hP hD hS 4 0 rfl rfl (i_in hx_1272 (by omega)) dX5_settleHour_111 (fun H locs hP0 hD0 hS0 => ?_)
              clear hP hD hS
              have hP := hP0
              have hD := hD0
              have hS := hS0
              clear hP0 hD0 hS0
              generalize hf_1874 : (upd f_1618 (x_1272 : Int32).toNatClampNeg v_1615) = f_1874 at hP hD
              replace hE := hE.trans (Lt_in hf_1874.symm)
              replace hP : va_P D vwCl [(p0, .inr (5, [.ref a0, .ref p1, .ref p2, .ref p3, .ref p4, .ref p5])), (p1, .inl (K 0, 21, .inl fb)), (p2, .inl (K 0, 21, .inl ff)), (p3, .inl (K 0, 273, .inl f_1873)), (p4, .inl (K 0, 252, .inl f_1874)), (p5, .inl (K 0, 252, .inl f_1619)), (t0, .inr (9, [k_0, k_1, .ref t2, k_3, k_4, k_5, k_6, k_7, k_8, k_9])), (t2, .inl (K 0, 6, .inl f2))] H := hP
              replace hD : va_D A [(p0, .inr (5, [.ref a0, .ref p1, .ref p2, .ref p3, .ref p4, .ref p5])), (p1, .inl (K 0, 21, .inl fb)), (p2, .inl (K 0, 21, .inl ff)), (p3, .inl (K 0, 273, .inl f_1873)), (p4, .inl (K 0, 252, .inl f_1874)), (p5, .inl (K 0, 252, .inl f_1619)), (t0, .inr (9, [k_0, k_1, .ref t2, k_3, k_4, k_5, k_6, k_7, k_8, k_9])), (t2, .inl (K 0, 6, .inl f2))] := hD
              refine lv_aload_n hx hb dX5_settleHour_112 rfl (lv_at hl 5 rfl) ?_
              refine va_get (ci := 5) (v := .ref p5) (C := RX5) (T := TX5) (N := 6) hx hb hts hw5 hown hK hP 0 rfl rfl 5 (by decide +kernel) (hts _ mm_X5_settleHour_312) (fun _ h9 => h9) rfl dX5_settleHour_113 ?_
              refine lv_iload hx hb dX5_settleHour_116 (lv_at hl 4 rfl) ?_
              refine lv_iload hx hb dX5_settleHour_118 (lv_at hl 1 rfl) ?_
              refine va_iast hx hb hK hP hD hS 5 0 rfl rfl (i_in hx_1272 (by omega)) dX5_settleHour_120 (fun H locs hP0 hD0 hS0 => ?_)
              clear hP hD hS
              have hP := hP0
              have hD := hD0
              have hS := hS0
              clear hP0 hD0 hS0
              generalize hf_1875 : (upd f_1619 (x_1272 : Int32).toNatClampNeg x_1865) = f_1875 at hP hD
              replace hE := hE.trans (Lt_in hf_1875.symm)
              have hf_1875_0 : Rg 252 0 20 f_1875 := by rw [← hf_1875]; exact Rg.upd hf_1619_0 rfl (by omega)
              replace hP : va_P D vwCl [(p0, .inr (5, [.ref a0, .ref p1, .ref p2, .ref p3, .ref p4, .ref p5])), (p1, .inl (K 0, 21, .inl fb)), (p2, .inl (K 0, 21, .inl ff)), (p3, .inl (K 0, 273, .inl f_1873)), (p4, .inl (K 0, 252, .inl f_1874)), (p5, .inl (K 0, 252, .inl f_1875)), (t0, .inr (9, [k_0, k_1, .ref t2, k_3, k_4, k_5, k_6, k_7, k_8, k_9])), (t2, .inl (K 0, 6, .inl f2))] H := hP
              replace hD : va_D A [(p0, .inr (5, [.ref a0, .ref p1, .ref p2, .ref p3, .ref p4, .ref p5])), (p1, .inl (K 0, 21, .inl fb)), (p2, .inl (K 0, 21, .inl ff)), (p3, .inl (K 0, 273, .inl f_1873)), (p4, .inl (K 0, 252, .inl f_1874)), (p5, .inl (K 0, 252, .inl f_1875)), (t0, .inr (9, [k_0, k_1, .ref t2, k_3, k_4, k_5, k_6, k_7, k_8, k_9])), (t2, .inl (K 0, 6, .inl f2))] := hD
              exact j_1859 f_1873 f_1874 f_1875 hf_1873_0 hf_1875_0 hE _ _ hP hD hS ls (lv_sub hl [2, 3, 4, 5, 6, 7, 8] rfl)
  exact lp_1791 ((4 - (0 : Int32).toInt : Int).toNat + 1) 0 y f_1273 fk fa (by decide +kernel) (by omega) hf_1273_0 zfa (Nat.lt_succ_self _) hE _ _ hP hD hS ls (lv_sub hl [0, 1, 2, 3, 4, 5, 7] rfl)
set_option maxRecDepth 100000 in
noncomputable def E_w_leastCoal_j126 (v_2192 : Int32) (f_2193 : Nat → Int32) (f_2194 : Nat → Int32) (f_2195 : Nat → Int32) (f_2196 : Nat → Int32) (f_2197 : Nat → Int32) (f_2198 : Nat → Int32) (f_2199 : Nat → Int32) : Int32 × (Nat → Int32) × (Nat → Int32) × (Nat → Int32) × (Nat → Int32) × (Nat → Int32) × Int32 × (Nat → Int32) × (Nat → Int32) :=
  (((-1), f_2193, f_2194, f_2195, f_2196, f_2197, v_2192, f_2198, f_2199) : Int32 × (Nat → Int32) × (Nat → Int32) × (Nat → Int32) × (Nat → Int32) × (Nat → Int32) × Int32 × (Nat → Int32) × (Nat → Int32))
set_option maxRecDepth 100000 in
noncomputable def E_w_leastCoal_l131 (w : Int32) (v_2192 : Int32) (f_2193 : Nat → Int32) (f_2194 : Nat → Int32) (f_2195 : Nat → Int32) (f_2196 : Nat → Int32) (f_2197 : Nat → Int32) (f_2198 : Nat → Int32) (f_2199 : Nat → Int32) (rec_2602 : Int32 → Int32 → (Int32 × (Nat → Int32) × (Nat → Int32) × (Nat → Int32) × (Nat → Int32) × (Nat → Int32) × Int32 × (Nat → Int32) × (Nat → Int32))) (v_2588 : Int32) (v_2589 : Int32) : Int32 × (Nat → Int32) × (Nat → Int32) × (Nat → Int32) × (Nat → Int32) × (Nat → Int32) × Int32 × (Nat → Int32) × (Nat → Int32) :=
  if w ≤ v_2588 then (if w = (-1) then (Lt (f_2195 (v_2589 : Int32).toNatClampNeg : Int32) (fun x_2609 => ((x_2609, f_2193, f_2194, f_2195, f_2196, f_2197, v_2192, f_2198, f_2199) : Int32 × (Nat → Int32) × (Nat → Int32) × (Nat → Int32) × (Nat → Int32) × (Nat → Int32) × Int32 × (Nat → Int32) × (Nat → Int32)))) else (Lt (w * 21 : Int32) (fun x_2606 => Lt (x_2606 + v_2589 : Int32) (fun x_2607 => Lt (f_2196 (x_2607 : Int32).toNatClampNeg : Int32) (fun x_2608 => ((x_2608, f_2193, f_2194, f_2195, f_2196, f_2197, v_2192, f_2198, f_2199) : Int32 × (Nat → Int32) × (Nat → Int32) × (Nat → Int32) × (Nat → Int32) × (Nat → Int32) × Int32 × (Nat → Int32) × (Nat → Int32))))))) else (Lt (v_2588 * 21 : Int32) (fun x_2610 => Lt (x_2610 + v_2589 : Int32) (fun x_2611 => Lt (f_2197 (x_2611 : Int32).toNatClampNeg : Int32) (fun x_2612 => Lt (v_2588 + Int32.ofInt 1 : Int32) (fun x_2613 => rec_2602 x_2613 x_2612)))))
set_option maxRecDepth 100000 in
noncomputable def E_w_leastCoal_l50 (z : Int32) (f2 : Nat → Int32) (v_2191 : Int32) (rec_2489 : Int32 → Int32 → (Nat → Int32) → (Nat → Int32) → (Nat → Int32) → (Nat → Int32) → (Nat → Int32) → (Nat → Int32) → (Nat → Int32) → (Int32 × (Nat → Int32) × (Nat → Int32) × (Nat → Int32) × (Nat → Int32) × (Nat → Int32) × Int32 × (Nat → Int32) × (Nat → Int32))) (u_2616_2_1_0 : Nat → Int32) (u_2616_2_1_1 : Nat → Int32) (u_2616_2_2_2_1_0 : Int32) (u_2616_2_1_2 : Nat → Int32) (u_2616_2_1_3 : Nat → Int32) (rec_2735 : Int32 → (Nat → Int32) → (Nat → Int32) → (Nat → Int32) → (Int32 × (Nat → Int32) × (Nat → Int32) × (Nat → Int32) × (Nat → Int32) × (Nat → Int32) × Int32 × (Nat → Int32) × (Nat → Int32))) (v_2695 : Int32) (f_2696 : Nat → Int32) (f_2697 : Nat → Int32) (f_2698 : Nat → Int32) : Int32 × (Nat → Int32) × (Nat → Int32) × (Nat → Int32) × (Nat → Int32) × (Nat → Int32) × Int32 × (Nat → Int32) × (Nat → Int32) :=
  if 21 ≤ v_2695 then (Lt (v_2191 + Int32.ofInt (-1) : Int32) (fun x_2738 => rec_2489 x_2738 u_2616_2_2_2_1_0 u_2616_2_1_0 u_2616_2_1_1 f_2696 f_2697 f_2698 u_2616_2_1_2 u_2616_2_1_3)) else (Lt (z >>> (v_2191 &&& 31) : Int32) (fun x_2739 => Lt (x_2739 &&& 1 : Int32) (fun x_2740 => if x_2740 = 1 then (Lt2 (E_w_settleHour v_2191 v_2695 1 u_2616_2_1_0 u_2616_2_1_1 f_2696 f_2697 f_2698 f2) (fun u_2749_2_1_0 q0_u_2749_2_1_0 => Lt2 q0_u_2749_2_1_0 (fun u_2749_2_1_1 u_2749_2_1_2 => Lt (v_2695 + Int32.ofInt 1 : Int32) (fun x_2753 => rec_2735 x_2753 u_2749_2_1_0 u_2749_2_1_1 u_2749_2_1_2)))) else (Lt2 (E_w_settleHour v_2191 v_2695 0 u_2616_2_1_0 u_2616_2_1_1 f_2696 f_2697 f_2698 f2) (fun u_2743_2_1_0 q0_u_2743_2_1_0 => Lt2 q0_u_2743_2_1_0 (fun u_2743_2_1_1 u_2743_2_1_2 => Lt (v_2695 + Int32.ofInt 1 : Int32) (fun x_2747 => rec_2735 x_2747 u_2743_2_1_0 u_2743_2_1_1 u_2743_2_1_2)))))))
set_option maxRecDepth 100000 in
noncomputable def E_w_leastCoal_l34 (G : Nat → LC) (x : Int32) (z : Int32) (w : Int32) (n : Int32) (lt : Int32) (nf : Int32) (fi : Int32) (f1 : Nat → Int32) (f2 : Nat → Int32) (f3 : Nat → Int32) (fl : Nat → Option Nat) (rec_2489 : Int32 → Int32 → (Nat → Int32) → (Nat → Int32) → (Nat → Int32) → (Nat → Int32) → (Nat → Int32) → (Nat → Int32) → (Nat → Int32) → (Int32 × (Nat → Int32) × (Nat → Int32) × (Nat → Int32) × (Nat → Int32) × (Nat → Int32) × Int32 × (Nat → Int32) × (Nat → Int32))) (v_2191 : Int32) (v_2192 : Int32) (f_2193 : Nat → Int32) (f_2194 : Nat → Int32) (f_2195 : Nat → Int32) (f_2196 : Nat → Int32) (f_2197 : Nat → Int32) (f_2198 : Nat → Int32) (f_2199 : Nat → Int32) : Int32 × (Nat → Int32) × (Nat → Int32) × (Nat → Int32) × (Nat → Int32) × (Nat → Int32) × Int32 × (Nat → Int32) × (Nat → Int32) :=
  if v_2191 < 0 then (Lt (E_w_fact x 5 f1) (fun r_2492 => Lt (E_w_within r_2492 0 20) (fun r_2555 => if r_2555 = 1 then (Lt (f_2195 (r_2492 : Int32).toNatClampNeg : Int32) (fun x_2561 => if x_2561 < 1000 then (Lp (α := Int32 → Int32 → (Int32 × (Nat → Int32) × (Nat → Int32) × (Nat → Int32) × (Nat → Int32) × (Nat → Int32) × Int32 × (Nat → Int32) × (Nat → Int32))) (E_w_leastCoal_l131 w v_2192 f_2193 f_2194 f_2195 f_2196 f_2197 f_2198 f_2199) (fun _ _ => ((0, fun _ => 0, fun _ => 0, fun _ => 0, fun _ => 0, fun _ => 0, 0, fun _ => 0, fun _ => 0) : Int32 × (Nat → Int32) × (Nat → Int32) × (Nat → Int32) × (Nat → Int32) × (Nat → Int32) × Int32 × (Nat → Int32) × (Nat → Int32))) ((12 - (0 : Int32).toInt : Int).toNat + 1) 0 r_2492) else (E_w_leastCoal_j126 v_2192 f_2193 f_2194 f_2195 f_2196 f_2197 f_2198 f_2199))) else (E_w_leastCoal_j126 v_2192 f_2193 f_2194 f_2195 f_2196 f_2197 f_2198 f_2199)))) else (Lt2 (E_w_askHour G x v_2191 f_2193 f_2194 v_2192 f_2198 f_2199 n lt nf fi f1 f2 f3 fl) (fun u_2616_2_1_0 q0_u_2616_2_1_0 => Lt2 q0_u_2616_2_1_0 (fun u_2616_2_1_1 q1_u_2616_2_1_1 => Lt2 q1_u_2616_2_1_1 (fun u_2616_2_2_2_1_0 q2_u_2616_2_2_2_1_0 => Lt2 q2_u_2616_2_2_2_1_0 (fun u_2616_2_1_2 u_2616_2_1_3 => Lp (α := Int32 → (Nat → Int32) → (Nat → Int32) → (Nat → Int32) → (Int32 × (Nat → Int32) × (Nat → Int32) × (Nat → Int32) × (Nat → Int32) × (Nat → Int32) × Int32 × (Nat → Int32) × (Nat → Int32))) (E_w_leastCoal_l50 z f2 v_2191 rec_2489 u_2616_2_1_0 u_2616_2_1_1 u_2616_2_2_2_1_0 u_2616_2_1_2 u_2616_2_1_3) (fun _ _ _ _ => ((0, fun _ => 0, fun _ => 0, fun _ => 0, fun _ => 0, fun _ => 0, 0, fun _ => 0, fun _ => 0) : Int32 × (Nat → Int32) × (Nat → Int32) × (Nat → Int32) × (Nat → Int32) × (Nat → Int32) × Int32 × (Nat → Int32) × (Nat → Int32))) ((22 - (0 : Int32).toInt : Int).toNat + 1) 0 f_2195 f_2196 f_2197)))))
set_option maxRecDepth 100000 in
noncomputable def E_w_leastCoal_l3 (G : Nat → LC) (x : Int32) (y : Int32) (z : Int32) (w : Int32) (fb : Nat → Int32) (ff : Nat → Int32) (fk : Nat → Int32) (fa : Nat → Int32) (br : Int32) (fs : Nat → Int32) (fw : Nat → Int32) (n : Int32) (lt : Int32) (nf : Int32) (fi : Int32) (f1 : Nat → Int32) (f2 : Nat → Int32) (f3 : Nat → Int32) (fl : Nat → Option Nat) (rec_1898 : Int32 → (Nat → Int32) → (Int32 × (Nat → Int32) × (Nat → Int32) × (Nat → Int32) × (Nat → Int32) × (Nat → Int32) × Int32 × (Nat → Int32) × (Nat → Int32))) (v_1884 : Int32) (f_1885 : Nat → Int32) : Int32 × (Nat → Int32) × (Nat → Int32) × (Nat → Int32) × (Nat → Int32) × (Nat → Int32) × Int32 × (Nat → Int32) × (Nat → Int32) :=
  if 21 ≤ v_1884 then (Lt (y - 1 : Int32) (fun x_1901 => Lp (α := Int32 → Int32 → (Nat → Int32) → (Nat → Int32) → (Nat → Int32) → (Nat → Int32) → (Nat → Int32) → (Nat → Int32) → (Nat → Int32) → (Int32 × (Nat → Int32) × (Nat → Int32) × (Nat → Int32) × (Nat → Int32) × (Nat → Int32) × Int32 × (Nat → Int32) × (Nat → Int32))) (E_w_leastCoal_l34 G x z w n lt nf fi f1 f2 f3 fl) (fun _ _ _ _ _ _ _ _ _ => ((0, fun _ => 0, fun _ => 0, fun _ => 0, fun _ => 0, fun _ => 0, 0, fun _ => 0, fun _ => 0) : Int32 × (Nat → Int32) × (Nat → Int32) × (Nat → Int32) × (Nat → Int32) × (Nat → Int32) × Int32 × (Nat → Int32) × (Nat → Int32))) (((x_1901 : Int32).toInt - (-2) : Int).toNat + 1) x_1901 br fb ff f_1885 fk fa fs fw)) else (Lt (y * 21 : Int32) (fun x_2754 => Lt (x_2754 + v_1884 : Int32) (fun x_2755 => Lt (upd f_1885 (x_2755 : Int32).toNatClampNeg 0 : Nat → Int32) (fun f_2756 => Lt (v_1884 + Int32.ofInt 1 : Int32) (fun x_2757 => rec_1898 x_2757 f_2756)))))
set_option maxRecDepth 100000 in
noncomputable def E_w_leastCoal (G : Nat → LC) (x : Int32) (y : Int32) (z : Int32) (w : Int32) (fb : Nat → Int32) (ff : Nat → Int32) (fo : Nat → Int32) (fk : Nat → Int32) (fa : Nat → Int32) (br : Int32) (fs : Nat → Int32) (fw : Nat → Int32) (n : Int32) (lt : Int32) (nf : Int32) (fi : Int32) (f1 : Nat → Int32) (f2 : Nat → Int32) (f3 : Nat → Int32) (fl : Nat → Option Nat) : Int32 × (Nat → Int32) × (Nat → Int32) × (Nat → Int32) × (Nat → Int32) × (Nat → Int32) × Int32 × (Nat → Int32) × (Nat → Int32) :=
  Lp (α := Int32 → (Nat → Int32) → (Int32 × (Nat → Int32) × (Nat → Int32) × (Nat → Int32) × (Nat → Int32) × (Nat → Int32) × Int32 × (Nat → Int32) × (Nat → Int32))) (E_w_leastCoal_l3 G x y z w fb ff fk fa br fs fw n lt nf fi f1 f2 f3 fl) (fun _ _ => ((0, fun _ => 0, fun _ => 0, fun _ => 0, fun _ => 0, fun _ => 0, 0, fun _ => 0, fun _ => 0) : Int32 × (Nat → Int32) × (Nat → Int32) × (Nat → Int32) × (Nat → Int32) × (Nat → Int32) × Int32 × (Nat → Int32) × (Nat → Int32))) ((22 - (0 : Int32).toInt : Int).toNat + 1) 0 fo
set_option maxHeartbeats 4000000 in
set_option maxRecDepth 100000 in
theorem w_leastCoal (l : Launch) (D : va_G) (K : Nat → ClassId) (g : Nat → Nat) (L : Nat → Prop) (G : Nat → LC) (p0 : Nat) (t0 : Nat) (x : Int32) (y : Int32) (z : Int32) (w : Int32) (a0 : Nat) (p1 : Nat) (p2 : Nat) (p3 : Nat) (p4 : Nat) (p5 : Nat) (fb : Nat → Int32) (ff : Nat → Int32) (fo : Nat → Int32) (fk : Nat → Int32) (fa : Nat → Int32) (m0 : Nat) (w0 : Nat) (m1 : Nat) (br : Int32) (fs : Nat → Int32) (fw : Nat → Int32) (t1 : Nat) (t3 : Nat) (t2 : Nat) (l0 : Nat) (n : Int32) (lt : Int32) (nf : Int32) (fi : Int32) (k_8 : Value) (k_9 : Value) (f1 : Nat → Int32) (gt : Nat → Int32) (f2 : Nat → Int32) (f3 : Nat → Int32) (gc : Nat → Int32) (fl : Nat → Option Nat) (sz : Nat) (zn : 0 ≤ n.toInt ∧ n.toInt ≤ 8) (zlt : 0 ≤ lt.toInt ∧ lt.toInt ≤ 6) (zbr : 0 ≤ br.toInt ∧ br.toInt ≤ 1) (zy : 1 ≤ y.toInt ∧ y.toInt ≤ 12) (zw : -1 ≤ w.toInt ∧ w.toInt < y.toInt) (zfb : Rg 21 0 999 fb) (zff : Rg 21 (-1) 20 ff) (zfo : Rg 273 0 1000 fo) (zfa : Rg 252 0 20 fa) (zgt : FzC gt f1) (zgc : FzH gc f3) (zfl : InL L fl) : Met l yX5_leastCoal wsX5_leastCoal ({ frames := 4, cells := 0, slots := 0, locals := 107 }) (va_Pc [.ref p0, .ref t0, .int x, .int y, .int z, .int w] (PreY D K [(p0, .inr (5, [.ref a0, .ref p1, .ref p2, .ref p3, .ref p4, .ref p5])), (p1, .inl (K 0, 21, .inl fb)), (p2, .inl (K 0, 21, .inl ff)), (p3, .inl (K 0, 273, .inl fo)), (p4, .inl (K 0, 252, .inl fk)), (p5, .inl (K 0, 252, .inl fa)), (a0, .inr (0, [.ref m0, .ref w0])), (m0, .inr (3, [.ref m1, .int br])), (m1, .inl (K 0, 64, .inl fs)), (w0, .inl (K 0, 9, .inl fw)), (t0, .inr (9, [.ref t1, .ref t3, .ref t2, .ref l0, .int n, .int lt, .int nf, .int fi, k_8, k_9])), (t1, .inl (K 0, 56, .inl f1)), (t2, .inl (K 0, 6, .inl f2)), (t3, .inl (K 0, 24, .inl f3)), (l0, .inl (K 4, 6, .inr (.inr (.inr (.inr fl)))))] [] sz g L G (va_A [(p0, .inr (5, [.ref a0, .ref p1, .ref p2, .ref p3, .ref p4, .ref p5])), (p1, .inl (K 0, 21, .inl fb)), (p2, .inl (K 0, 21, .inl ff)), (p3, .inl (K 0, 273, .inl fo)), (p4, .inl (K 0, 252, .inl fk)), (p5, .inl (K 0, 252, .inl fa)), (a0, .inr (0, [.ref m0, .ref w0])), (m0, .inr (3, [.ref m1, .int br])), (m1, .inl (K 0, 64, .inl fs)), (w0, .inl (K 0, 9, .inl fw)), (t0, .inr (9, [.ref t1, .ref t3, .ref t2, .ref l0, .int n, .int lt, .int nf, .int fi, k_8, k_9])), (t1, .inl (K 0, 56, .inl f1)), (t2, .inl (K 0, 6, .inl f2)), (t3, .inl (K 0, 24, .inl f3)), (l0, .inl (K 4, 6, .inr (.inr (.inr (.inr fl)))))] sz))) (va_Qi (S := Su) (fun (r : Int32) (u : Su) => (Rg 21 0 999 (u.2.1 0)) ∧ (Rg 21 (-1) 20 (u.2.1 1)) ∧ (Rg 273 0 1000 (u.2.1 2)) ∧ (Rg 252 0 20 (u.2.1 4)) ∧ (0 ≤ (u.2.2.2.1 0).toInt ∧ (u.2.2.2.1 0).toInt ≤ 1) ∧ ((r, (u.2.1 0), (u.2.1 1), (u.2.1 2), (u.2.1 3), (u.2.1 4), (u.2.2.2.1 0), (u.2.1 5), (u.2.1 6)) = E_w_leastCoal G x y z w fb ff fo fk fa br fs fw n lt nf fi f1 f2 f3 fl) ∧ True) (fun u t => Wd D (va_A [(p0, .inr (5, [.ref a0, .ref p1, .ref p2, .ref p3, .ref p4, .ref p5])), (p1, .inl (K 0, 21, .inl fb)), (p2, .inl (K 0, 21, .inl ff)), (p3, .inl (K 0, 273, .inl fo)), (p4, .inl (K 0, 252, .inl fk)), (p5, .inl (K 0, 252, .inl fa)), (a0, .inr (0, [.ref m0, .ref w0])), (m0, .inr (3, [.ref m1, .int br])), (m1, .inl (K 0, 64, .inl fs)), (w0, .inl (K 0, 9, .inl fw)), (t0, .inr (9, [.ref t1, .ref t3, .ref t2, .ref l0, .int n, .int lt, .int nf, .int fi, k_8, k_9])), (t1, .inl (K 0, 56, .inl f1)), (t2, .inl (K 0, 6, .inl f2)), (t3, .inl (K 0, 24, .inl f3)), (l0, .inl (K 4, 6, .inr (.inr (.inr (.inr fl)))))] sz) ((fun u => [(p0, .inr (5, [.ref a0, .ref p1, .ref p2, .ref p3, .ref p4, .ref p5])), (p1, .inl (K 0, 21, .inl (u.2.1 0))), (p2, .inl (K 0, 21, .inl (u.2.1 1))), (p3, .inl (K 0, 273, .inl (u.2.1 2))), (p4, .inl (K 0, 252, .inl (u.2.1 3))), (p5, .inl (K 0, 252, .inl (u.2.1 4))), (a0, .inr (0, [.ref m0, .ref w0])), (m0, .inr (3, [.ref m1, .int (u.2.2.2.1 0)])), (m1, .inl (K 0, 64, .inl (u.2.1 5))), (w0, .inl (K 0, 9, .inl (u.2.1 6))), (t0, .inr (9, [.ref t1, .ref t3, .ref t2, .ref l0, .int n, .int lt, .int nf, .int fi, k_8, k_9])), (t1, .inl (K 0, 56, .inl f1)), (t2, .inl (K 0, 6, .inl f2)), (t3, .inl (K 0, 24, .inl f3)), (l0, .inl (K 4, 6, .inr (.inr (.inr (.inr fl)))))]) u) t) (va_A [(p0, .inr (5, [.ref a0, .ref p1, .ref p2, .ref p3, .ref p4, .ref p5])), (p1, .inl (K 0, 21, .inl fb)), (p2, .inl (K 0, 21, .inl ff)), (p3, .inl (K 0, 273, .inl fo)), (p4, .inl (K 0, 252, .inl fk)), (p5, .inl (K 0, 252, .inl fa)), (a0, .inr (0, [.ref m0, .ref w0])), (m0, .inr (3, [.ref m1, .int br])), (m1, .inl (K 0, 64, .inl fs)), (w0, .inl (K 0, 9, .inl fw)), (t0, .inr (9, [.ref t1, .ref t3, .ref t2, .ref l0, .int n, .int lt, .int nf, .int fi, k_8, k_9])), (t1, .inl (K 0, 56, .inl f1)), (t2, .inl (K 0, 6, .inl f2)), (t3, .inl (K 0, 24, .inl f3)), (l0, .inl (K 4, 6, .inr (.inr (.inr (.inr fl)))))] sz)) 0 0 (va_A [(p0, .inr (5, [.ref a0, .ref p1, .ref p2, .ref p3, .ref p4, .ref p5])), (p1, .inl (K 0, 21, .inl fb)), (p2, .inl (K 0, 21, .inl ff)), (p3, .inl (K 0, 273, .inl fo)), (p4, .inl (K 0, 252, .inl fk)), (p5, .inl (K 0, 252, .inl fa)), (a0, .inr (0, [.ref m0, .ref w0])), (m0, .inr (3, [.ref m1, .int br])), (m1, .inl (K 0, 64, .inl fs)), (w0, .inl (K 0, 9, .inl fw)), (t0, .inr (9, [.ref t1, .ref t3, .ref t2, .ref l0, .int n, .int lt, .int nf, .int fi, k_8, k_9])), (t1, .inl (K 0, 56, .inl f1)), (t2, .inl (K 0, 6, .inl f2)), (t3, .inl (K 0, 24, .inl f3)), (l0, .inl (K 4, 6, .inr (.inr (.inr (.inr fl)))))] sz) := by
  refine Met.ofW (cc := cX5_leastCoal) (maxL := 8) (ret := (some .int)) (by decide +kernel) rfl ?_
  intro p e s m args below meth c s₁ B hml hv
  obtain ⟨rfl, ⟨hsz, hP, hK, hD0, hN⟩, hG, hPl, hRo⟩ := hv
  have hx := B.exec
  have hb := B.bytes
  have hr := B.returns
  have hts := atoms_spec (ws := wsX5_leastCoal) B.pre
  have hown : s.vm.findClass RX5 = some m.cls := findClass_of_methodNamed B.named
  have hlocks := B.notSynchronized
  subst hsz
  have hD := hD0.self (sz := s.heap.size)
  generalize hAe : va_A [(p0, .inr (5, [.ref a0, .ref p1, .ref p2, .ref p3, .ref p4, .ref p5])), (p1, .inl (K 0, 21, .inl fb)), (p2, .inl (K 0, 21, .inl ff)), (p3, .inl (K 0, 273, .inl fo)), (p4, .inl (K 0, 252, .inl fk)), (p5, .inl (K 0, 252, .inl fa)), (a0, .inr (0, [.ref m0, .ref w0])), (m0, .inr (3, [.ref m1, .int br])), (m1, .inl (K 0, 64, .inl fs)), (w0, .inl (K 0, 9, .inl fw)), (t0, .inr (9, [.ref t1, .ref t3, .ref t2, .ref l0, .int n, .int lt, .int nf, .int fi, k_8, k_9])), (t1, .inl (K 0, 56, .inl f1)), (t2, .inl (K 0, 6, .inl f2)), (t3, .inl (K 0, 24, .inl f3)), (l0, .inl (K 4, 6, .inr (.inr (.inr (.inr fl)))))] s.heap.size = A at hD hG hPl hRo ⊢
  have hA : ∀ q : Nat, s.heap.size ≤ q → A q := fun q h => by rw [← hAe]; exact Or.inr h
  clear hAe
  have hS : va_S A s.heap s.heap [] := va_S.rf
  replace hP : va_P D vwCl [(p0, .inr (5, [.ref a0, .ref p1, .ref p2, .ref p3, .ref p4, .ref p5])), (p1, .inl (K 0, 21, .inl fb)), (p2, .inl (K 0, 21, .inl ff)), (p3, .inl (K 0, 273, .inl fo)), (p4, .inl (K 0, 252, .inl fk)), (p5, .inl (K 0, 252, .inl fa)), (a0, .inr (0, [.ref m0, .ref w0])), (m0, .inr (3, [.ref m1, .int br])), (m1, .inl (K 0, 64, .inl fs)), (w0, .inl (K 0, 9, .inl fw)), (t0, .inr (9, [.ref t1, .ref t3, .ref t2, .ref l0, .int n, .int lt, .int nf, .int fi, k_8, k_9])), (t1, .inl (K 0, 56, .inl f1)), (t2, .inl (K 0, 6, .inl f2)), (t3, .inl (K 0, 24, .inl f3)), (l0, .inl (K 4, 6, .inr (.inr (.inr (.inr fl)))))] s.heap := hP
  have hl := lv_entry [.ref p0, .ref t0, .int x, .int y, .int z, .int w] (n := 8) (Nat.le_of_ble_eq_true rfl)
  rw [lg_entry_eq]
  generalize (lg_sl [.ref p0, .ref t0, .int x, .int y, .int z, .int w] ++ List.replicate (8 - (lg_sl [.ref p0, .ref t0, .int x, .int y, .int z, .int w]).length) Slot.unset).toArray = ls at hl ⊢
  have hl : lv_has ls 8 [(0, .ref p0), (1, .ref t0), (2, .int x), (3, .int y), (4, .int z), (5, .int w)] := hl
  have hw0 : ∀ w ∈ wsX00, w ∈ wsX5_leastCoal := fun w h => (List.mem_cons_of_mem _ (List.mem_append_left _ (List.mem_append_left _ (List.mem_append_right _ h))))
  have hw3 : ∀ w ∈ wsX30, w ∈ wsX5_leastCoal := fun w h => (List.mem_cons_of_mem _ (List.mem_append_right _ h))
  have hw5 : ∀ w ∈ wsX50, w ∈ wsX5_leastCoal := fun w h => (List.mem_cons_of_mem _ (List.mem_append_left _ (List.mem_append_left _ (List.mem_append_left _ (List.mem_append_left _ (List.mem_append_right _ h))))))
  have hw7 : ∀ w ∈ wsX70, w ∈ wsX5_leastCoal := fun w h => (List.mem_cons_of_mem _ (List.mem_append_left _ (List.mem_append_right _ h)))
  have hw9 : ∀ w ∈ wsX90, w ∈ wsX5_leastCoal := fun w h => (List.mem_cons_of_mem _ (List.mem_append_left _ (List.mem_append_left _ (List.mem_append_left _ (List.mem_append_right _ h)))))
  generalize hQ : MQ below _ _ s _ _ _ = Q
  have hE := E_w_leastCoal.eq_def G x y z w fb ff fo fk fa br fs fw n lt nf fi f1 f2 f3 fl
  refine lv_iconst (v := 0) hx hb dX5_leastCoal_0 (by decide +kernel) ?_
  refine lv_istore (lv' := [(6, .int 0), (0, .ref p0), (1, .ref t0), (2, .int x), (3, .int y), (4, .int z), (5, .int w)]) hx hb dX5_leastCoal_1 hl (by decide +kernel) rfl (fun ls hl => ?_)
  have lp_1898 : ∀ (nn_ : Nat) (v_1884 : Int32) (f_1885 : Nat → Int32) (hv_1884 : 0 ≤ v_1884.toInt ∧ v_1884.toInt ≤ 21) (hf_1885_0 : Rg 273 0 1000 f_1885) (hn : (22 - v_1884.toInt : Int).toNat < nn_) (hE : E_w_leastCoal G x y z w fb ff fo fk fa br fs fw n lt nf fi f1 f2 f3 fl = Lp (α := Int32 → (Nat → Int32) → (Int32 × (Nat → Int32) × (Nat → Int32) × (Nat → Int32) × (Nat → Int32) × (Nat → Int32) × Int32 × (Nat → Int32) × (Nat → Int32))) (E_w_leastCoal_l3 G x y z w fb ff fk fa br fs fw n lt nf fi f1 f2 f3 fl) (fun _ _ => ((0, fun _ => 0, fun _ => 0, fun _ => 0, fun _ => 0, fun _ => 0, 0, fun _ => 0, fun _ => 0) : Int32 × (Nat → Int32) × (Nat → Int32) × (Nat → Int32) × (Nat → Int32) × (Nat → Int32) × Int32 × (Nat → Int32) × (Nat → Int32))) nn_ v_1884 f_1885) (H : Heap) (locs : List Loc) (hP : va_P D vwCl [(p0, .inr (5, [.ref a0, .ref p1, .ref p2, .ref p3, .ref p4, .ref p5])), (p1, .inl (K 0, 21, .inl fb)), (p2, .inl (K 0, 21, .inl ff)), (p3, .inl (K 0, 273, .inl f_1885)), (p4, .inl (K 0, 252, .inl fk)), (p5, .inl (K 0, 252, .inl fa)), (a0, .inr (0, [.ref m0, .ref w0])), (m0, .inr (3, [.ref m1, .int br])), (m1, .inl (K 0, 64, .inl fs)), (w0, .inl (K 0, 9, .inl fw)), (t0, .inr (9, [.ref t1, .ref t3, .ref t2, .ref l0, .int n, .int lt, .int nf, .int fi, k_8, k_9])), (t1, .inl (K 0, 56, .inl f1)), (t2, .inl (K 0, 6, .inl f2)), (t3, .inl (K 0, 24, .inl f3)), (l0, .inl (K 4, 6, .inr (.inr (.inr (.inr fl)))))] H) (hD : va_D A [(p0, .inr (5, [.ref a0, .ref p1, .ref p2, .ref p3, .ref p4, .ref p5])), (p1, .inl (K 0, 21, .inl fb)), (p2, .inl (K 0, 21, .inl ff)), (p3, .inl (K 0, 273, .inl f_1885)), (p4, .inl (K 0, 252, .inl fk)), (p5, .inl (K 0, 252, .inl fa)), (a0, .inr (0, [.ref m0, .ref w0])), (m0, .inr (3, [.ref m1, .int br])), (m1, .inl (K 0, 64, .inl fs)), (w0, .inl (K 0, 9, .inl fw)), (t0, .inr (9, [.ref t1, .ref t3, .ref t2, .ref l0, .int n, .int lt, .int nf, .int fi, k_8, k_9])), (t1, .inl (K 0, 56, .inl f1)), (t2, .inl (K 0, 6, .inl f2)), (t3, .inl (K 0, 24, .inl f3)), (l0, .inl (K 4, 6, .inr (.inr (.inr (.inr fl)))))]) (hS : va_S A s.heap H locs) (ls : Array Slot) (hl : lv_has ls 8 [(6, .int v_1884), (0, .ref p0), (1, .ref t0), (2, .int x), (3, .int y), (4, .int z), (5, .int w)]), W p l e ({ frames := 4, cells := 0, slots := 0, locals := 107 }) s m (([.ref p0, .ref t0, .int x, .int y, .int z, .int w] : List Value).toArray) below meth c H locs 0 0 Q (F0 m 3 ls []) := by
    clear hE hP hD hS hl
    intro nn_
    induction nn_ with
    | zero =>
      intro v_1884 f_1885 hv_1884 hf_1885_0 hn hE H locs hP hD hS ls hl
      exact absurd hn (Nat.not_lt_zero _)
    | succ nn_ ih_1899 =>
      intro v_1884 f_1885 hv_1884 hf_1885_0 hn hE H locs hP hD hS ls hl
      replace hE : E_w_leastCoal G x y z w fb ff fo fk fa br fs fw n lt nf fi f1 f2 f3 fl = E_w_leastCoal_l3 G x y z w fb ff fk fa br fs fw n lt nf fi f1 f2 f3 fl (Lp (α := Int32 → (Nat → Int32) → (Int32 × (Nat → Int32) × (Nat → Int32) × (Nat → Int32) × (Nat → Int32) × (Nat → Int32) × Int32 × (Nat → Int32) × (Nat → Int32))) (E_w_leastCoal_l3 G x y z w fb ff fk fa br fs fw n lt nf fi f1 f2 f3 fl) (fun _ _ => ((0, fun _ => 0, fun _ => 0, fun _ => 0, fun _ => 0, fun _ => 0, 0, fun _ => 0, fun _ => 0) : Int32 × (Nat → Int32) × (Nat → Int32) × (Nat → Int32) × (Nat → Int32) × (Nat → Int32) × Int32 × (Nat → Int32) × (Nat → Int32))) nn_) v_1884 f_1885 := hE
      obtain ⟨rec_1898, hrec_1898⟩ : ∃ z9, z9 = Lp (α := Int32 → (Nat → Int32) → (Int32 × (Nat → Int32) × (Nat → Int32) × (Nat → Int32) × (Nat → Int32) × (Nat → Int32) × Int32 × (Nat → Int32) × (Nat → Int32))) (E_w_leastCoal_l3 G x y z w fb ff fk fa br fs fw n lt nf fi f1 f2 f3 fl) (fun _ _ => ((0, fun _ => 0, fun _ => 0, fun _ => 0, fun _ => 0, fun _ => 0, 0, fun _ => 0, fun _ => 0) : Int32 × (Nat → Int32) × (Nat → Int32) × (Nat → Int32) × (Nat → Int32) × (Nat → Int32) × Int32 × (Nat → Int32) × (Nat → Int32))) nn_ := ⟨_, rfl⟩
      rw [← hrec_1898] at hE
      replace hE := hE.trans (E_w_leastCoal_l3.eq_def _ _ _ _ _ _ _ _ _ _ _ _ _ _ _ _ _ _ _ _ _ _ _)
      refine lv_iload hx hb dX5_leastCoal_3 (lv_at hl 0 rfl) ?_
      refine lv_bipush (v := 21) hx hb dX5_leastCoal_5 (by decide +kernel) ?_
      refine lv_icmp_ge (tgt := 29) hx hb dX5_leastCoal_7 (by decide +kernel) (fun c_1900 => ?_) (fun c_1900 => ?_)
      · have c_1900i := i_le (x := 21) (y := v_1884.toInt) rfl rfl c_1900
        replace hE := hE.trans (if_pos c_1900)
        refine lv_iload_n hx hb dX5_leastCoal_29 rfl (lv_at hl 4 rfl) ?_
        refine lv_iconst (v := 1) hx hb dX5_leastCoal_30 (by decide +kernel) ?_
        refine lv_isub hx hb dX5_leastCoal_31 ?_
        refine lv_topi (fun x_1901 ex_1901 => ?_)
        replace hE := hE.trans (Lt_in ex_1901)
        have hx_1901 : x_1901.toInt = (y.toInt - 1) := by rw [ex_1901]; exact i_sub rfl (show (1 : Int32).toInt = 1 from rfl) (by omega)
        refine lv_istore (lv' := [(6, .int x_1901), (0, .ref p0), (1, .ref t0), (2, .int x), (3, .int y), (4, .int z), (5, .int w)]) hx hb dX5_leastCoal_32 hl (by decide +kernel) rfl (fun ls hl => ?_)
        have lp_2489 : ∀ (nn_ : Nat) (v_2191 : Int32) (v_2192 : Int32) (f_2193 : Nat → Int32) (f_2194 : Nat → Int32) (f_2195 : Nat → Int32) (f_2196 : Nat → Int32) (f_2197 : Nat → Int32) (f_2198 : Nat → Int32) (f_2199 : Nat → Int32) (hv_2191 : (-1) ≤ v_2191.toInt ∧ v_2191.toInt ≤ 11) (hv_2192 : 0 ≤ v_2192.toInt ∧ v_2192.toInt ≤ 1) (hf_2193_0 : Rg 21 0 999 f_2193) (hf_2194_0 : Rg 21 (-1) 20 f_2194) (hf_2195_0 : Rg 273 0 1000 f_2195) (hf_2197_0 : Rg 252 0 20 f_2197) (hn : (v_2191.toInt - (-2) : Int).toNat < nn_) (hE : E_w_leastCoal G x y z w fb ff fo fk fa br fs fw n lt nf fi f1 f2 f3 fl = Lp (α := Int32 → Int32 → (Nat → Int32) → (Nat → Int32) → (Nat → Int32) → (Nat → Int32) → (Nat → Int32) → (Nat → Int32) → (Nat → Int32) → (Int32 × (Nat → Int32) × (Nat → Int32) × (Nat → Int32) × (Nat → Int32) × (Nat → Int32) × Int32 × (Nat → Int32) × (Nat → Int32))) (E_w_leastCoal_l34 G x z w n lt nf fi f1 f2 f3 fl) (fun _ _ _ _ _ _ _ _ _ => ((0, fun _ => 0, fun _ => 0, fun _ => 0, fun _ => 0, fun _ => 0, 0, fun _ => 0, fun _ => 0) : Int32 × (Nat → Int32) × (Nat → Int32) × (Nat → Int32) × (Nat → Int32) × (Nat → Int32) × Int32 × (Nat → Int32) × (Nat → Int32))) nn_ v_2191 v_2192 f_2193 f_2194 f_2195 f_2196 f_2197 f_2198 f_2199) (H : Heap) (locs : List Loc) (hP : va_P D vwCl [(p0, .inr (5, [.ref a0, .ref p1, .ref p2, .ref p3, .ref p4, .ref p5])), (p1, .inl (K 0, 21, .inl f_2193)), (p2, .inl (K 0, 21, .inl f_2194)), (p3, .inl (K 0, 273, .inl f_2195)), (p4, .inl (K 0, 252, .inl f_2196)), (p5, .inl (K 0, 252, .inl f_2197)), (a0, .inr (0, [.ref m0, .ref w0])), (m0, .inr (3, [.ref m1, .int v_2192])), (m1, .inl (K 0, 64, .inl f_2198)), (w0, .inl (K 0, 9, .inl f_2199)), (t0, .inr (9, [.ref t1, .ref t3, .ref t2, .ref l0, .int n, .int lt, .int nf, .int fi, k_8, k_9])), (t1, .inl (K 0, 56, .inl f1)), (t2, .inl (K 0, 6, .inl f2)), (t3, .inl (K 0, 24, .inl f3)), (l0, .inl (K 4, 6, .inr (.inr (.inr (.inr fl)))))] H) (hD : va_D A [(p0, .inr (5, [.ref a0, .ref p1, .ref p2, .ref p3, .ref p4, .ref p5])), (p1, .inl (K 0, 21, .inl f_2193)), (p2, .inl (K 0, 21, .inl f_2194)), (p3, .inl (K 0, 273, .inl f_2195)), (p4, .inl (K 0, 252, .inl f_2196)), (p5, .inl (K 0, 252, .inl f_2197)), (a0, .inr (0, [.ref m0, .ref w0])), (m0, .inr (3, [.ref m1, .int v_2192])), (m1, .inl (K 0, 64, .inl f_2198)), (w0, .inl (K 0, 9, .inl f_2199)), (t0, .inr (9, [.ref t1, .ref t3, .ref t2, .ref l0, .int n, .int lt, .int nf, .int fi, k_8, k_9])), (t1, .inl (K 0, 56, .inl f1)), (t2, .inl (K 0, 6, .inl f2)), (t3, .inl (K 0, 24, .inl f3)), (l0, .inl (K 4, 6, .inr (.inr (.inr (.inr fl)))))]) (hS : va_S A s.heap H locs) (ls : Array Slot) (hl : lv_has ls 8 [(6, .int v_2191), (0, .ref p0), (1, .ref t0), (2, .int x), (4, .int z), (5, .int w)]), W p l e ({ frames := 4, cells := 0, slots := 0, locals := 107 }) s m (([.ref p0, .ref t0, .int x, .int y, .int z, .int w] : List Value).toArray) below meth c H locs 0 0 Q (F0 m 34 ls []) := by
          clear hE hP hD hS hl
          intro nn_
          induction nn_ with
          | zero =>
            intro v_2191 v_2192 f_2193 f_2194 f_2195 f_2196 f_2197 f_2198 f_2199 hv_2191 hv_2192 hf_2193_0 hf_2194_0 hf_2195_0 hf_2197_0 hn hE H locs hP hD hS ls hl
            exact absurd hn (Nat.not_lt_zero _)
          | succ nn_ ih_2490 =>
            intro v_2191 v_2192 f_2193 f_2194 f_2195 f_2196 f_2197 f_2198 f_2199 hv_2191 hv_2192 hf_2193_0 hf_2194_0 hf_2195_0 hf_2197_0 hn hE H locs hP hD hS ls hl
            replace hE : E_w_leastCoal G x y z w fb ff fo fk fa br fs fw n lt nf fi f1 f2 f3 fl = E_w_leastCoal_l34 G x z w n lt nf fi f1 f2 f3 fl (Lp (α := Int32 → Int32 → (Nat → Int32) → (Nat → Int32) → (Nat → Int32) → (Nat → Int32) → (Nat → Int32) → (Nat → Int32) → (Nat → Int32) → (Int32 × (Nat → Int32) × (Nat → Int32) × (Nat → Int32) × (Nat → Int32) × (Nat → Int32) × Int32 × (Nat → Int32) × (Nat → Int32))) (E_w_leastCoal_l34 G x z w n lt nf fi f1 f2 f3 fl) (fun _ _ _ _ _ _ _ _ _ => ((0, fun _ => 0, fun _ => 0, fun _ => 0, fun _ => 0, fun _ => 0, 0, fun _ => 0, fun _ => 0) : Int32 × (Nat → Int32) × (Nat → Int32) × (Nat → Int32) × (Nat → Int32) × (Nat → Int32) × Int32 × (Nat → Int32) × (Nat → Int32))) nn_) v_2191 v_2192 f_2193 f_2194 f_2195 f_2196 f_2197 f_2198 f_2199 := hE
            obtain ⟨rec_2489, hrec_2489⟩ : ∃ z9, z9 = Lp (α := Int32 → Int32 → (Nat → Int32) → (Nat → Int32) → (Nat → Int32) → (Nat → Int32) → (Nat → Int32) → (Nat → Int32) → (Nat → Int32) → (Int32 × (Nat → Int32) × (Nat → Int32) × (Nat → Int32) × (Nat → Int32) × (Nat → Int32) × Int32 × (Nat → Int32) × (Nat → Int32))) (E_w_leastCoal_l34 G x z w n lt nf fi f1 f2 f3 fl) (fun _ _ _ _ _ _ _ _ _ => ((0, fun _ => 0, fun _ => 0, fun _ => 0, fun _ => 0, fun _ => 0, 0, fun _ => 0, fun _ => 0) : Int32 × (Nat → Int32) × (Nat → Int32) × (Nat → Int32) × (Nat → Int32) × (Nat → Int32) × Int32 × (Nat → Int32) × (Nat → Int32))) nn_ := ⟨_, rfl⟩
            rw [← hrec_2489] at hE
            replace hE := hE.trans (E_w_leastCoal_l34.eq_def _ _ _ _ _ _ _ _ _ _ _ _ _ _ _ _ _ _ _ _ _ _)
            refine lv_iload hx hb dX5_leastCoal_34 (lv_at hl 0 rfl) ?_
            refine lv_if_lt (tgt := 94) hx hb dX5_leastCoal_36 (by decide +kernel) (fun c_2491 => ?_) (fun c_2491 => ?_)
            · have c_2491i := i_lt (x := v_2191.toInt) (y := 0) rfl rfl c_2491
              replace hE := hE.trans (if_pos c_2491)
              refine lv_aload_n hx hb dX5_leastCoal_94 rfl (lv_at hl 2 rfl) ?_
              refine lv_iload_n hx hb dX5_leastCoal_95 rfl (lv_at hl 3 rfl) ?_
              refine lv_iconst (v := 5) hx hb dX5_leastCoal_96 (by decide +kernel) ?_
              refine pci (va_runVN (As := [.int x, .int 5]) (rest := []) ⟨hx, hb, hml, hown, hts⟩ (w_fact l D K t0 x 5 t1 (.ref t3) (.ref t2) (.ref l0) (.int n) (.int lt) (.int nf) (.int fi) k_8 k_9 f1 H.size) ⟨va_cnB 2 hts gX5_leastCoal_X9_fact_n42 rfl rfl rfl (nst_at hN 81 rfl) (hts _ mm_X5_leastCoal_145) (by decide +kernel) ⟨Nat.le_of_ble_eq_true rfl, Nat.le_of_ble_eq_true rfl⟩, (hts _ mm_X5_leastCoal_381), (hts _ mm_X5_leastCoal_2)⟩ (mkV hK hN (hP.sub [10, 11] rfl) (hD.sub [10, 11] (by decide +kernel) rfl) (ci := 9) (q0 := 0) rfl rfl) rfl rfl hl.1 rfl (lv_room (Nat.le_of_ble_eq_true rfl)) dX5_leastCoal_97 ⟨Nat.le_of_ble_eq_true rfl, Nat.le_of_ble_eq_true rfl⟩) (fun r_2492 hw => ?_)
              obtain ⟨k_2493, -⟩ := hw
              replace hE := hE.trans (Lt_in k_2493)
              refine lv_istore (lv' := [(6, .int r_2492), (0, .ref p0), (1, .ref t0), (2, .int x), (4, .int z), (5, .int w)]) hx hb dX5_leastCoal_100 hl (by decide +kernel) rfl (fun ls hl => ?_)
              refine lv_iload hx hb dX5_leastCoal_102 (lv_at hl 0 rfl) ?_
              refine lv_iconst (v := 0) hx hb dX5_leastCoal_104 (by decide +kernel) ?_
              refine lv_bipush (v := 20) hx hb dX5_leastCoal_105 (by decide +kernel) ?_
              have j_2554 : ∀ (hE : E_w_leastCoal G x y z w fb ff fo fk fa br fs fw n lt nf fi f1 f2 f3 fl = E_w_leastCoal_j126 v_2192 f_2193 f_2194 f_2195 f_2196 f_2197 f_2198 f_2199) (H : Heap) (locs : List Loc) (hP : va_P D vwCl [(p0, .inr (5, [.ref a0, .ref p1, .ref p2, .ref p3, .ref p4, .ref p5])), (p1, .inl (K 0, 21, .inl f_2193)), (p2, .inl (K 0, 21, .inl f_2194)), (p3, .inl (K 0, 273, .inl f_2195)), (p4, .inl (K 0, 252, .inl f_2196)), (p5, .inl (K 0, 252, .inl f_2197)), (a0, .inr (0, [.ref m0, .ref w0])), (m0, .inr (3, [.ref m1, .int v_2192])), (m1, .inl (K 0, 64, .inl f_2198)), (w0, .inl (K 0, 9, .inl f_2199)), (t0, .inr (9, [.ref t1, .ref t3, .ref t2, .ref l0, .int n, .int lt, .int nf, .int fi, k_8, k_9])), (t1, .inl (K 0, 56, .inl f1)), (t2, .inl (K 0, 6, .inl f2)), (t3, .inl (K 0, 24, .inl f3)), (l0, .inl (K 4, 6, .inr (.inr (.inr (.inr fl)))))] H) (hD : va_D A [(p0, .inr (5, [.ref a0, .ref p1, .ref p2, .ref p3, .ref p4, .ref p5])), (p1, .inl (K 0, 21, .inl f_2193)), (p2, .inl (K 0, 21, .inl f_2194)), (p3, .inl (K 0, 273, .inl f_2195)), (p4, .inl (K 0, 252, .inl f_2196)), (p5, .inl (K 0, 252, .inl f_2197)), (a0, .inr (0, [.ref m0, .ref w0])), (m0, .inr (3, [.ref m1, .int v_2192])), (m1, .inl (K 0, 64, .inl f_2198)), (w0, .inl (K 0, 9, .inl f_2199)), (t0, .inr (9, [.ref t1, .ref t3, .ref t2, .ref l0, .int n, .int lt, .int nf, .int fi, k_8, k_9])), (t1, .inl (K 0, 56, .inl f1)), (t2, .inl (K 0, 6, .inl f2)), (t3, .inl (K 0, 24, .inl f3)), (l0, .inl (K 4, 6, .inr (.inr (.inr (.inr fl)))))]) (hS : va_S A s.heap H locs) (ls : Array Slot) (hl : lv_has ls 8 []), W p l e ({ frames := 4, cells := 0, slots := 0, locals := 107 }) s m (([.ref p0, .ref t0, .int x, .int y, .int z, .int w] : List Value).toArray) below meth c H locs 0 0 Q (F0 m 126 ls []) := by
                clear hE hP hD hS hl
                intro hE H locs hP hD hS ls hl
                replace hE := hE.trans (E_w_leastCoal_j126.eq_def _ _ _ _ _ _ _ _)
                refine lv_iconst (v := (-1)) hx hb dX5_leastCoal_126 (by decide +kernel) ?_
                rw [← hQ]
                have hP9 := hP.sub (ws' := [(p0, .inr (5, [.ref a0, .ref p1, .ref p2, .ref p3, .ref p4, .ref p5])), (p1, .inl (K 0, 21, .inl f_2193)), (p2, .inl (K 0, 21, .inl f_2194)), (p3, .inl (K 0, 273, .inl f_2195)), (p4, .inl (K 0, 252, .inl f_2196)), (p5, .inl (K 0, 252, .inl f_2197)), (a0, .inr (0, [.ref m0, .ref w0])), (m0, .inr (3, [.ref m1, .int v_2192])), (m1, .inl (K 0, 64, .inl f_2198)), (w0, .inl (K 0, 9, .inl f_2199)), (t0, .inr (9, [.ref t1, .ref t3, .ref t2, .ref l0, .int n, .int lt, .int nf, .int fi, k_8, k_9])), (t1, .inl (K 0, 56, .inl f1)), (t2, .inl (K 0, 6, .inl f2)), (t3, .inl (K 0, 24, .inl f3)), (l0, .inl (K 4, 6, .inr (.inr (.inr (.inr fl)))))]) [0, 1, 2, 3, 4, 5, 6, 7, 8, 9, 10, 11, 12, 13, 14] rfl
                have hD9 := hD.sub (ws' := [(p0, .inr (5, [.ref a0, .ref p1, .ref p2, .ref p3, .ref p4, .ref p5])), (p1, .inl (K 0, 21, .inl f_2193)), (p2, .inl (K 0, 21, .inl f_2194)), (p3, .inl (K 0, 273, .inl f_2195)), (p4, .inl (K 0, 252, .inl f_2196)), (p5, .inl (K 0, 252, .inl f_2197)), (a0, .inr (0, [.ref m0, .ref w0])), (m0, .inr (3, [.ref m1, .int v_2192])), (m1, .inl (K 0, 64, .inl f_2198)), (w0, .inl (K 0, 9, .inl f_2199)), (t0, .inr (9, [.ref t1, .ref t3, .ref t2, .ref l0, .int n, .int lt, .int nf, .int fi, k_8, k_9])), (t1, .inl (K 0, 56, .inl f1)), (t2, .inl (K 0, 6, .inl f2)), (t3, .inl (K 0, 24, .inl f3)), (l0, .inl (K 4, 6, .inr (.inr (.inr (.inr fl)))))]) [0, 1, 2, 3, 4, 5, 6, 7, 8, 9, 10, 11, 12, 13, 14] (by decide +kernel) rfl
                exact W.iret (v := (-1)) hx hb hr (fun t ht hW => ⟨⟨(-1), ((fun _ => 0, fun i => ([f_2193, f_2194, f_2195, f_2196, f_2197, f_2198, f_2199] : List _).getD i (fun _ => 0), fun _ => fun _ => 0, fun i => match i with | _ => v_2192, fun _ => 0, fun _ => fun _ => none) : Su), rfl, ⟨hf_2193_0, hf_2194_0, hf_2195_0, hf_2197_0, (show 0 ≤ (v_2192 : Int32).toInt ∧ (v_2192 : Int32).toInt ≤ 1 by omega), hE.symm, trivial⟩, (⟨by rw [ht]; exact hP9, hD9⟩ : Wd D A _ t)⟩, hS.F ht⟩) hS.2.2 dX5_leastCoal_127
              refine pci (va_runSN (As := [.int r_2492, .int 0, .int 20]) (rest := []) ⟨hx, hb, hml, hown, hts⟩ (w_within l D K r_2492.toInt 0 20 r_2492 0 20 H.size rfl (show (0 : Int32).toInt = 0 from rfl) (show (20 : Int32).toInt = 20 from rfl)) ⟨va_cnB 3 hts gX5_leastCoal_X11_within_n48 rfl rfl rfl (nst_at hN 82 rfl) (hts _ mm_X5_leastCoal_144) (by decide +kernel) ⟨Nat.le_of_ble_eq_true rfl, Nat.le_of_ble_eq_true rfl⟩, (hts _ mm_X5_leastCoal_373), trivial⟩ (mkS hK hN (va_P.nil) (va_D.nil (A := fun _ => True))) rfl rfl hl.1 rfl (lv_room (Nat.le_of_ble_eq_true rfl)) dX5_leastCoal_107 ⟨Nat.le_of_ble_eq_true rfl, Nat.le_of_ble_eq_true rfl⟩) (fun r_2555 hw => ?_)
              obtain ⟨hw, k_2556, -⟩ := hw
              replace hE := hE.trans (Lt_in k_2556)
              rcases hw with ⟨rfl, h_2557, h_2558⟩ | ⟨rfl, h_2559⟩
              · replace hE := (hE).trans (if_pos rfl)
                refine lv_if_eq (tgt := 126) hx hb dX5_leastCoal_110 (by decide +kernel) (fun c_2560 => absurd c_2560 (by decide +kernel)) (fun c_2560 => ?_)
                refine lv_aload_n hx hb dX5_leastCoal_113 rfl (lv_at hl 1 rfl) ?_
                refine va_get (ci := 5) (v := .ref p3) (C := RX5) (T := TX5) (N := 6) hx hb hts hw5 hown hK hP 0 rfl rfl 3 (by decide +kernel) (hts _ mm_X5_leastCoal_310) (fun _ h9 => h9) rfl dX5_leastCoal_114 ?_
                refine lv_iload hx hb dX5_leastCoal_117 (lv_at hl 0 rfl) ?_
                refine va_iald hx hb hK hP 3 0 rfl rfl (i_in rfl (by omega)) dX5_leastCoal_119 ?_
                refine lv_topi (fun x_2561 ex_2561 => ?_)
                replace hE := hE.trans (Lt_in ex_2561)
                have hx_2561 := Rg.at hf_2195_0 rfl (show 0 ≤ r_2492.toInt ∧ r_2492.toInt < _ by omega)
                rw [← ex_2561] at hx_2561
                refine lv_sipush (v := 1000) hx hb dX5_leastCoal_120 (by decide +kernel) ?_
                refine lv_icmp_lt (tgt := 128) hx hb dX5_leastCoal_123 (by decide +kernel) (fun c_2562 => ?_) (fun c_2562 => ?_)
                · have c_2562i := i_lt (x := x_2561.toInt) (y := 1000) rfl rfl c_2562
                  replace hE := hE.trans (if_pos c_2562)
                  refine lv_iconst (v := 0) hx hb dX5_leastCoal_128 (by decide +kernel) ?_
                  refine lv_istore (lv' := [(7, .int 0), (6, .int r_2492), (0, .ref p0), (1, .ref t0), (2, .int x), (4, .int z), (5, .int w)]) hx hb dX5_leastCoal_129 hl (by decide +kernel) rfl (fun ls hl => ?_)
                  have lp_2602 : ∀ (nn_ : Nat) (v_2588 : Int32) (v_2589 : Int32) (hv_2588 : 0 ≤ v_2588.toInt ∧ v_2588.toInt ≤ 11) (hv_2589 : 0 ≤ v_2589.toInt ∧ v_2589.toInt ≤ 20) (hn : (12 - v_2588.toInt : Int).toNat < nn_) (hE : E_w_leastCoal G x y z w fb ff fo fk fa br fs fw n lt nf fi f1 f2 f3 fl = Lp (α := Int32 → Int32 → (Int32 × (Nat → Int32) × (Nat → Int32) × (Nat → Int32) × (Nat → Int32) × (Nat → Int32) × Int32 × (Nat → Int32) × (Nat → Int32))) (E_w_leastCoal_l131 w v_2192 f_2193 f_2194 f_2195 f_2196 f_2197 f_2198 f_2199) (fun _ _ => ((0, fun _ => 0, fun _ => 0, fun _ => 0, fun _ => 0, fun _ => 0, 0, fun _ => 0, fun _ => 0) : Int32 × (Nat → Int32) × (Nat → Int32) × (Nat → Int32) × (Nat → Int32) × (Nat → Int32) × Int32 × (Nat → Int32) × (Nat → Int32))) nn_ v_2588 v_2589) (H : Heap) (locs : List Loc) (hP : va_P D vwCl [(p0, .inr (5, [.ref a0, .ref p1, .ref p2, .ref p3, .ref p4, .ref p5])), (p1, .inl (K 0, 21, .inl f_2193)), (p2, .inl (K 0, 21, .inl f_2194)), (p3, .inl (K 0, 273, .inl f_2195)), (p4, .inl (K 0, 252, .inl f_2196)), (p5, .inl (K 0, 252, .inl f_2197)), (a0, .inr (0, [.ref m0, .ref w0])), (m0, .inr (3, [.ref m1, .int v_2192])), (m1, .inl (K 0, 64, .inl f_2198)), (w0, .inl (K 0, 9, .inl f_2199)), (t0, .inr (9, [.ref t1, .ref t3, .ref t2, .ref l0, .int n, .int lt, .int nf, .int fi, k_8, k_9])), (t1, .inl (K 0, 56, .inl f1)), (t2, .inl (K 0, 6, .inl f2)), (t3, .inl (K 0, 24, .inl f3)), (l0, .inl (K 4, 6, .inr (.inr (.inr (.inr fl)))))] H) (hD : va_D A [(p0, .inr (5, [.ref a0, .ref p1, .ref p2, .ref p3, .ref p4, .ref p5])), (p1, .inl (K 0, 21, .inl f_2193)), (p2, .inl (K 0, 21, .inl f_2194)), (p3, .inl (K 0, 273, .inl f_2195)), (p4, .inl (K 0, 252, .inl f_2196)), (p5, .inl (K 0, 252, .inl f_2197)), (a0, .inr (0, [.ref m0, .ref w0])), (m0, .inr (3, [.ref m1, .int v_2192])), (m1, .inl (K 0, 64, .inl f_2198)), (w0, .inl (K 0, 9, .inl f_2199)), (t0, .inr (9, [.ref t1, .ref t3, .ref t2, .ref l0, .int n, .int lt, .int nf, .int fi, k_8, k_9])), (t1, .inl (K 0, 56, .inl f1)), (t2, .inl (K 0, 6, .inl f2)), (t3, .inl (K 0, 24, .inl f3)), (l0, .inl (K 4, 6, .inr (.inr (.inr (.inr fl)))))]) (hS : va_S A s.heap H locs) (ls : Array Slot) (hl : lv_has ls 8 [(7, .int v_2588), (6, .int v_2589), (0, .ref p0), (5, .int w)]), W p l e ({ frames := 4, cells := 0, slots := 0, locals := 107 }) s m (([.ref p0, .ref t0, .int x, .int y, .int z, .int w] : List Value).toArray) below meth c H locs 0 0 Q (F0 m 131 ls []) := by
                    clear hE hP hD hS hl
                    intro nn_
                    induction nn_ with
                    | zero =>
                      intro v_2588 v_2589 hv_2588 hv_2589 hn hE H locs hP hD hS ls hl
                      exact absurd hn (Nat.not_lt_zero _)
                    | succ nn_ ih_2603 =>
                      intro v_2588 v_2589 hv_2588 hv_2589 hn hE H locs hP hD hS ls hl
                      replace hE : E_w_leastCoal G x y z w fb ff fo fk fa br fs fw n lt nf fi f1 f2 f3 fl = E_w_leastCoal_l131 w v_2192 f_2193 f_2194 f_2195 f_2196 f_2197 f_2198 f_2199 (Lp (α := Int32 → Int32 → (Int32 × (Nat → Int32) × (Nat → Int32) × (Nat → Int32) × (Nat → Int32) × (Nat → Int32) × Int32 × (Nat → Int32) × (Nat → Int32))) (E_w_leastCoal_l131 w v_2192 f_2193 f_2194 f_2195 f_2196 f_2197 f_2198 f_2199) (fun _ _ => ((0, fun _ => 0, fun _ => 0, fun _ => 0, fun _ => 0, fun _ => 0, 0, fun _ => 0, fun _ => 0) : Int32 × (Nat → Int32) × (Nat → Int32) × (Nat → Int32) × (Nat → Int32) × (Nat → Int32) × Int32 × (Nat → Int32) × (Nat → Int32))) nn_) v_2588 v_2589 := hE
                      obtain ⟨rec_2602, hrec_2602⟩ : ∃ z9, z9 = Lp (α := Int32 → Int32 → (Int32 × (Nat → Int32) × (Nat → Int32) × (Nat → Int32) × (Nat → Int32) × (Nat → Int32) × Int32 × (Nat → Int32) × (Nat → Int32))) (E_w_leastCoal_l131 w v_2192 f_2193 f_2194 f_2195 f_2196 f_2197 f_2198 f_2199) (fun _ _ => ((0, fun _ => 0, fun _ => 0, fun _ => 0, fun _ => 0, fun _ => 0, 0, fun _ => 0, fun _ => 0) : Int32 × (Nat → Int32) × (Nat → Int32) × (Nat → Int32) × (Nat → Int32) × (Nat → Int32) × Int32 × (Nat → Int32) × (Nat → Int32))) nn_ := ⟨_, rfl⟩
                      rw [← hrec_2602] at hE
                      replace hE := hE.trans (E_w_leastCoal_l131.eq_def _ _ _ _ _ _ _ _ _ _ _ _)
                      refine lv_iload hx hb dX5_leastCoal_131 (lv_at hl 0 rfl) ?_
                      refine lv_iload hx hb dX5_leastCoal_133 (lv_at hl 3 rfl) ?_
                      refine lv_icmp_ge (tgt := 159) hx hb dX5_leastCoal_135 (by decide +kernel) (fun c_2604 => ?_) (fun c_2604 => ?_)
                      · have c_2604i := i_le (x := w.toInt) (y := v_2588.toInt) rfl rfl c_2604
                        replace hE := hE.trans (if_pos c_2604)
                        refine lv_iload hx hb dX5_leastCoal_159 (lv_at hl 3 rfl) ?_
                        refine lv_iconst (v := (-1)) hx hb dX5_leastCoal_161 (by decide +kernel) ?_
                        refine lv_icmp_ne (tgt := 175) hx hb dX5_leastCoal_162 (by decide +kernel) (fun c_2605 => ?_) (fun c_2605 => ?_)
                        · have c_2605i := i_ne (x := w.toInt) (y := (-1)) rfl rfl c_2605
                          replace hE := hE.trans (if_neg c_2605)
                          refine lv_aload_n hx hb dX5_leastCoal_175 rfl (lv_at hl 2 rfl) ?_
                          refine va_get (ci := 5) (v := .ref p4) (C := RX5) (T := TX5) (N := 6) hx hb hts hw5 hown hK hP 0 rfl rfl 4 (by decide +kernel) (hts _ mm_X5_leastCoal_311) (fun _ h9 => h9) rfl dX5_leastCoal_176 ?_
                          refine lv_iload hx hb dX5_leastCoal_179 (lv_at hl 3 rfl) ?_
                          refine lv_bipush (v := 21) hx hb dX5_leastCoal_181 (by decide +kernel) ?_
                          refine lv_imul hx hb dX5_leastCoal_183 ?_
                          refine lv_topi (fun x_2606 ex_2606 => ?_)
                          replace hE := hE.trans (Lt_in ex_2606)
                          have hx_2606 : x_2606.toInt = (w.toInt * 21) := by rw [ex_2606]; exact i_mul rfl (show (21 : Int32).toInt = 21 from rfl) (by omega)
                          refine lv_iload hx hb dX5_leastCoal_184 (lv_at hl 1 rfl) ?_
                          refine lv_iadd hx hb dX5_leastCoal_186 ?_
                          refine lv_topi (fun x_2607 ex_2607 => ?_)
                          replace hE := hE.trans (Lt_in ex_2607)
                          have hx_2607 : x_2607.toInt = ((w.toInt * 21) + v_2589.toInt) := by rw [ex_2607]; exact i_add hx_2606 rfl (by omega)
                          refine va_iald hx hb hK hP 4 0 rfl rfl (i_in hx_2607 (by omega)) dX5_leastCoal_187 ?_
                          refine lv_topi (fun x_2608 ex_2608 => ?_)
                          replace hE := hE.trans (Lt_in ex_2608)
                          rw [← hQ]
                          have hP9 := hP.sub (ws' := [(p0, .inr (5, [.ref a0, .ref p1, .ref p2, .ref p3, .ref p4, .ref p5])), (p1, .inl (K 0, 21, .inl f_2193)), (p2, .inl (K 0, 21, .inl f_2194)), (p3, .inl (K 0, 273, .inl f_2195)), (p4, .inl (K 0, 252, .inl f_2196)), (p5, .inl (K 0, 252, .inl f_2197)), (a0, .inr (0, [.ref m0, .ref w0])), (m0, .inr (3, [.ref m1, .int v_2192])), (m1, .inl (K 0, 64, .inl f_2198)), (w0, .inl (K 0, 9, .inl f_2199)), (t0, .inr (9, [.ref t1, .ref t3, .ref t2, .ref l0, .int n, .int lt, .int nf, .int fi, k_8, k_9])), (t1, .inl (K 0, 56, .inl f1)), (t2, .inl (K 0, 6, .inl f2)), (t3, .inl (K 0, 24, .inl f3)), (l0, .inl (K 4, 6, .inr (.inr (.inr (.inr fl)))))]) [0, 1, 2, 3, 4, 5, 6, 7, 8, 9, 10, 11, 12, 13, 14] rfl
                          have hD9 := hD.sub (ws' := [(p0, .inr (5, [.ref a0, .ref p1, .ref p2, .ref p3, .ref p4, .ref p5])), (p1, .inl (K 0, 21, .inl f_2193)), (p2, .inl (K 0, 21, .inl f_2194)), (p3, .inl (K 0, 273, .inl f_2195)), (p4, .inl (K 0, 252, .inl f_2196)), (p5, .inl (K 0, 252, .inl f_2197)), (a0, .inr (0, [.ref m0, .ref w0])), (m0, .inr (3, [.ref m1, .int v_2192])), (m1, .inl (K 0, 64, .inl f_2198)), (w0, .inl (K 0, 9, .inl f_2199)), (t0, .inr (9, [.ref t1, .ref t3, .ref t2, .ref l0, .int n, .int lt, .int nf, .int fi, k_8, k_9])), (t1, .inl (K 0, 56, .inl f1)), (t2, .inl (K 0, 6, .inl f2)), (t3, .inl (K 0, 24, .inl f3)), (l0, .inl (K 4, 6, .inr (.inr (.inr (.inr fl)))))]) [0, 1, 2, 3, 4, 5, 6, 7, 8, 9, 10, 11, 12, 13, 14] (by decide +kernel) rfl
                          exact W.iret (v := x_2608) hx hb hr (fun t ht hW => ⟨⟨x_2608, ((fun _ => 0, fun i => ([f_2193, f_2194, f_2195, f_2196, f_2197, f_2198, f_2199] : List _).getD i (fun _ => 0), fun _ => fun _ => 0, fun i => match i with | _ => v_2192, fun _ => 0, fun _ => fun _ => none) : Su), rfl, ⟨hf_2193_0, hf_2194_0, hf_2195_0, hf_2197_0, (show 0 ≤ (v_2192 : Int32).toInt ∧ (v_2192 : Int32).toInt ≤ 1 by omega), hE.symm, trivial⟩, (⟨by rw [ht]; exact hP9, hD9⟩ : Wd D A _ t)⟩, hS.F ht⟩) hS.2.2 dX5_leastCoal_188
                        · have c_2605i := i_eq (x := w.toInt) (y := (-1)) rfl rfl c_2605
                          replace hE := hE.trans (if_pos c_2605)
                          refine lv_aload_n hx hb dX5_leastCoal_165 rfl (lv_at hl 2 rfl) ?_
                          refine va_get (ci := 5) (v := .ref p3) (C := RX5) (T := TX5) (N := 6) hx hb hts hw5 hown hK hP 0 rfl rfl 3 (by decide +kernel) (hts _ mm_X5_leastCoal_310) (fun _ h9 => h9) rfl dX5_leastCoal_166 ?_
                          refine lv_iload hx hb dX5_leastCoal_169 (lv_at hl 1 rfl) ?_
                          refine va_iald hx hb hK hP 3 0 rfl rfl (i_in rfl (by omega)) dX5_leastCoal_171 ?_
                          refine lv_topi (fun x_2609 ex_2609 => ?_)
                          replace hE := hE.trans (Lt_in ex_2609)
                          have hx_2609 := Rg.at hf_2195_0 rfl (show 0 ≤ v_2589.toInt ∧ v_2589.toInt < _ by omega)
                          rw [← ex_2609] at hx_2609
                          refine lv_goto (tgt := 188) hx hb dX5_leastCoal_172 (by decide +kernel) ?_
                          rw [← hQ]
                          have hP9 := hP.sub (ws' := [(p0, .inr (5, [.ref a0, .ref p1, .ref p2, .ref p3, .ref p4, .ref p5])), (p1, .inl (K 0, 21, .inl f_2193)), (p2, .inl (K 0, 21, .inl f_2194)), (p3, .inl (K 0, 273, .inl f_2195)), (p4, .inl (K 0, 252, .inl f_2196)), (p5, .inl (K 0, 252, .inl f_2197)), (a0, .inr (0, [.ref m0, .ref w0])), (m0, .inr (3, [.ref m1, .int v_2192])), (m1, .inl (K 0, 64, .inl f_2198)), (w0, .inl (K 0, 9, .inl f_2199)), (t0, .inr (9, [.ref t1, .ref t3, .ref t2, .ref l0, .int n, .int lt, .int nf, .int fi, k_8, k_9])), (t1, .inl (K 0, 56, .inl f1)), (t2, .inl (K 0, 6, .inl f2)), (t3, .inl (K 0, 24, .inl f3)), (l0, .inl (K 4, 6, .inr (.inr (.inr (.inr fl)))))]) [0, 1, 2, 3, 4, 5, 6, 7, 8, 9, 10, 11, 12, 13, 14] rfl
                          have hD9 := hD.sub (ws' := [(p0, .inr (5, [.ref a0, .ref p1, .ref p2, .ref p3, .ref p4, .ref p5])), (p1, .inl (K 0, 21, .inl f_2193)), (p2, .inl (K 0, 21, .inl f_2194)), (p3, .inl (K 0, 273, .inl f_2195)), (p4, .inl (K 0, 252, .inl f_2196)), (p5, .inl (K 0, 252, .inl f_2197)), (a0, .inr (0, [.ref m0, .ref w0])), (m0, .inr (3, [.ref m1, .int v_2192])), (m1, .inl (K 0, 64, .inl f_2198)), (w0, .inl (K 0, 9, .inl f_2199)), (t0, .inr (9, [.ref t1, .ref t3, .ref t2, .ref l0, .int n, .int lt, .int nf, .int fi, k_8, k_9])), (t1, .inl (K 0, 56, .inl f1)), (t2, .inl (K 0, 6, .inl f2)), (t3, .inl (K 0, 24, .inl f3)), (l0, .inl (K 4, 6, .inr (.inr (.inr (.inr fl)))))]) [0, 1, 2, 3, 4, 5, 6, 7, 8, 9, 10, 11, 12, 13, 14] (by decide +kernel) rfl
                          exact W.iret (v := x_2609) hx hb hr (fun t ht hW => ⟨⟨x_2609, ((fun _ => 0, fun i => ([f_2193, f_2194, f_2195, f_2196, f_2197, f_2198, f_2199] : List _).getD i (fun _ => 0), fun _ => fun _ => 0, fun i => match i with | _ => v_2192, fun _ => 0, fun _ => fun _ => none) : Su), rfl, ⟨hf_2193_0, hf_2194_0, hf_2195_0, hf_2197_0, (show 0 ≤ (v_2192 : Int32).toInt ∧ (v_2192 : Int32).toInt ≤ 1 by omega), hE.symm, trivial⟩, (⟨by rw [ht]; exact hP9, hD9⟩ : Wd D A _ t)⟩, hS.F ht⟩) hS.2.2 dX5_leastCoal_188
                      · have c_2604i := i_nle (x := w.toInt) (y := v_2588.toInt) rfl rfl c_2604
                        replace hE := hE.trans (if_neg c_2604)
                        refine lv_aload_n hx hb dX5_leastCoal_138 rfl (lv_at hl 2 rfl) ?_
                        refine va_get (ci := 5) (v := .ref p5) (C := RX5) (T := TX5) (N := 6) hx hb hts hw5 hown hK hP 0 rfl rfl 5 (by decide +kernel) (hts _ mm_X5_leastCoal_312) (fun _ h9 => h9) rfl dX5_leastCoal_139 ?_
                        refine lv_iload hx hb dX5_leastCoal_142 (lv_at hl 0 rfl) ?_
                        refine lv_bipush (v := 21) hx hb dX5_leastCoal_144 (by decide +kernel) ?_
                        refine lv_imul hx hb dX5_leastCoal_146 ?_
                        refine lv_topi (fun x_2610 ex_2610 => ?_)
                        replace hE := hE.trans (Lt_in ex_2610)
                        have hx_2610 : x_2610.toInt = (v_2588.toInt * 21) := by rw [ex_2610]; exact i_mul rfl (show (21 : Int32).toInt = 21 from rfl) (by omega)
                        refine lv_iload hx hb dX5_leastCoal_147 (lv_at hl 1 rfl) ?_
                        refine lv_iadd hx hb dX5_leastCoal_149 ?_
                        refine lv_topi (fun x_2611 ex_2611 => ?_)
                        replace hE := hE.trans (Lt_in ex_2611)
                        have hx_2611 : x_2611.toInt = ((v_2588.toInt * 21) + v_2589.toInt) := by rw [ex_2611]; exact i_add hx_2610 rfl (by omega)
                        refine va_iald hx hb hK hP 5 0 rfl rfl (i_in hx_2611 (by omega)) dX5_leastCoal_150 ?_
                        refine lv_topi (fun x_2612 ex_2612 => ?_)
                        replace hE := hE.trans (Lt_in ex_2612)
                        have hx_2612 := Rg.at hf_2197_0 hx_2611 (show 0 ≤ ((v_2588.toInt * 21) + v_2589.toInt) ∧ ((v_2588.toInt * 21) + v_2589.toInt) < _ by omega)
                        rw [← ex_2612] at hx_2612
                        refine lv_istore (lv' := [(6, .int x_2612), (7, .int v_2588), (0, .ref p0), (5, .int w)]) hx hb dX5_leastCoal_151 hl (by decide +kernel) rfl (fun ls hl => ?_)
                        obtain ⟨x_2613, ex_2613⟩ : ∃ y : Int32, y = v_2588 + Int32.ofInt 1 := ⟨_, rfl⟩
                        replace hE := hE.trans (Lt_in ex_2613)
                        have hx_2613 : x_2613.toInt = (v_2588.toInt + 1) := by rw [ex_2613]; exact i_add rfl (show (Int32.ofInt 1).toInt = 1 from rfl) (by omega)
                        refine lv_iinc (v := x_2613) (lv' := [(7, .int x_2613), (6, .int x_2612), (0, .ref p0), (5, .int w)]) hx hb dX5_leastCoal_153 hl (k := 1) rfl (by rw [ex_2613]) (by decide +kernel) rfl (fun ls hl => ?_)
                        refine lv_goto (tgt := 131) hx hb dX5_leastCoal_156 (by decide +kernel) ?_
                        exact ih_2603 x_2613 x_2612 (by rw [hx_2613]; omega) (by omega) (by omega) (hE.trans (by rw [hrec_2602])) _ _ hP hD hS ls (lv_sub hl [0, 1, 2, 3] rfl)
                  exact lp_2602 ((12 - (0 : Int32).toInt : Int).toNat + 1) 0 r_2492 (by decide +kernel) (by omega) (Nat.lt_succ_self _) hE _ _ hP hD hS ls (lv_sub hl [0, 1, 2, 6] rfl)
                · have c_2562i := i_nlt (x := x_2561.toInt) (y := 1000) rfl rfl c_2562
                  replace hE := hE.trans (if_neg c_2562)
                  exact j_2554   hE _ _ hP hD hS ls (lv_sub hl [] rfl)
              · replace hE := (hE).trans (if_neg (by first | decide | (intro h9; have h8 := congrArg Int32.toInt h9; omega)))
                refine lv_if_eq (tgt := 126) hx hb dX5_leastCoal_110 (by decide +kernel) (fun c_2614 => ?_) (fun c_2614 => absurd (by decide +kernel) c_2614)
                exact j_2554   hE _ _ hP hD hS ls (lv_sub hl [] rfl)
            · have c_2491i := i_nlt (x := v_2191.toInt) (y := 0) rfl rfl c_2491
              replace hE := hE.trans (if_neg c_2491)
              refine lv_aload_n hx hb dX5_leastCoal_39 rfl (lv_at hl 1 rfl) ?_
              refine lv_aload_n hx hb dX5_leastCoal_40 rfl (lv_at hl 2 rfl) ?_
              refine lv_iload_n hx hb dX5_leastCoal_41 rfl (lv_at hl 3 rfl) ?_
              refine lv_iload hx hb dX5_leastCoal_42 (lv_at hl 0 rfl) ?_
              refine kcv (S := Su) (wr := [(p3, .inl (K 0, 273, .inl f_2195)), (p4, .inl (K 0, 252, .inl f_2196)), (p5, .inl (K 0, 252, .inl f_2197))]) (va_runV (As := [.ref t0, .int x, .int v_2191]) (rest := []) ⟨hx, hb, hml, hown, hts⟩ (w_askHour l D K g L G p0 t0 x v_2191 a0 p1 p2 p3 p4 p5 f_2193 f_2194 m0 w0 m1 v_2192 f_2198 f_2199 t1 t3 t2 l0 n lt nf fi k_8 k_9 f1 gt f2 f3 gc fl H.size (by first | omega | decide) (by first | omega | decide) (by first | omega | decide) hf_2193_0 hf_2194_0 zgt zgc zfl) (cwV 3 hts gX5_leastCoal_X5_askHour rfl rfl rfl (by decide +kernel) ⟨Nat.le_of_ble_eq_true rfl, Nat.le_of_ble_eq_true rfl⟩) (mkVY hK hN (hP.sub [0, 1, 2, 6, 7, 8, 9, 10, 11, 12, 13, 14] rfl) (hD.sub [0, 1, 2, 6, 7, 8, 9, 10, 11, 12, 13, 14] (by decide +kernel) rfl) (ci := 5) (q0 := 0) rfl rfl (fun U hU hW => ⟨Gl.at hG hS hW hU (fun q h => va_free hD hS hA [0, 1, 2, 6, 7, 8, 9, 10, 11, 12, 13, 14] rfl q h), Pool.at hPl hS hU (fun q h => va_free hD hS hA [0, 1, 2, 6, 7, 8, 9, 10, 11, 12, 13, 14] rfl q h), Ro.heap hU (Ro.nil)⟩)) rfl rfl hl.1 rfl (lv_room (Nat.le_of_ble_eq_true rfl)) dX5_leastCoal_44 ⟨Nat.le_of_ble_eq_true rfl, Nat.le_of_ble_eq_true rfl⟩) hP hD hS hA [0, 1, 2, 6, 7, 8, 9, 10, 11, 12, 13, 14] [3, 4, 5] rfl rfl (by decide +kernel) (by decide +kernel) (fun u_2616 H locs hw hP0 hD0 hS0 => ?_)
              clear hP hD hS
              have hP := hP0
              have hD := hD0
              have hS := hS0
              clear hP0 hD0 hS0
              replace hP : va_P D vwCl [(p3, .inl (K 0, 273, .inl f_2195)), (p4, .inl (K 0, 252, .inl f_2196)), (p5, .inl (K 0, 252, .inl f_2197)), (p0, .inr (5, [.ref a0, .ref p1, .ref p2, .ref p3, .ref p4, .ref p5])), (p1, .inl (K 0, 21, .inl (u_2616.2.1 0))), (p2, .inl (K 0, 21, .inl (u_2616.2.1 1))), (a0, .inr (0, [.ref m0, .ref w0])), (m0, .inr (3, [.ref m1, .int (u_2616.2.2.2.1 0)])), (m1, .inl (K 0, 64, .inl (u_2616.2.1 2))), (w0, .inl (K 0, 9, .inl (u_2616.2.1 3))), (t0, .inr (9, [.ref t1, .ref t3, .ref t2, .ref l0, .int n, .int lt, .int nf, .int fi, k_8, k_9])), (t1, .inl (K 0, 56, .inl f1)), (t2, .inl (K 0, 6, .inl f2)), (t3, .inl (K 0, 24, .inl f3)), (l0, .inl (K 4, 6, .inr (.inr (.inr (.inr fl)))))] H := hP
              replace hD : va_D A [(p3, .inl (K 0, 273, .inl f_2195)), (p4, .inl (K 0, 252, .inl f_2196)), (p5, .inl (K 0, 252, .inl f_2197)), (p0, .inr (5, [.ref a0, .ref p1, .ref p2, .ref p3, .ref p4, .ref p5])), (p1, .inl (K 0, 21, .inl (u_2616.2.1 0))), (p2, .inl (K 0, 21, .inl (u_2616.2.1 1))), (a0, .inr (0, [.ref m0, .ref w0])), (m0, .inr (3, [.ref m1, .int (u_2616.2.2.2.1 0)])), (m1, .inl (K 0, 64, .inl (u_2616.2.1 2))), (w0, .inl (K 0, 9, .inl (u_2616.2.1 3))), (t0, .inr (9, [.ref t1, .ref t3, .ref t2, .ref l0, .int n, .int lt, .int nf, .int fi, k_8, k_9])), (t1, .inl (K 0, 56, .inl f1)), (t2, .inl (K 0, 6, .inl f2)), (t3, .inl (K 0, 24, .inl f3)), (l0, .inl (K 4, 6, .inr (.inr (.inr (.inr fl)))))] := hD
              obtain ⟨k_2617, k_2618, k_2619, k_2620, -⟩ := hw
              replace hE := (((hE.trans (Lt2_in k_2620)).trans (Lt2_in rfl)).trans (Lt2_in rfl)).trans (Lt2_in rfl)
              refine lv_iconst (v := 0) hx hb dX5_leastCoal_47 (by decide +kernel) ?_
              refine lv_istore (lv' := [(7, .int 0), (6, .int v_2191), (0, .ref p0), (1, .ref t0), (2, .int x), (4, .int z), (5, .int w)]) hx hb dX5_leastCoal_48 hl (by decide +kernel) rfl (fun ls hl => ?_)
              have lp_2735 : ∀ (nn_ : Nat) (v_2695 : Int32) (f_2696 : Nat → Int32) (f_2697 : Nat → Int32) (f_2698 : Nat → Int32) (hv_2695 : 0 ≤ v_2695.toInt ∧ v_2695.toInt ≤ 21) (hf_2696_0 : Rg 273 0 1000 f_2696) (hf_2698_0 : Rg 252 0 20 f_2698) (hn : (22 - v_2695.toInt : Int).toNat < nn_) (hE : E_w_leastCoal G x y z w fb ff fo fk fa br fs fw n lt nf fi f1 f2 f3 fl = Lp (α := Int32 → (Nat → Int32) → (Nat → Int32) → (Nat → Int32) → (Int32 × (Nat → Int32) × (Nat → Int32) × (Nat → Int32) × (Nat → Int32) × (Nat → Int32) × Int32 × (Nat → Int32) × (Nat → Int32))) (E_w_leastCoal_l50 z f2 v_2191 rec_2489 (u_2616.2.1 0) (u_2616.2.1 1) (u_2616.2.2.2.1 0) (u_2616.2.1 2) (u_2616.2.1 3)) (fun _ _ _ _ => ((0, fun _ => 0, fun _ => 0, fun _ => 0, fun _ => 0, fun _ => 0, 0, fun _ => 0, fun _ => 0) : Int32 × (Nat → Int32) × (Nat → Int32) × (Nat → Int32) × (Nat → Int32) × (Nat → Int32) × Int32 × (Nat → Int32) × (Nat → Int32))) nn_ v_2695 f_2696 f_2697 f_2698) (H : Heap) (locs : List Loc) (hP : va_P D vwCl [(p3, .inl (K 0, 273, .inl f_2696)), (p4, .inl (K 0, 252, .inl f_2697)), (p5, .inl (K 0, 252, .inl f_2698)), (p0, .inr (5, [.ref a0, .ref p1, .ref p2, .ref p3, .ref p4, .ref p5])), (p1, .inl (K 0, 21, .inl (u_2616.2.1 0))), (p2, .inl (K 0, 21, .inl (u_2616.2.1 1))), (a0, .inr (0, [.ref m0, .ref w0])), (m0, .inr (3, [.ref m1, .int (u_2616.2.2.2.1 0)])), (m1, .inl (K 0, 64, .inl (u_2616.2.1 2))), (w0, .inl (K 0, 9, .inl (u_2616.2.1 3))), (t0, .inr (9, [.ref t1, .ref t3, .ref t2, .ref l0, .int n, .int lt, .int nf, .int fi, k_8, k_9])), (t1, .inl (K 0, 56, .inl f1)), (t2, .inl (K 0, 6, .inl f2)), (t3, .inl (K 0, 24, .inl f3)), (l0, .inl (K 4, 6, .inr (.inr (.inr (.inr fl)))))] H) (hD : va_D A [(p3, .inl (K 0, 273, .inl f_2696)), (p4, .inl (K 0, 252, .inl f_2697)), (p5, .inl (K 0, 252, .inl f_2698)), (p0, .inr (5, [.ref a0, .ref p1, .ref p2, .ref p3, .ref p4, .ref p5])), (p1, .inl (K 0, 21, .inl (u_2616.2.1 0))), (p2, .inl (K 0, 21, .inl (u_2616.2.1 1))), (a0, .inr (0, [.ref m0, .ref w0])), (m0, .inr (3, [.ref m1, .int (u_2616.2.2.2.1 0)])), (m1, .inl (K 0, 64, .inl (u_2616.2.1 2))), (w0, .inl (K 0, 9, .inl (u_2616.2.1 3))), (t0, .inr (9, [.ref t1, .ref t3, .ref t2, .ref l0, .int n, .int lt, .int nf, .int fi, k_8, k_9])), (t1, .inl (K 0, 56, .inl f1)), (t2, .inl (K 0, 6, .inl f2)), (t3, .inl (K 0, 24, .inl f3)), (l0, .inl (K 4, 6, .inr (.inr (.inr (.inr fl)))))]) (hS : va_S A s.heap H locs) (ls : Array Slot) (hl : lv_has ls 8 [(7, .int v_2695), (6, .int v_2191), (0, .ref p0), (1, .ref t0), (2, .int x), (4, .int z), (5, .int w)]), W p l e ({ frames := 4, cells := 0, slots := 0, locals := 107 }) s m (([.ref p0, .ref t0, .int x, .int y, .int z, .int w] : List Value).toArray) below meth c H locs 0 0 Q (F0 m 50 ls []) := by
                clear hE hP hD hS hl
                intro nn_
                induction nn_ with
                | zero =>
                  intro v_2695 f_2696 f_2697 f_2698 hv_2695 hf_2696_0 hf_2698_0 hn hE H locs hP hD hS ls hl
                  exact absurd hn (Nat.not_lt_zero _)
                | succ nn_ ih_2736 =>
                  intro v_2695 f_2696 f_2697 f_2698 hv_2695 hf_2696_0 hf_2698_0 hn hE H locs hP hD hS ls hl
                  replace hE : E_w_leastCoal G x y z w fb ff fo fk fa br fs fw n lt nf fi f1 f2 f3 fl = E_w_leastCoal_l50 z f2 v_2191 rec_2489 (u_2616.2.1 0) (u_2616.2.1 1) (u_2616.2.2.2.1 0) (u_2616.2.1 2) (u_2616.2.1 3) (Lp (α := Int32 → (Nat → Int32) → (Nat → Int32) → (Nat → Int32) → (Int32 × (Nat → Int32) × (Nat → Int32) × (Nat → Int32) × (Nat → Int32) × (Nat → Int32) × Int32 × (Nat → Int32) × (Nat → Int32))) (E_w_leastCoal_l50 z f2 v_2191 rec_2489 (u_2616.2.1 0) (u_2616.2.1 1) (u_2616.2.2.2.1 0) (u_2616.2.1 2) (u_2616.2.1 3)) (fun _ _ _ _ => ((0, fun _ => 0, fun _ => 0, fun _ => 0, fun _ => 0, fun _ => 0, 0, fun _ => 0, fun _ => 0) : Int32 × (Nat → Int32) × (Nat → Int32) × (Nat → Int32) × (Nat → Int32) × (Nat → Int32) × Int32 × (Nat → Int32) × (Nat → Int32))) nn_) v_2695 f_2696 f_2697 f_2698 := hE
                  obtain ⟨rec_2735, hrec_2735⟩ : ∃ z9, z9 = Lp (α := Int32 → (Nat → Int32) → (Nat → Int32) → (Nat → Int32) → (Int32 × (Nat → Int32) × (Nat → Int32) × (Nat → Int32) × (Nat → Int32) × (Nat → Int32) × Int32 × (Nat → Int32) × (Nat → Int32))) (E_w_leastCoal_l50 z f2 v_2191 rec_2489 (u_2616.2.1 0) (u_2616.2.1 1) (u_2616.2.2.2.1 0) (u_2616.2.1 2) (u_2616.2.1 3)) (fun _ _ _ _ => ((0, fun _ => 0, fun _ => 0, fun _ => 0, fun _ => 0, fun _ => 0, 0, fun _ => 0, fun _ => 0) : Int32 × (Nat → Int32) × (Nat → Int32) × (Nat → Int32) × (Nat → Int32) × (Nat → Int32) × Int32 × (Nat → Int32) × (Nat → Int32))) nn_ := ⟨_, rfl⟩
                  rw [← hrec_2735] at hE
                  replace hE := hE.trans (E_w_leastCoal_l50.eq_def _ _ _ _ _ _ _ _ _ _ _ _ _ _)
                  refine lv_iload hx hb dX5_leastCoal_50 (lv_at hl 0 rfl) ?_
                  refine lv_bipush (v := 21) hx hb dX5_leastCoal_52 (by decide +kernel) ?_
                  refine lv_icmp_ge (tgt := 88) hx hb dX5_leastCoal_54 (by decide +kernel) (fun c_2737 => ?_) (fun c_2737 => ?_)
                  · have c_2737i := i_le (x := 21) (y := v_2695.toInt) rfl rfl c_2737
                    replace hE := hE.trans (if_pos c_2737)
                    obtain ⟨x_2738, ex_2738⟩ : ∃ y : Int32, y = v_2191 + Int32.ofInt (-1) := ⟨_, rfl⟩
                    replace hE := hE.trans (Lt_in ex_2738)
                    have hx_2738 : x_2738.toInt = (v_2191.toInt + (-1)) := by rw [ex_2738]; exact i_add rfl (show (Int32.ofInt (-1)).toInt = (-1) from rfl) (by omega)
                    refine lv_iinc (v := x_2738) (lv' := [(6, .int x_2738), (7, .int v_2695), (0, .ref p0), (1, .ref t0), (2, .int x), (4, .int z), (5, .int w)]) hx hb dX5_leastCoal_88 hl (k := 1) rfl (by rw [ex_2738]) (by decide +kernel) rfl (fun ls hl => ?_)
                    refine lv_goto (tgt := 34) hx hb dX5_leastCoal_91 (by decide +kernel) ?_
                    exact ih_2490 x_2738 (u_2616.2.2.2.1 0) (u_2616.2.1 0) (u_2616.2.1 1) f_2696 f_2697 f_2698 (u_2616.2.1 2) (u_2616.2.1 3) (by rw [hx_2738]; omega) (by omega) k_2617 k_2618 hf_2696_0 hf_2698_0 (by omega) (hE.trans (by rw [hrec_2489])) _ _ (hP.sub [3, 4, 5, 0, 1, 2, 6, 7, 8, 9, 10, 11, 12, 13, 14] rfl) (hD.sub [3, 4, 5, 0, 1, 2, 6, 7, 8, 9, 10, 11, 12, 13, 14] (by decide +kernel) rfl) hS ls (lv_sub hl [0, 2, 3, 4, 5, 6] rfl)
                  · have c_2737i := i_nle (x := 21) (y := v_2695.toInt) rfl rfl c_2737
                    replace hE := hE.trans (if_neg c_2737)
                    refine lv_aload_n hx hb dX5_leastCoal_57 rfl (lv_at hl 2 rfl) ?_
                    refine lv_aload_n hx hb dX5_leastCoal_58 rfl (lv_at hl 3 rfl) ?_
                    refine lv_iload hx hb dX5_leastCoal_59 (lv_at hl 1 rfl) ?_
                    refine lv_iload hx hb dX5_leastCoal_61 (lv_at hl 0 rfl) ?_
                    refine lv_iload hx hb dX5_leastCoal_63 (lv_at hl 5 rfl) ?_
                    refine lv_iload hx hb dX5_leastCoal_65 (lv_at hl 1 rfl) ?_
                    refine lv_ishr hx hb dX5_leastCoal_67 ?_
                    refine lv_topi (fun x_2739 ex_2739 => ?_)
                    replace hE := hE.trans (Lt_in ex_2739)
                    refine lv_iconst (v := 1) hx hb dX5_leastCoal_68 (by decide +kernel) ?_
                    refine lv_iand hx hb dX5_leastCoal_69 ?_
                    refine lv_topi (fun x_2740 ex_2740 => ?_)
                    replace hE := hE.trans (Lt_in ex_2740)
                    have hx_2740 : 0 ≤ x_2740.toInt ∧ x_2740.toInt ≤ 1 := by rw [ex_2740]; exact i_mask x_2739 1 rfl (by decide +kernel)
                    refine lv_iconst (v := 1) hx hb dX5_leastCoal_70 (by decide +kernel) ?_
                    refine lv_icmp_ne (tgt := 78) hx hb dX5_leastCoal_71 (by decide +kernel) (fun c_2741 => ?_) (fun c_2741 => ?_)
                    · have c_2741i := i_ne (x := x_2740.toInt) (y := 1) rfl rfl c_2741
                      replace hE := hE.trans (if_neg c_2741)
                      refine lv_iconst (v := 0) hx hb dX5_leastCoal_78 (by decide +kernel) ?_
                      refine kcv (S := Su) (wr := [(a0, .inr (0, [.ref m0, .ref w0])), (m0, .inr (3, [.ref m1, .int (u_2616.2.2.2.1 0)])), (m1, .inl (K 0, 64, .inl (u_2616.2.1 2))), (w0, .inl (K 0, 9, .inl (u_2616.2.1 3))), (t1, .inl (K 0, 56, .inl f1)), (t3, .inl (K 0, 24, .inl f3)), (l0, .inl (K 4, 6, .inr (.inr (.inr (.inr fl)))))]) (va_runV (As := [.ref t0, .int v_2191, .int v_2695, .int 0]) (rest := []) ⟨hx, hb, hml, hown, hts⟩ (w_settleHour l D K p0 t0 v_2191 v_2695 0 a0 p1 p2 p3 p4 p5 (u_2616.2.1 0) (u_2616.2.1 1) f_2696 f_2697 f_2698 (.ref t1) (.ref t3) t2 (.ref l0) (.int n) (.int lt) (.int nf) (.int fi) k_8 k_9 f2 H.size (by first | omega | decide) (by first | omega | decide) (by first | omega | decide) k_2617 k_2618 hf_2696_0 hf_2698_0) (cwV 4 hts gX5_leastCoal_X5_settleHour rfl rfl rfl (by decide +kernel) ⟨Nat.le_of_ble_eq_true rfl, Nat.le_of_ble_eq_true rfl⟩) (mkV hK hN (hP.sub [3, 4, 5, 0, 1, 2, 10, 12] rfl) (hD.sub [3, 4, 5, 0, 1, 2, 10, 12] (by decide +kernel) rfl) (ci := 5) (q0 := 0) rfl rfl) rfl rfl hl.1 rfl (lv_room (Nat.le_of_ble_eq_true rfl)) dX5_leastCoal_79 ⟨Nat.le_of_ble_eq_true rfl, Nat.le_of_ble_eq_true rfl⟩) hP hD hS hA [3, 4, 5, 0, 1, 2, 10, 12] [6, 7, 8, 9, 11, 13, 14] rfl rfl (by decide +kernel) (by decide +kernel) (fun u_2743 H locs hw hP0 hD0 hS0 => ?_)
                      clear hP hD hS
                      have hP := hP0
                      have hD := hD0
                      have hS := hS0
                      clear hP0 hD0 hS0
                      replace hP : va_P D vwCl [(a0, .inr (0, [.ref m0, .ref w0])), (m0, .inr (3, [.ref m1, .int (u_2616.2.2.2.1 0)])), (m1, .inl (K 0, 64, .inl (u_2616.2.1 2))), (w0, .inl (K 0, 9, .inl (u_2616.2.1 3))), (t1, .inl (K 0, 56, .inl f1)), (t3, .inl (K 0, 24, .inl f3)), (l0, .inl (K 4, 6, .inr (.inr (.inr (.inr fl))))), (p0, .inr (5, [.ref a0, .ref p1, .ref p2, .ref p3, .ref p4, .ref p5])), (p1, .inl (K 0, 21, .inl (u_2616.2.1 0))), (p2, .inl (K 0, 21, .inl (u_2616.2.1 1))), (p3, .inl (K 0, 273, .inl (u_2743.2.1 0))), (p4, .inl (K 0, 252, .inl (u_2743.2.1 1))), (p5, .inl (K 0, 252, .inl (u_2743.2.1 2))), (t0, .inr (9, [.ref t1, .ref t3, .ref t2, .ref l0, .int n, .int lt, .int nf, .int fi, k_8, k_9])), (t2, .inl (K 0, 6, .inl f2))] H := hP
                      replace hD : va_D A [(a0, .inr (0, [.ref m0, .ref w0])), (m0, .inr (3, [.ref m1, .int (u_2616.2.2.2.1 0)])), (m1, .inl (K 0, 64, .inl (u_2616.2.1 2))), (w0, .inl (K 0, 9, .inl (u_2616.2.1 3))), (t1, .inl (K 0, 56, .inl f1)), (t3, .inl (K 0, 24, .inl f3)), (l0, .inl (K 4, 6, .inr (.inr (.inr (.inr fl))))), (p0, .inr (5, [.ref a0, .ref p1, .ref p2, .ref p3, .ref p4, .ref p5])), (p1, .inl (K 0, 21, .inl (u_2616.2.1 0))), (p2, .inl (K 0, 21, .inl (u_2616.2.1 1))), (p3, .inl (K 0, 273, .inl (u_2743.2.1 0))), (p4, .inl (K 0, 252, .inl (u_2743.2.1 1))), (p5, .inl (K 0, 252, .inl (u_2743.2.1 2))), (t0, .inr (9, [.ref t1, .ref t3, .ref t2, .ref l0, .int n, .int lt, .int nf, .int fi, k_8, k_9])), (t2, .inl (K 0, 6, .inl f2))] := hD
                      obtain ⟨k_2744, k_2745, k_2746, -⟩ := hw
                      replace hE := (hE.trans (Lt2_in k_2746)).trans (Lt2_in rfl)
                      obtain ⟨x_2747, ex_2747⟩ : ∃ y : Int32, y = v_2695 + Int32.ofInt 1 := ⟨_, rfl⟩
                      replace hE := hE.trans (Lt_in ex_2747)
                      have hx_2747 : x_2747.toInt = (v_2695.toInt + 1) := by rw [ex_2747]; exact i_add rfl (show (Int32.ofInt 1).toInt = 1 from rfl) (by omega)
                      refine lv_iinc (v := x_2747) (lv' := [(7, .int x_2747), (6, .int v_2191), (0, .ref p0), (1, .ref t0), (2, .int x), (4, .int z), (5, .int w)]) hx hb dX5_leastCoal_82 hl (k := 0) rfl (by rw [ex_2747]) (by decide +kernel) rfl (fun ls hl => ?_)
                      refine lv_goto (tgt := 50) hx hb dX5_leastCoal_85 (by decide +kernel) ?_
                      exact ih_2736 x_2747 (u_2743.2.1 0) (u_2743.2.1 1) (u_2743.2.1 2) (by rw [hx_2747]; omega) k_2744 k_2745 (by omega) (hE.trans (by rw [hrec_2735])) _ _ (hP.sub [10, 11, 12, 7, 8, 9, 0, 1, 2, 3, 13, 4, 14, 5, 6] rfl) (hD.sub [10, 11, 12, 7, 8, 9, 0, 1, 2, 3, 13, 4, 14, 5, 6] (by decide +kernel) rfl) hS ls (lv_sub hl [0, 1, 2, 3, 4, 5, 6] rfl)
                    · have c_2741i := i_eq (x := x_2740.toInt) (y := 1) rfl rfl c_2741
                      replace hE := hE.trans (if_pos c_2741)
                      refine lv_iconst (v := 1) hx hb dX5_leastCoal_74 (by decide +kernel) ?_
                      refine lv_goto (tgt := 79) hx hb dX5_leastCoal_75 (by decide +kernel) ?_
                      refine kcv (S := Su) (wr := [(a0, .inr (0, [.ref m0, .ref w0])), (m0, .inr (3, [.ref m1, .int (u_2616.2.2.2.1 0)])), (m1, .inl (K 0, 64, .inl (u_2616.2.1 2))), (w0, .inl (K 0, 9, .inl (u_2616.2.1 3))), (t1, .inl (K 0, 56, .inl f1)), (t3, .inl (K 0, 24, .inl f3)), (l0, .inl (K 4, 6, .inr (.inr (.inr (.inr fl)))))]) (va_runV (As := [.ref t0, .int v_2191, .int v_2695, .int 1]) (rest := []) ⟨hx, hb, hml, hown, hts⟩ (w_settleHour l D K p0 t0 v_2191 v_2695 1 a0 p1 p2 p3 p4 p5 (u_2616.2.1 0) (u_2616.2.1 1) f_2696 f_2697 f_2698 (.ref t1) (.ref t3) t2 (.ref l0) (.int n) (.int lt) (.int nf) (.int fi) k_8 k_9 f2 H.size (by first | omega | decide) (by first | omega | decide) (by first | omega | decide) k_2617 k_2618 hf_2696_0 hf_2698_0) (cwV 4 hts gX5_leastCoal_X5_settleHour rfl rfl rfl (by decide +kernel) ⟨Nat.le_of_ble_eq_true rfl, Nat.le_of_ble_eq_true rfl⟩) (mkV hK hN (hP.sub [3, 4, 5, 0, 1, 2, 10, 12] rfl) (hD.sub [3, 4, 5, 0, 1, 2, 10, 12] (by decide +kernel) rfl) (ci := 5) (q0 := 0) rfl rfl) rfl rfl hl.1 rfl (lv_room (Nat.le_of_ble_eq_true rfl)) dX5_leastCoal_79 ⟨Nat.le_of_ble_eq_true rfl, Nat.le_of_ble_eq_true rfl⟩) hP hD hS hA [3, 4, 5, 0, 1, 2, 10, 12] [6, 7, 8, 9, 11, 13, 14] rfl rfl (by decide +kernel) (by decide +kernel) (fun u_2749 H locs hw hP0 hD0 hS0 => ?_)
                      clear hP hD hS
                      have hP := hP0
                      have hD := hD0
                      have hS := hS0
                      clear hP0 hD0 hS0
                      replace hP : va_P D vwCl [(a0, .inr (0, [.ref m0, .ref w0])), (m0, .inr (3, [.ref m1, .int (u_2616.2.2.2.1 0)])), (m1, .inl (K 0, 64, .inl (u_2616.2.1 2))), (w0, .inl (K 0, 9, .inl (u_2616.2.1 3))), (t1, .inl (K 0, 56, .inl f1)), (t3, .inl (K 0, 24, .inl f3)), (l0, .inl (K 4, 6, .inr (.inr (.inr (.inr fl))))), (p0, .inr (5, [.ref a0, .ref p1, .ref p2, .ref p3, .ref p4, .ref p5])), (p1, .inl (K 0, 21, .inl (u_2616.2.1 0))), (p2, .inl (K 0, 21, .inl (u_2616.2.1 1))), (p3, .inl (K 0, 273, .inl (u_2749.2.1 0))), (p4, .inl (K 0, 252, .inl (u_2749.2.1 1))), (p5, .inl (K 0, 252, .inl (u_2749.2.1 2))), (t0, .inr (9, [.ref t1, .ref t3, .ref t2, .ref l0, .int n, .int lt, .int nf, .int fi, k_8, k_9])), (t2, .inl (K 0, 6, .inl f2))] H := hP
                      replace hD : va_D A [(a0, .inr (0, [.ref m0, .ref w0])), (m0, .inr (3, [.ref m1, .int (u_2616.2.2.2.1 0)])), (m1, .inl (K 0, 64, .inl (u_2616.2.1 2))), (w0, .inl (K 0, 9, .inl (u_2616.2.1 3))), (t1, .inl (K 0, 56, .inl f1)), (t3, .inl (K 0, 24, .inl f3)), (l0, .inl (K 4, 6, .inr (.inr (.inr (.inr fl))))), (p0, .inr (5, [.ref a0, .ref p1, .ref p2, .ref p3, .ref p4, .ref p5])), (p1, .inl (K 0, 21, .inl (u_2616.2.1 0))), (p2, .inl (K 0, 21, .inl (u_2616.2.1 1))), (p3, .inl (K 0, 273, .inl (u_2749.2.1 0))), (p4, .inl (K 0, 252, .inl (u_2749.2.1 1))), (p5, .inl (K 0, 252, .inl (u_2749.2.1 2))), (t0, .inr (9, [.ref t1, .ref t3, .ref t2, .ref l0, .int n, .int lt, .int nf, .int fi, k_8, k_9])), (t2, .inl (K 0, 6, .inl f2))] := hD
                      obtain ⟨k_2750, k_2751, k_2752, -⟩ := hw
                      replace hE := (hE.trans (Lt2_in k_2752)).trans (Lt2_in rfl)
                      obtain ⟨x_2753, ex_2753⟩ : ∃ y : Int32, y = v_2695 + Int32.ofInt 1 := ⟨_, rfl⟩
                      replace hE := hE.trans (Lt_in ex_2753)
                      have hx_2753 : x_2753.toInt = (v_2695.toInt + 1) := by rw [ex_2753]; exact i_add rfl (show (Int32.ofInt 1).toInt = 1 from rfl) (by omega)
                      refine lv_iinc (v := x_2753) (lv' := [(7, .int x_2753), (6, .int v_2191), (0, .ref p0), (1, .ref t0), (2, .int x), (4, .int z), (5, .int w)]) hx hb dX5_leastCoal_82 hl (k := 0) rfl (by rw [ex_2753]) (by decide +kernel) rfl (fun ls hl => ?_)
                      refine lv_goto (tgt := 50) hx hb dX5_leastCoal_85 (by decide +kernel) ?_
                      exact ih_2736 x_2753 (u_2749.2.1 0) (u_2749.2.1 1) (u_2749.2.1 2) (by rw [hx_2753]; omega) k_2750 k_2751 (by omega) (hE.trans (by rw [hrec_2735])) _ _ (hP.sub [10, 11, 12, 7, 8, 9, 0, 1, 2, 3, 13, 4, 14, 5, 6] rfl) (hD.sub [10, 11, 12, 7, 8, 9, 0, 1, 2, 3, 13, 4, 14, 5, 6] (by decide +kernel) rfl) hS ls (lv_sub hl [0, 1, 2, 3, 4, 5, 6] rfl)
              exact lp_2735 ((22 - (0 : Int32).toInt : Int).toNat + 1) 0 f_2195 f_2196 f_2197 (by decide +kernel) hf_2195_0 hf_2197_0 (Nat.lt_succ_self _) hE _ _ hP hD hS ls (lv_sub hl [0, 1, 2, 3, 4, 5, 6] rfl)
        exact lp_2489 (((x_1901 : Int32).toInt - (-2) : Int).toNat + 1) x_1901 br fb ff f_1885 fk fa fs fw (by rw [hx_1901]; omega) (by omega) zfb zff hf_1885_0 zfa (Nat.lt_succ_self _) hE _ _ hP hD hS ls (lv_sub hl [0, 1, 2, 3, 5, 6] rfl)
      · have c_1900i := i_nle (x := 21) (y := v_1884.toInt) rfl rfl c_1900
        replace hE := hE.trans (if_neg c_1900)
        refine lv_aload_n hx hb dX5_leastCoal_10 rfl (lv_at hl 1 rfl) ?_
        refine va_get (ci := 5) (v := .ref p3) (C := RX5) (T := TX5) (N := 6) hx hb hts hw5 hown hK hP 0 rfl rfl 3 (by decide +kernel) (hts _ mm_X5_leastCoal_310) (fun _ h9 => h9) rfl dX5_leastCoal_11 ?_
        refine lv_iload_n hx hb dX5_leastCoal_14 rfl (lv_at hl 4 rfl) ?_
        refine lv_bipush (v := 21) hx hb dX5_leastCoal_15 (by decide +kernel) ?_
        refine lv_imul hx hb dX5_leastCoal_17 ?_
        refine lv_topi (fun x_2754 ex_2754 => ?_)
        replace hE := hE.trans (Lt_in ex_2754)
        have hx_2754 : x_2754.toInt = (y.toInt * 21) := by rw [ex_2754]; exact i_mul rfl (show (21 : Int32).toInt = 21 from rfl) (by omega)
        refine lv_iload hx hb dX5_leastCoal_18 (lv_at hl 0 rfl) ?_
        refine lv_iadd hx hb dX5_leastCoal_20 ?_
        refine lv_topi (fun x_2755 ex_2755 => ?_)
        replace hE := hE.trans (Lt_in ex_2755)
        have hx_2755 : x_2755.toInt = ((y.toInt * 21) + v_1884.toInt) := by rw [ex_2755]; exact i_add hx_2754 rfl (by omega)
        refine lv_iconst (v := 0) hx hb dX5_leastCoal_21 (by decide +kernel) ?_
        refine va_iast hx hb hK hP hD hS 3 0 rfl rfl (i_in hx_2755 (by omega)) dX5_leastCoal_22 (fun H locs hP0 hD0 hS0 => ?_)
        clear hP hD hS
        have hP := hP0
        have hD := hD0
        have hS := hS0
        clear hP0 hD0 hS0
        generalize hf_2756 : (upd f_1885 (x_2755 : Int32).toNatClampNeg 0) = f_2756 at hP hD
        replace hE := hE.trans (Lt_in hf_2756.symm)
        have hf_2756_0 : Rg 273 0 1000 f_2756 := by rw [← hf_2756]; exact Rg.upd hf_1885_0 (show (0 : Int32).toInt = 0 from rfl) (by omega)
        replace hP : va_P D vwCl [(p0, .inr (5, [.ref a0, .ref p1, .ref p2, .ref p3, .ref p4, .ref p5])), (p1, .inl (K 0, 21, .inl fb)), (p2, .inl (K 0, 21, .inl ff)), (p3, .inl (K 0, 273, .inl f_2756)), (p4, .inl (K 0, 252, .inl fk)), (p5, .inl (K 0, 252, .inl fa)), (a0, .inr (0, [.ref m0, .ref w0])), (m0, .inr (3, [.ref m1, .int br])), (m1, .inl (K 0, 64, .inl fs)), (w0, .inl (K 0, 9, .inl fw)), (t0, .inr (9, [.ref t1, .ref t3, .ref t2, .ref l0, .int n, .int lt, .int nf, .int fi, k_8, k_9])), (t1, .inl (K 0, 56, .inl f1)), (t2, .inl (K 0, 6, .inl f2)), (t3, .inl (K 0, 24, .inl f3)), (l0, .inl (K 4, 6, .inr (.inr (.inr (.inr fl)))))] H := hP
        replace hD : va_D A [(p0, .inr (5, [.ref a0, .ref p1, .ref p2, .ref p3, .ref p4, .ref p5])), (p1, .inl (K 0, 21, .inl fb)), (p2, .inl (K 0, 21, .inl ff)), (p3, .inl (K 0, 273, .inl f_2756)), (p4, .inl (K 0, 252, .inl fk)), (p5, .inl (K 0, 252, .inl fa)), (a0, .inr (0, [.ref m0, .ref w0])), (m0, .inr (3, [.ref m1, .int br])), (m1, .inl (K 0, 64, .inl fs)), (w0, .inl (K 0, 9, .inl fw)), (t0, .inr (9, [.ref t1, .ref t3, .ref t2, .ref l0, .int n, .int lt, .int nf, .int fi, k_8, k_9])), (t1, .inl (K 0, 56, .inl f1)), (t2, .inl (K 0, 6, .inl f2)), (t3, .inl (K 0, 24, .inl f3)), (l0, .inl (K 4, 6, .inr (.inr (.inr (.inr fl)))))] := hD
        obtain ⟨x_2757, ex_2757⟩ : ∃ y : Int32, y = v_1884 + Int32.ofInt 1 := ⟨_, rfl⟩
        replace hE := hE.trans (Lt_in ex_2757)
        have hx_2757 : x_2757.toInt = (v_1884.toInt + 1) := by rw [ex_2757]; exact i_add rfl (show (Int32.ofInt 1).toInt = 1 from rfl) (by omega)
        refine lv_iinc (v := x_2757) (lv' := [(6, .int x_2757), (0, .ref p0), (1, .ref t0), (2, .int x), (3, .int y), (4, .int z), (5, .int w)]) hx hb dX5_leastCoal_23 hl (k := 0) rfl (by rw [ex_2757]) (by decide +kernel) rfl (fun ls hl => ?_)
        refine lv_goto (tgt := 3) hx hb dX5_leastCoal_26 (by decide +kernel) ?_
        exact ih_1899 x_2757 f_2756 (by rw [hx_2757]; omega) hf_2756_0 (by omega) (hE.trans (by rw [hrec_1898])) _ _ hP hD hS ls (lv_sub hl [0, 1, 2, 3, 4, 5, 6] rfl)
  exact lp_1898 ((22 - (0 : Int32).toInt : Int).toNat + 1) 0 fo (by decide +kernel) zfo (Nat.lt_succ_self _) hE _ _ hP hD hS ls (lv_sub hl [0, 1, 2, 3, 4, 5, 6] rfl)
set_option maxRecDepth 100000 in
noncomputable def E_w_coalBy_n_j80 (br : Int32) (fs : Nat → Int32) (f1 : Nat → Int32) (f2 : Nat → Int32) (v_6731 : Int32) (v_7664 : Int32) (rec_7768 : Int32 → Int32 → Int32 → (Nat → Int32) → (Int32 × (Nat → Int32))) (v_7784 : Int32) (v_7785 : Int32) (f_7786 : Nat → Int32) : Int32 × (Nat → Int32) :=
  Lt (E_w_face v_6731 v_7784 v_7664 f_7786 f1 f2) (fun u_7799_2_1_0 => Lt (E_w_told_n 0 br fs u_7799_2_1_0) (fun r_7801 => Lt (v_7784 - r_7801 : Int32) (fun x_7805 => Lt (if (0 : Int32) < (x_7805 : Int32) then (x_7805 : Int32) else (0 : Int32) : Int32) (fun x_7806 => Lt (v_7664 + Int32.ofInt 1 : Int32) (fun x_7807 => rec_7768 x_7807 x_7806 v_7785 u_7799_2_1_0)))))
set_option maxRecDepth 100000 in
noncomputable def E_w_coalBy_n_l27 (y : Int32) (br : Int32) (fs : Nat → Int32) (f1 : Nat → Int32) (f2 : Nat → Int32) (v_6731 : Int32) (rec_7457 : Int32 → Int32 → (Nat → Int32) → (Int32 × (Nat → Int32))) (rec_7768 : Int32 → Int32 → Int32 → (Nat → Int32) → (Int32 × (Nat → Int32))) (v_7664 : Int32) (v_7665 : Int32) (v_7666 : Int32) (f_7667 : Nat → Int32) : Int32 × (Nat → Int32) :=
  if y ≤ v_7664 then (Lt (v_6731 + Int32.ofInt 1 : Int32) (fun x_7771 => rec_7457 x_7771 v_7666 f_7667)) else (Lt (f2 (2 : Int32).toNatClampNeg : Int32) (fun x_7772 => if x_7772 ≤ v_7665 then (E_w_coalBy_n_j80 br fs f1 f2 v_6731 v_7664 rec_7768 v_7665 v_7666 f_7667) else (Lt (E_w_face v_6731 v_7665 v_7664 f_7667 f1 f2) (fun u_7810_2_1_0 => Lt (E_w_told_n 1 br fs u_7810_2_1_0) (fun r_7812 => Lt (v_7665 + r_7812 : Int32) (fun x_7816 => Lt (if (x_7816 : Int32) < (20 : Int32) then (x_7816 : Int32) else (20 : Int32) : Int32) (fun x_7817 => Lt (v_7666 + Int32.ofInt 1 : Int32) (fun x_7818 => E_w_coalBy_n_j80 br fs f1 f2 v_6731 v_7664 rec_7768 x_7817 x_7818 u_7810_2_1_0))))))))
set_option maxRecDepth 100000 in
noncomputable def E_w_coalBy_n_l6 (y : Int32) (br : Int32) (fs : Nat → Int32) (n : Int32) (f1 : Nat → Int32) (f2 : Nat → Int32) (rec_7457 : Int32 → Int32 → (Nat → Int32) → (Int32 × (Nat → Int32))) (v_6731 : Int32) (v_6732 : Int32) (f_6733 : Nat → Int32) : Int32 × (Nat → Int32) :=
  if n ≤ v_6731 then (((v_6732, f_6733) : Int32 × (Nat → Int32))) else (Lt (E_w_fact v_6731 5 f1) (fun r_7460 => Lp (α := Int32 → Int32 → Int32 → (Nat → Int32) → (Int32 × (Nat → Int32))) (E_w_coalBy_n_l27 y br fs f1 f2 v_6731 rec_7457) (fun _ _ _ _ => ((0, fun _ => 0) : Int32 × (Nat → Int32))) ((61 - (0 : Int32).toInt : Int).toNat + 1) 0 r_7460 v_6732 f_6733))
set_option maxRecDepth 100000 in
noncomputable def E_w_coalBy_n (y : Int32) (br : Int32) (fs : Nat → Int32) (fw : Nat → Int32) (n : Int32) (lt : Int32) (nf : Int32) (fi : Int32) (f1 : Nat → Int32) (f2 : Nat → Int32) (f3 : Nat → Int32) (fl : Nat → Option Nat) : Int32 × (Nat → Int32) :=
  Lp (α := Int32 → Int32 → (Nat → Int32) → (Int32 × (Nat → Int32))) (E_w_coalBy_n_l6 y br fs n f1 f2) (fun _ _ _ => ((0, fun _ => 0) : Int32 × (Nat → Int32))) ((9 - (0 : Int32).toInt : Int).toNat + 1) 0 0 fw
set_option maxHeartbeats 4000000 in
set_option maxRecDepth 100000 in
theorem w_coalBy_n (l : Launch) (D : va_G) (K : Nat → ClassId) (g : Nat → Nat) (L : Nat → Prop) (G : Nat → LC) (p0 : Nat) (t0 : Nat) (y : Int32) (a0 : Nat) (p_1 : Value) (p_2 : Value) (p_3 : Value) (p_4 : Value) (p_5 : Value) (m0 : Nat) (w0 : Nat) (m1 : Nat) (br : Int32) (fs : Nat → Int32) (fw : Nat → Int32) (t1 : Nat) (t3 : Nat) (t2 : Nat) (l0 : Nat) (n : Int32) (lt : Int32) (nf : Int32) (fi : Int32) (k_8 : Value) (k_9 : Value) (f1 : Nat → Int32) (gt : Nat → Int32) (f2 : Nat → Int32) (f3 : Nat → Int32) (gc : Nat → Int32) (fl : Nat → Option Nat) (sz : Nat) (zn : 0 ≤ n.toInt ∧ n.toInt ≤ 8) (zlt : 0 ≤ lt.toInt ∧ lt.toInt ≤ 6) (zbr : 0 ≤ br.toInt ∧ br.toInt ≤ 1) (zy : 1 ≤ y.toInt ∧ y.toInt ≤ 60) (zgt : FzC gt f1) (zgc : FzH gc f3) (zfl : InL L fl) : Met l yX5_coalBy wsX5_coalBy ({ frames := 2, cells := 0, slots := 0, locals := 48 }) (va_Pc [.ref p0, .ref t0, .null, .int y] (PreY D K [(p0, .inr (5, [.ref a0, p_1, p_2, p_3, p_4, p_5])), (a0, .inr (0, [.ref m0, .ref w0])), (m0, .inr (3, [.ref m1, .int br])), (m1, .inl (K 0, 64, .inl fs)), (w0, .inl (K 0, 9, .inl fw)), (t0, .inr (9, [.ref t1, .ref t3, .ref t2, .ref l0, .int n, .int lt, .int nf, .int fi, k_8, k_9])), (t1, .inl (K 0, 56, .inl f1)), (t2, .inl (K 0, 6, .inl f2)), (t3, .inl (K 0, 24, .inl f3)), (l0, .inl (K 4, 6, .inr (.inr (.inr (.inr fl)))))] [] sz g L G (va_A [(p0, .inr (5, [.ref a0, p_1, p_2, p_3, p_4, p_5])), (a0, .inr (0, [.ref m0, .ref w0])), (m0, .inr (3, [.ref m1, .int br])), (m1, .inl (K 0, 64, .inl fs)), (w0, .inl (K 0, 9, .inl fw)), (t0, .inr (9, [.ref t1, .ref t3, .ref t2, .ref l0, .int n, .int lt, .int nf, .int fi, k_8, k_9])), (t1, .inl (K 0, 56, .inl f1)), (t2, .inl (K 0, 6, .inl f2)), (t3, .inl (K 0, 24, .inl f3)), (l0, .inl (K 4, 6, .inr (.inr (.inr (.inr fl)))))] sz))) (va_Qi (S := Su) (fun (r : Int32) (u : Su) => ((r, (u.2.1 0)) = E_w_coalBy_n y br fs fw n lt nf fi f1 f2 f3 fl) ∧ True) (fun u t => Wd D (va_A [(p0, .inr (5, [.ref a0, p_1, p_2, p_3, p_4, p_5])), (a0, .inr (0, [.ref m0, .ref w0])), (m0, .inr (3, [.ref m1, .int br])), (m1, .inl (K 0, 64, .inl fs)), (w0, .inl (K 0, 9, .inl fw)), (t0, .inr (9, [.ref t1, .ref t3, .ref t2, .ref l0, .int n, .int lt, .int nf, .int fi, k_8, k_9])), (t1, .inl (K 0, 56, .inl f1)), (t2, .inl (K 0, 6, .inl f2)), (t3, .inl (K 0, 24, .inl f3)), (l0, .inl (K 4, 6, .inr (.inr (.inr (.inr fl)))))] sz) ((fun u => [(p0, .inr (5, [.ref a0, p_1, p_2, p_3, p_4, p_5])), (a0, .inr (0, [.ref m0, .ref w0])), (m0, .inr (3, [.ref m1, .int br])), (m1, .inl (K 0, 64, .inl fs)), (w0, .inl (K 0, 9, .inl (u.2.1 0))), (t0, .inr (9, [.ref t1, .ref t3, .ref t2, .ref l0, .int n, .int lt, .int nf, .int fi, k_8, k_9])), (t1, .inl (K 0, 56, .inl f1)), (t2, .inl (K 0, 6, .inl f2)), (t3, .inl (K 0, 24, .inl f3)), (l0, .inl (K 4, 6, .inr (.inr (.inr (.inr fl)))))]) u) t) (va_A [(p0, .inr (5, [.ref a0, p_1, p_2, p_3, p_4, p_5])), (a0, .inr (0, [.ref m0, .ref w0])), (m0, .inr (3, [.ref m1, .int br])), (m1, .inl (K 0, 64, .inl fs)), (w0, .inl (K 0, 9, .inl fw)), (t0, .inr (9, [.ref t1, .ref t3, .ref t2, .ref l0, .int n, .int lt, .int nf, .int fi, k_8, k_9])), (t1, .inl (K 0, 56, .inl f1)), (t2, .inl (K 0, 6, .inl f2)), (t3, .inl (K 0, 24, .inl f3)), (l0, .inl (K 4, 6, .inr (.inr (.inr (.inr fl)))))] sz)) 0 0 (va_A [(p0, .inr (5, [.ref a0, p_1, p_2, p_3, p_4, p_5])), (a0, .inr (0, [.ref m0, .ref w0])), (m0, .inr (3, [.ref m1, .int br])), (m1, .inl (K 0, 64, .inl fs)), (w0, .inl (K 0, 9, .inl fw)), (t0, .inr (9, [.ref t1, .ref t3, .ref t2, .ref l0, .int n, .int lt, .int nf, .int fi, k_8, k_9])), (t1, .inl (K 0, 56, .inl f1)), (t2, .inl (K 0, 6, .inl f2)), (t3, .inl (K 0, 24, .inl f3)), (l0, .inl (K 4, 6, .inr (.inr (.inr (.inr fl)))))] sz) := by
  refine Met.ofW (cc := cX5_coalBy) (maxL := 8) (ret := (some .int)) (by decide +kernel) rfl ?_
  intro p e s m args below meth c s₁ B hml hv
  obtain ⟨rfl, ⟨hsz, hP, hK, hD0, hN⟩, hG, hPl, hRo⟩ := hv
  have hx := B.exec
  have hb := B.bytes
  have hr := B.returns
  have hts := atoms_spec (ws := wsX5_coalBy) B.pre
  have hown : s.vm.findClass RX5 = some m.cls := findClass_of_methodNamed B.named
  have hlocks := B.notSynchronized
  subst hsz
  have hD := hD0.self (sz := s.heap.size)
  generalize hAe : va_A [(p0, .inr (5, [.ref a0, p_1, p_2, p_3, p_4, p_5])), (a0, .inr (0, [.ref m0, .ref w0])), (m0, .inr (3, [.ref m1, .int br])), (m1, .inl (K 0, 64, .inl fs)), (w0, .inl (K 0, 9, .inl fw)), (t0, .inr (9, [.ref t1, .ref t3, .ref t2, .ref l0, .int n, .int lt, .int nf, .int fi, k_8, k_9])), (t1, .inl (K 0, 56, .inl f1)), (t2, .inl (K 0, 6, .inl f2)), (t3, .inl (K 0, 24, .inl f3)), (l0, .inl (K 4, 6, .inr (.inr (.inr (.inr fl)))))] s.heap.size = A at hD hG hPl hRo ⊢
  have hA : ∀ q : Nat, s.heap.size ≤ q → A q := fun q h => by rw [← hAe]; exact Or.inr h
  clear hAe
  have hS : va_S A s.heap s.heap [] := va_S.rf
  replace hP : va_P D vwCl [(p0, .inr (5, [.ref a0, p_1, p_2, p_3, p_4, p_5])), (a0, .inr (0, [.ref m0, .ref w0])), (m0, .inr (3, [.ref m1, .int br])), (m1, .inl (K 0, 64, .inl fs)), (w0, .inl (K 0, 9, .inl fw)), (t0, .inr (9, [.ref t1, .ref t3, .ref t2, .ref l0, .int n, .int lt, .int nf, .int fi, k_8, k_9])), (t1, .inl (K 0, 56, .inl f1)), (t2, .inl (K 0, 6, .inl f2)), (t3, .inl (K 0, 24, .inl f3)), (l0, .inl (K 4, 6, .inr (.inr (.inr (.inr fl)))))] s.heap := hP
  have hl := lv_entry [.ref p0, .ref t0, .null, .int y] (n := 8) (Nat.le_of_ble_eq_true rfl)
  rw [lg_entry_eq]
  generalize (lg_sl [.ref p0, .ref t0, .null, .int y] ++ List.replicate (8 - (lg_sl [.ref p0, .ref t0, .null, .int y]).length) Slot.unset).toArray = ls at hl ⊢
  have hl : lv_has ls 8 [(0, .ref p0), (1, .ref t0), (2, .null), (3, .int y)] := hl
  have hw0 : ∀ w ∈ wsX00, w ∈ wsX5_coalBy := fun w h => (List.mem_cons_of_mem _ (List.mem_append_left _ (List.mem_append_left _ (List.mem_append_right _ h))))
  have hw3 : ∀ w ∈ wsX30, w ∈ wsX5_coalBy := fun w h => (List.mem_cons_of_mem _ (List.mem_append_right _ h))
  have hw5 : ∀ w ∈ wsX50, w ∈ wsX5_coalBy := fun w h => (List.mem_cons_of_mem _ (List.mem_append_left _ (List.mem_append_left _ (List.mem_append_left _ (List.mem_append_right _ h)))))
  have hw7 : ∀ w ∈ wsX70, w ∈ wsX5_coalBy := fun w h => (List.mem_cons_of_mem _ (List.mem_append_left _ (List.mem_append_right _ h)))
  have hw9 : ∀ w ∈ wsX90, w ∈ wsX5_coalBy := fun w h => (List.mem_cons_of_mem _ (List.mem_append_left _ (List.mem_append_left _ (List.mem_append_left _ (List.mem_append_left _ (List.mem_append_right _ h))))))
  generalize hQ : MQ below _ _ s _ _ _ = Q
  have hE := E_w_coalBy_n.eq_def y br fs fw n lt nf fi f1 f2 f3 fl
  refine lv_iconst (v := 0) hx hb dX5_coalBy_0 (by decide +kernel) ?_
  refine lv_istore (lv' := [(4, .int 0), (0, .ref p0), (1, .ref t0), (2, .null), (3, .int y)]) hx hb dX5_coalBy_1 hl (by decide +kernel) rfl (fun ls hl => ?_)
  refine lv_iconst (v := 0) hx hb dX5_coalBy_3 (by decide +kernel) ?_
  refine lv_istore (lv' := [(5, .int 0), (4, .int 0), (0, .ref p0), (1, .ref t0), (2, .null), (3, .int y)]) hx hb dX5_coalBy_4 hl (by decide +kernel) rfl (fun ls hl => ?_)
  have lp_7457 : ∀ (nn_ : Nat) (v_6731 : Int32) (v_6732 : Int32) (f_6733 : Nat → Int32) (hv_6731 : 0 ≤ v_6731.toInt ∧ v_6731.toInt ≤ 8) (hn : (9 - v_6731.toInt : Int).toNat < nn_) (hE : E_w_coalBy_n y br fs fw n lt nf fi f1 f2 f3 fl = Lp (α := Int32 → Int32 → (Nat → Int32) → (Int32 × (Nat → Int32))) (E_w_coalBy_n_l6 y br fs n f1 f2) (fun _ _ _ => ((0, fun _ => 0) : Int32 × (Nat → Int32))) nn_ v_6731 v_6732 f_6733) (H : Heap) (locs : List Loc) (hP : va_P D vwCl [(p0, .inr (5, [.ref a0, p_1, p_2, p_3, p_4, p_5])), (a0, .inr (0, [.ref m0, .ref w0])), (m0, .inr (3, [.ref m1, .int br])), (m1, .inl (K 0, 64, .inl fs)), (w0, .inl (K 0, 9, .inl f_6733)), (t0, .inr (9, [.ref t1, .ref t3, .ref t2, .ref l0, .int n, .int lt, .int nf, .int fi, k_8, k_9])), (t1, .inl (K 0, 56, .inl f1)), (t2, .inl (K 0, 6, .inl f2)), (t3, .inl (K 0, 24, .inl f3)), (l0, .inl (K 4, 6, .inr (.inr (.inr (.inr fl)))))] H) (hD : va_D A [(p0, .inr (5, [.ref a0, p_1, p_2, p_3, p_4, p_5])), (a0, .inr (0, [.ref m0, .ref w0])), (m0, .inr (3, [.ref m1, .int br])), (m1, .inl (K 0, 64, .inl fs)), (w0, .inl (K 0, 9, .inl f_6733)), (t0, .inr (9, [.ref t1, .ref t3, .ref t2, .ref l0, .int n, .int lt, .int nf, .int fi, k_8, k_9])), (t1, .inl (K 0, 56, .inl f1)), (t2, .inl (K 0, 6, .inl f2)), (t3, .inl (K 0, 24, .inl f3)), (l0, .inl (K 4, 6, .inr (.inr (.inr (.inr fl)))))]) (hS : va_S A s.heap H locs) (ls : Array Slot) (hl : lv_has ls 8 [(5, .int v_6731), (4, .int v_6732), (0, .ref p0), (1, .ref t0), (2, .null), (3, .int y)]), W p l e ({ frames := 2, cells := 0, slots := 0, locals := 48 }) s m (([.ref p0, .ref t0, .null, .int y] : List Value).toArray) below meth c H locs 0 0 Q (F0 m 6 ls []) := by
    clear hE hP hD hS hl
    intro nn_
    induction nn_ with
    | zero =>
      intro v_6731 v_6732 f_6733 hv_6731 hn hE H locs hP hD hS ls hl
      exact absurd hn (Nat.not_lt_zero _)
    | succ nn_ ih_7458 =>
      intro v_6731 v_6732 f_6733 hv_6731 hn hE H locs hP hD hS ls hl
      replace hE : E_w_coalBy_n y br fs fw n lt nf fi f1 f2 f3 fl = E_w_coalBy_n_l6 y br fs n f1 f2 (Lp (α := Int32 → Int32 → (Nat → Int32) → (Int32 × (Nat → Int32))) (E_w_coalBy_n_l6 y br fs n f1 f2) (fun _ _ _ => ((0, fun _ => 0) : Int32 × (Nat → Int32))) nn_) v_6731 v_6732 f_6733 := hE
      obtain ⟨rec_7457, hrec_7457⟩ : ∃ z9, z9 = Lp (α := Int32 → Int32 → (Nat → Int32) → (Int32 × (Nat → Int32))) (E_w_coalBy_n_l6 y br fs n f1 f2) (fun _ _ _ => ((0, fun _ => 0) : Int32 × (Nat → Int32))) nn_ := ⟨_, rfl⟩
      rw [← hrec_7457] at hE
      replace hE := hE.trans (E_w_coalBy_n_l6.eq_def _ _ _ _ _ _ _ _ _ _)
      refine lv_iload hx hb dX5_coalBy_6 (lv_at hl 0 rfl) ?_
      refine lv_aload_n hx hb dX5_coalBy_8 rfl (lv_at hl 3 rfl) ?_
      refine va_getN (ci := 9) (v := .int n) (C := RX9) (T := TX9) (N := 10) hx hb hts hw9 hown hK hP 5 rfl rfl 4 (by decide +kernel) (nst_use hN 108 rfl) (fun _ h9 => h9) rfl dX5_coalBy_9 ?_
      refine lv_icmp_ge (tgt := 124) hx hb dX5_coalBy_12 (by decide +kernel) (fun c_7459 => ?_) (fun c_7459 => ?_)
      · have c_7459i := i_le (x := n.toInt) (y := v_6731.toInt) rfl rfl c_7459
        replace hE := hE.trans (if_pos c_7459)
        refine lv_iload hx hb dX5_coalBy_124 (lv_at hl 1 rfl) ?_
        rw [← hQ]
        have hP9 := hP.sub (ws' := [(p0, .inr (5, [.ref a0, p_1, p_2, p_3, p_4, p_5])), (a0, .inr (0, [.ref m0, .ref w0])), (m0, .inr (3, [.ref m1, .int br])), (m1, .inl (K 0, 64, .inl fs)), (w0, .inl (K 0, 9, .inl f_6733)), (t0, .inr (9, [.ref t1, .ref t3, .ref t2, .ref l0, .int n, .int lt, .int nf, .int fi, k_8, k_9])), (t1, .inl (K 0, 56, .inl f1)), (t2, .inl (K 0, 6, .inl f2)), (t3, .inl (K 0, 24, .inl f3)), (l0, .inl (K 4, 6, .inr (.inr (.inr (.inr fl)))))]) [0, 1, 2, 3, 4, 5, 6, 7, 8, 9] rfl
        have hD9 := hD.sub (ws' := [(p0, .inr (5, [.ref a0, p_1, p_2, p_3, p_4, p_5])), (a0, .inr (0, [.ref m0, .ref w0])), (m0, .inr (3, [.ref m1, .int br])), (m1, .inl (K 0, 64, .inl fs)), (w0, .inl (K 0, 9, .inl f_6733)), (t0, .inr (9, [.ref t1, .ref t3, .ref t2, .ref l0, .int n, .int lt, .int nf, .int fi, k_8, k_9])), (t1, .inl (K 0, 56, .inl f1)), (t2, .inl (K 0, 6, .inl f2)), (t3, .inl (K 0, 24, .inl f3)), (l0, .inl (K 4, 6, .inr (.inr (.inr (.inr fl)))))]) [0, 1, 2, 3, 4, 5, 6, 7, 8, 9] (by decide +kernel) rfl
        exact W.iret (v := v_6732) hx hb hr (fun t ht hW => ⟨⟨v_6732, ((fun _ => 0, fun i => match i with | _ => f_6733, fun _ => fun _ => 0, fun _ => 0, fun _ => 0, fun _ => fun _ => none) : Su), rfl, ⟨hE.symm, trivial⟩, (⟨by rw [ht]; exact hP9, hD9⟩ : Wd D A _ t)⟩, hS.F ht⟩) hS.2.2 dX5_coalBy_126
      · have c_7459i := i_nle (x := n.toInt) (y := v_6731.toInt) rfl rfl c_7459
        replace hE := hE.trans (if_neg c_7459)
        refine lv_aload_n hx hb dX5_coalBy_15 rfl (lv_at hl 3 rfl) ?_
        refine lv_iload hx hb dX5_coalBy_16 (lv_at hl 0 rfl) ?_
        refine lv_iconst (v := 5) hx hb dX5_coalBy_18 (by decide +kernel) ?_
        refine pci (va_runVN (As := [.int v_6731, .int 5]) (rest := []) ⟨hx, hb, hml, hown, hts⟩ (w_fact l D K t0 v_6731 5 t1 (.ref t3) (.ref t2) (.ref l0) (.int n) (.int lt) (.int nf) (.int fi) k_8 k_9 f1 H.size) ⟨va_cnB 2 hts gX5_coalBy_X9_fact_n42 rfl rfl rfl (nst_at hN 81 rfl) (hts _ mm_X5_coalBy_145) (by decide +kernel) ⟨Nat.le_of_ble_eq_true rfl, Nat.le_of_ble_eq_true rfl⟩, (hts _ mm_X5_coalBy_381), (hts _ mm_X5_coalBy_2)⟩ (mkV hK hN (hP.sub [5, 6] rfl) (hD.sub [5, 6] (by decide +kernel) rfl) (ci := 9) (q0 := 0) rfl rfl) rfl rfl hl.1 rfl (lv_room (Nat.le_of_ble_eq_true rfl)) dX5_coalBy_19 ⟨Nat.le_of_ble_eq_true rfl, Nat.le_of_ble_eq_true rfl⟩) (fun r_7460 hw => ?_)
        obtain ⟨k_7461, -⟩ := hw
        replace hE := hE.trans (Lt_in k_7461)
        refine lv_istore (lv' := [(6, .int r_7460), (5, .int v_6731), (4, .int v_6732), (0, .ref p0), (1, .ref t0), (2, .null), (3, .int y)]) hx hb dX5_coalBy_22 hl (by decide +kernel) rfl (fun ls hl => ?_)
        refine lv_iconst (v := 0) hx hb dX5_coalBy_24 (by decide +kernel) ?_
        refine lv_istore (lv' := [(7, .int 0), (6, .int r_7460), (5, .int v_6731), (4, .int v_6732), (0, .ref p0), (1, .ref t0), (2, .null), (3, .int y)]) hx hb dX5_coalBy_25 hl (by decide +kernel) rfl (fun ls hl => ?_)
        have lp_7768 : ∀ (nn_ : Nat) (v_7664 : Int32) (v_7665 : Int32) (v_7666 : Int32) (f_7667 : Nat → Int32) (hv_7664 : 0 ≤ v_7664.toInt ∧ v_7664.toInt ≤ 60) (hn : (61 - v_7664.toInt : Int).toNat < nn_) (hE : E_w_coalBy_n y br fs fw n lt nf fi f1 f2 f3 fl = Lp (α := Int32 → Int32 → Int32 → (Nat → Int32) → (Int32 × (Nat → Int32))) (E_w_coalBy_n_l27 y br fs f1 f2 v_6731 rec_7457) (fun _ _ _ _ => ((0, fun _ => 0) : Int32 × (Nat → Int32))) nn_ v_7664 v_7665 v_7666 f_7667) (H : Heap) (locs : List Loc) (hP : va_P D vwCl [(p0, .inr (5, [.ref a0, p_1, p_2, p_3, p_4, p_5])), (a0, .inr (0, [.ref m0, .ref w0])), (m0, .inr (3, [.ref m1, .int br])), (m1, .inl (K 0, 64, .inl fs)), (w0, .inl (K 0, 9, .inl f_7667)), (t0, .inr (9, [.ref t1, .ref t3, .ref t2, .ref l0, .int n, .int lt, .int nf, .int fi, k_8, k_9])), (t1, .inl (K 0, 56, .inl f1)), (t2, .inl (K 0, 6, .inl f2)), (t3, .inl (K 0, 24, .inl f3)), (l0, .inl (K 4, 6, .inr (.inr (.inr (.inr fl)))))] H) (hD : va_D A [(p0, .inr (5, [.ref a0, p_1, p_2, p_3, p_4, p_5])), (a0, .inr (0, [.ref m0, .ref w0])), (m0, .inr (3, [.ref m1, .int br])), (m1, .inl (K 0, 64, .inl fs)), (w0, .inl (K 0, 9, .inl f_7667)), (t0, .inr (9, [.ref t1, .ref t3, .ref t2, .ref l0, .int n, .int lt, .int nf, .int fi, k_8, k_9])), (t1, .inl (K 0, 56, .inl f1)), (t2, .inl (K 0, 6, .inl f2)), (t3, .inl (K 0, 24, .inl f3)), (l0, .inl (K 4, 6, .inr (.inr (.inr (.inr fl)))))]) (hS : va_S A s.heap H locs) (ls : Array Slot) (hl : lv_has ls 8 [(7, .int v_7664), (6, .int v_7665), (5, .int v_6731), (4, .int v_7666), (0, .ref p0), (1, .ref t0), (2, .null), (3, .int y)]), W p l e ({ frames := 2, cells := 0, slots := 0, locals := 48 }) s m (([.ref p0, .ref t0, .null, .int y] : List Value).toArray) below meth c H locs 0 0 Q (F0 m 27 ls []) := by
          clear hE hP hD hS hl
          intro nn_
          induction nn_ with
          | zero =>
            intro v_7664 v_7665 v_7666 f_7667 hv_7664 hn hE H locs hP hD hS ls hl
            exact absurd hn (Nat.not_lt_zero _)
          | succ nn_ ih_7769 =>
            intro v_7664 v_7665 v_7666 f_7667 hv_7664 hn hE H locs hP hD hS ls hl
            replace hE : E_w_coalBy_n y br fs fw n lt nf fi f1 f2 f3 fl = E_w_coalBy_n_l27 y br fs f1 f2 v_6731 rec_7457 (Lp (α := Int32 → Int32 → Int32 → (Nat → Int32) → (Int32 × (Nat → Int32))) (E_w_coalBy_n_l27 y br fs f1 f2 v_6731 rec_7457) (fun _ _ _ _ => ((0, fun _ => 0) : Int32 × (Nat → Int32))) nn_) v_7664 v_7665 v_7666 f_7667 := hE
            obtain ⟨rec_7768, hrec_7768⟩ : ∃ z9, z9 = Lp (α := Int32 → Int32 → Int32 → (Nat → Int32) → (Int32 × (Nat → Int32))) (E_w_coalBy_n_l27 y br fs f1 f2 v_6731 rec_7457) (fun _ _ _ _ => ((0, fun _ => 0) : Int32 × (Nat → Int32))) nn_ := ⟨_, rfl⟩
            rw [← hrec_7768] at hE
            replace hE := hE.trans (E_w_coalBy_n_l27.eq_def _ _ _ _ _ _ _ _ _ _ _ _)
            refine lv_iload hx hb dX5_coalBy_27 (lv_at hl 0 rfl) ?_
            refine lv_iload_n hx hb dX5_coalBy_29 rfl (lv_at hl 7 rfl) ?_
            refine lv_icmp_ge (tgt := 118) hx hb dX5_coalBy_30 (by decide +kernel) (fun c_7770 => ?_) (fun c_7770 => ?_)
            · have c_7770i := i_le (x := y.toInt) (y := v_7664.toInt) rfl rfl c_7770
              replace hE := hE.trans (if_pos c_7770)
              obtain ⟨x_7771, ex_7771⟩ : ∃ y : Int32, y = v_6731 + Int32.ofInt 1 := ⟨_, rfl⟩
              replace hE := hE.trans (Lt_in ex_7771)
              have hx_7771 : x_7771.toInt = (v_6731.toInt + 1) := by rw [ex_7771]; exact i_add rfl (show (Int32.ofInt 1).toInt = 1 from rfl) (by omega)
              refine lv_iinc (v := x_7771) (lv' := [(5, .int x_7771), (7, .int v_7664), (6, .int v_7665), (4, .int v_7666), (0, .ref p0), (1, .ref t0), (2, .null), (3, .int y)]) hx hb dX5_coalBy_118 hl (k := 2) rfl (by rw [ex_7771]) (by decide +kernel) rfl (fun ls hl => ?_)
              refine lv_goto (tgt := 6) hx hb dX5_coalBy_121 (by decide +kernel) ?_
              exact ih_7458 x_7771 v_7666 f_7667 (by rw [hx_7771]; omega) (by omega) (hE.trans (by rw [hrec_7457])) _ _ hP hD hS ls (lv_sub hl [0, 3, 4, 5, 6, 7] rfl)
            · have c_7770i := i_nle (x := y.toInt) (y := v_7664.toInt) rfl rfl c_7770
              replace hE := hE.trans (if_neg c_7770)
              refine lv_iload hx hb dX5_coalBy_33 (lv_at hl 1 rfl) ?_
              refine lv_aload_n hx hb dX5_coalBy_35 rfl (lv_at hl 5 rfl) ?_
              refine va_getN (ci := 9) (v := .ref t2) (C := RX9) (T := TX9) (N := 10) hx hb hts hw9 hown hK hP 5 rfl rfl 2 (by decide +kernel) (nst_use hN 103 rfl) (fun _ h9 => h9) rfl dX5_coalBy_36 ?_
              refine lv_iconst (v := 2) hx hb dX5_coalBy_39 (by decide +kernel) ?_
              refine va_iald hx hb hK hP 7 0 rfl rfl (i_in (x := 2) rfl (by omega)) dX5_coalBy_40 ?_
              refine lv_topi (fun x_7772 ex_7772 => ?_)
              replace hE := hE.trans (Lt_in ex_7772)
              have j_7797 : ∀ (v_7784 : Int32) (v_7785 : Int32) (f_7786 : Nat → Int32) (hE : E_w_coalBy_n y br fs fw n lt nf fi f1 f2 f3 fl = E_w_coalBy_n_j80 br fs f1 f2 v_6731 v_7664 rec_7768 v_7784 v_7785 f_7786) (H : Heap) (locs : List Loc) (hP : va_P D vwCl [(p0, .inr (5, [.ref a0, p_1, p_2, p_3, p_4, p_5])), (a0, .inr (0, [.ref m0, .ref w0])), (m0, .inr (3, [.ref m1, .int br])), (m1, .inl (K 0, 64, .inl fs)), (w0, .inl (K 0, 9, .inl f_7786)), (t0, .inr (9, [.ref t1, .ref t3, .ref t2, .ref l0, .int n, .int lt, .int nf, .int fi, k_8, k_9])), (t1, .inl (K 0, 56, .inl f1)), (t2, .inl (K 0, 6, .inl f2)), (t3, .inl (K 0, 24, .inl f3)), (l0, .inl (K 4, 6, .inr (.inr (.inr (.inr fl)))))] H) (hD : va_D A [(p0, .inr (5, [.ref a0, p_1, p_2, p_3, p_4, p_5])), (a0, .inr (0, [.ref m0, .ref w0])), (m0, .inr (3, [.ref m1, .int br])), (m1, .inl (K 0, 64, .inl fs)), (w0, .inl (K 0, 9, .inl f_7786)), (t0, .inr (9, [.ref t1, .ref t3, .ref t2, .ref l0, .int n, .int lt, .int nf, .int fi, k_8, k_9])), (t1, .inl (K 0, 56, .inl f1)), (t2, .inl (K 0, 6, .inl f2)), (t3, .inl (K 0, 24, .inl f3)), (l0, .inl (K 4, 6, .inr (.inr (.inr (.inr fl)))))]) (hS : va_S A s.heap H locs) (ls : Array Slot) (hl : lv_has ls 8 [(7, .int v_7664), (6, .int v_7784), (5, .int v_6731), (4, .int v_7785), (0, .ref p0), (1, .ref t0), (2, .null), (3, .int y)]), W p l e ({ frames := 2, cells := 0, slots := 0, locals := 48 }) s m (([.ref p0, .ref t0, .null, .int y] : List Value).toArray) below meth c H locs 0 0 Q (F0 m 80 ls []) := by
                clear hE hP hD hS hl
                intro v_7784 v_7785 f_7786 hE H locs hP hD hS ls hl
                replace hE := hE.trans (E_w_coalBy_n_j80.eq_def _ _ _ _ _ _ _ _ _ _)
                refine lv_aload_n hx hb dX5_coalBy_80 rfl (lv_at hl 4 rfl) ?_
                refine va_get (ci := 5) (v := .ref a0) (C := RX5) (T := TX5) (N := 6) hx hb hts hw5 hown hK hP 0 rfl rfl 0 (by decide +kernel) (hts _ mm_X5_coalBy_307) (fun _ h9 => h9) rfl dX5_coalBy_81 ?_
                refine lv_aload_n hx hb dX5_coalBy_84 rfl (lv_at hl 5 rfl) ?_
                refine lv_iload hx hb dX5_coalBy_85 (lv_at hl 2 rfl) ?_
                refine lv_iload hx hb dX5_coalBy_87 (lv_at hl 1 rfl) ?_
                refine lv_iload hx hb dX5_coalBy_89 (lv_at hl 0 rfl) ?_
                refine kcv (S := Su) (wr := [(p0, .inr (5, [.ref a0, p_1, p_2, p_3, p_4, p_5])), (m0, .inr (3, [.ref m1, .int br])), (m1, .inl (K 0, 64, .inl fs)), (t3, .inl (K 0, 24, .inl f3)), (l0, .inl (K 4, 6, .inr (.inr (.inr (.inr fl)))))]) (va_runVN (As := [.ref t0, .int v_6731, .int v_7784, .int v_7664]) (rest := []) ⟨hx, hb, hml, hown, hts⟩ (w_face l D K a0 t0 v_6731 v_7784 v_7664 (.ref m0) w0 f_7786 t1 (.ref t3) t2 (.ref l0) (.int n) (.int lt) (.int nf) (.int fi) k_8 k_9 f1 f2 H.size) ⟨va_cnB 4 hts gX5_coalBy_X0_face_n56 rfl rfl rfl (nst_at hN 78 rfl) (hts _ mm_X5_coalBy_151) (by decide +kernel) ⟨Nat.le_of_ble_eq_true rfl, Nat.le_of_ble_eq_true rfl⟩, (hts _ mm_X5_coalBy_404), (hts _ mm_X5_coalBy_10)⟩ (mkV hK hN (hP.sub [1, 4, 5, 6, 7] rfl) (hD.sub [1, 4, 5, 6, 7] (by decide +kernel) rfl) (ci := 0) (q0 := 0) rfl rfl) rfl rfl hl.1 rfl (lv_room (Nat.le_of_ble_eq_true rfl)) dX5_coalBy_91 ⟨Nat.le_of_ble_eq_true rfl, Nat.le_of_ble_eq_true rfl⟩) hP hD hS hA [1, 4, 5, 6, 7] [0, 2, 3, 8, 9] rfl rfl (by decide +kernel) (by decide +kernel) (fun u_7799 H locs hw hP0 hD0 hS0 => ?_)
                clear hP hD hS
                have hP := hP0
                have hD := hD0
                have hS := hS0
                clear hP0 hD0 hS0
                replace hP : va_P D vwCl [(p0, .inr (5, [.ref a0, p_1, p_2, p_3, p_4, p_5])), (m0, .inr (3, [.ref m1, .int br])), (m1, .inl (K 0, 64, .inl fs)), (t3, .inl (K 0, 24, .inl f3)), (l0, .inl (K 4, 6, .inr (.inr (.inr (.inr fl))))), (a0, .inr (0, [.ref m0, .ref w0])), (w0, .inl (K 0, 9, .inl (u_7799.2.1 0))), (t0, .inr (9, [.ref t1, .ref t3, .ref t2, .ref l0, .int n, .int lt, .int nf, .int fi, k_8, k_9])), (t1, .inl (K 0, 56, .inl f1)), (t2, .inl (K 0, 6, .inl f2))] H := hP
                replace hD : va_D A [(p0, .inr (5, [.ref a0, p_1, p_2, p_3, p_4, p_5])), (m0, .inr (3, [.ref m1, .int br])), (m1, .inl (K 0, 64, .inl fs)), (t3, .inl (K 0, 24, .inl f3)), (l0, .inl (K 4, 6, .inr (.inr (.inr (.inr fl))))), (a0, .inr (0, [.ref m0, .ref w0])), (w0, .inl (K 0, 9, .inl (u_7799.2.1 0))), (t0, .inr (9, [.ref t1, .ref t3, .ref t2, .ref l0, .int n, .int lt, .int nf, .int fi, k_8, k_9])), (t1, .inl (K 0, 56, .inl f1)), (t2, .inl (K 0, 6, .inl f2))] := hD
                obtain ⟨k_7800, -⟩ := hw
                replace hE := hE.trans (Lt_in k_7800)
                refine lv_iconst (v := 0) hx hb dX5_coalBy_94 (by decide +kernel) ?_
                refine lv_iload hx hb dX5_coalBy_95 (lv_at hl 1 rfl) ?_
                refine lv_aload_n hx hb dX5_coalBy_97 rfl (lv_at hl 4 rfl) ?_
                refine va_get (ci := 5) (v := .ref a0) (C := RX5) (T := TX5) (N := 6) hx hb hts hw5 hown hK hP 0 rfl rfl 0 (by decide +kernel) (hts _ mm_X5_coalBy_307) (fun _ h9 => h9) rfl dX5_coalBy_98 ?_
                refine lv_aload_nN hx hb dX5_coalBy_101 rfl (lv_at hl 6 rfl) ?_
                refine lv_iconst (v := 0) hx hb dX5_coalBy_102 (by decide +kernel) ?_
                refine kci (S := Su) (wr := [(p0, .inr (5, [.ref a0, p_1, p_2, p_3, p_4, p_5])), (t3, .inl (K 0, 24, .inl f3)), (l0, .inl (K 4, 6, .inr (.inr (.inr (.inr fl))))), (t0, .inr (9, [.ref t1, .ref t3, .ref t2, .ref l0, .int n, .int lt, .int nf, .int fi, k_8, k_9])), (t1, .inl (K 0, 56, .inl f1)), (t2, .inl (K 0, 6, .inl f2))]) (va_runVN (As := [.null, .int 0]) (rest := [.int v_7784, .int 0]) ⟨hx, hb, hml, hown, hts⟩ (w_told_n l D K g L G a0 0 m0 w0 m1 br fs (u_7799.2.1 0) H.size (by first | omega | decide) (by first | omega | decide)) ⟨va_cnB 2 hts gX5_coalBy_X0_told_n60 rfl rfl rfl (nst_at hN 79 rfl) (hts _ mm_X5_coalBy_151) (by decide +kernel) ⟨Nat.le_of_ble_eq_true rfl, Nat.le_of_ble_eq_true rfl⟩, (hts _ mm_X5_coalBy_411), (hts _ mm_X5_coalBy_13)⟩ (mkVY hK hN (hP.sub [5, 1, 2, 6] rfl) (hD.sub [5, 1, 2, 6] (by decide +kernel) rfl) (ci := 0) (q0 := 0) rfl rfl (fun U hU hW => ⟨Gl.at hG hS hW hU (fun q h => va_free hD hS hA [5, 1, 2, 6] rfl q h), Pool.at hPl hS hU (fun q h => va_free hD hS hA [5, 1, 2, 6] rfl q h), Ro.heap hU (Ro.nil)⟩)) rfl rfl hl.1 rfl (lv_room (Nat.le_of_ble_eq_true rfl)) dX5_coalBy_103 ⟨Nat.le_of_ble_eq_true rfl, Nat.le_of_ble_eq_true rfl⟩) hP hD hS hA [5, 1, 2, 6] [0, 3, 4, 7, 8, 9] rfl rfl (by decide +kernel) (by decide +kernel) (fun r_7801 u_7802 H locs hw hP0 hD0 hS0 => ?_)
                clear hP hD hS
                have hP := hP0
                have hD := hD0
                have hS := hS0
                clear hP0 hD0 hS0
                replace hP : va_P D vwCl [(p0, .inr (5, [.ref a0, p_1, p_2, p_3, p_4, p_5])), (t3, .inl (K 0, 24, .inl f3)), (l0, .inl (K 4, 6, .inr (.inr (.inr (.inr fl))))), (t0, .inr (9, [.ref t1, .ref t3, .ref t2, .ref l0, .int n, .int lt, .int nf, .int fi, k_8, k_9])), (t1, .inl (K 0, 56, .inl f1)), (t2, .inl (K 0, 6, .inl f2)), (a0, .inr (0, [.ref m0, .ref w0])), (m0, .inr (3, [.ref m1, .int br])), (m1, .inl (K 0, 64, .inl fs)), (w0, .inl (K 0, 9, .inl (u_7799.2.1 0)))] H := hP
                replace hD : va_D A [(p0, .inr (5, [.ref a0, p_1, p_2, p_3, p_4, p_5])), (t3, .inl (K 0, 24, .inl f3)), (l0, .inl (K 4, 6, .inr (.inr (.inr (.inr fl))))), (t0, .inr (9, [.ref t1, .ref t3, .ref t2, .ref l0, .int n, .int lt, .int nf, .int fi, k_8, k_9])), (t1, .inl (K 0, 56, .inl f1)), (t2, .inl (K 0, 6, .inl f2)), (a0, .inr (0, [.ref m0, .ref w0])), (m0, .inr (3, [.ref m1, .int br])), (m1, .inl (K 0, 64, .inl fs)), (w0, .inl (K 0, 9, .inl (u_7799.2.1 0)))] := hD
                obtain ⟨h_7804, k_7803, -⟩ := hw
                replace hE := hE.trans (Lt_in k_7803)
                refine lv_isub hx hb dX5_coalBy_106 ?_
                refine lv_topi (fun x_7805 ex_7805 => ?_)
                replace hE := hE.trans (Lt_in ex_7805)
                refine va_mmax hx hb (hml.trans hl.1.symm) hown (hts _ mm_X5_coalBy_692) (hts _ mm_X5_coalBy_418) (hts _ mm_X5_coalBy_157) (hts _ mm_X5_coalBy_419) (Nat.le_of_ble_eq_true rfl) (Nat.le_of_ble_eq_true rfl) (Nat.le_of_ble_eq_true rfl) (Nat.le_of_ble_eq_true rfl) dX5_coalBy_107 ?_
                refine lv_topi (fun x_7806 ex_7806 => ?_)
                replace hE := hE.trans (Lt_in ex_7806)
                have hx_7806 : (x_7805.toInt ≤ 0 ∧ x_7806.toInt = 0) ∨ (0 < x_7805.toInt ∧ x_7806.toInt = x_7805.toInt) := by rw [ex_7806]; exact i_max (show (0 : Int32).toInt = 0 from rfl) rfl
                replace hx_7806 : x_7805.toInt ≤ x_7806.toInt ∧ 0 ≤ x_7806.toInt := by omega
                refine lv_istore (lv' := [(6, .int x_7806), (7, .int v_7664), (5, .int v_6731), (4, .int v_7785), (0, .ref p0), (1, .ref t0), (2, .null), (3, .int y)]) hx hb dX5_coalBy_110 hl (by decide +kernel) rfl (fun ls hl => ?_)
                obtain ⟨x_7807, ex_7807⟩ : ∃ y : Int32, y = v_7664 + Int32.ofInt 1 := ⟨_, rfl⟩
                replace hE := hE.trans (Lt_in ex_7807)
                have hx_7807 : x_7807.toInt = (v_7664.toInt + 1) := by rw [ex_7807]; exact i_add rfl (show (Int32.ofInt 1).toInt = 1 from rfl) (by omega)
                refine lv_iinc (v := x_7807) (lv' := [(7, .int x_7807), (6, .int x_7806), (5, .int v_6731), (4, .int v_7785), (0, .ref p0), (1, .ref t0), (2, .null), (3, .int y)]) hx hb dX5_coalBy_112 hl (k := 1) rfl (by rw [ex_7807]) (by decide +kernel) rfl (fun ls hl => ?_)
                refine lv_goto (tgt := 27) hx hb dX5_coalBy_115 (by decide +kernel) ?_
                exact ih_7769 x_7807 x_7806 v_7785 (u_7799.2.1 0) (by rw [hx_7807]; omega) (by omega) (hE.trans (by rw [hrec_7768])) _ _ (hP.sub [0, 6, 7, 8, 9, 3, 4, 5, 1, 2] rfl) (hD.sub [0, 6, 7, 8, 9, 3, 4, 5, 1, 2] (by decide +kernel) rfl) hS ls (lv_sub hl [0, 1, 2, 3, 4, 5, 6, 7] rfl)
              refine lv_icmp_ge (tgt := 80) hx hb dX5_coalBy_41 (by decide +kernel) (fun c_7808 => ?_) (fun c_7808 => ?_)
              · have c_7808i := i_le (x := x_7772.toInt) (y := v_7665.toInt) rfl rfl c_7808
                replace hE := hE.trans (if_pos c_7808)
                exact j_7797 v_7665 v_7666 f_7667  hE _ _ hP hD hS ls (lv_sub hl [0, 1, 2, 3, 4, 5, 6, 7] rfl)
              · have c_7808i := i_nle (x := x_7772.toInt) (y := v_7665.toInt) rfl rfl c_7808
                replace hE := hE.trans (if_neg c_7808)
                refine lv_aload_n hx hb dX5_coalBy_44 rfl (lv_at hl 4 rfl) ?_
                refine va_get (ci := 5) (v := .ref a0) (C := RX5) (T := TX5) (N := 6) hx hb hts hw5 hown hK hP 0 rfl rfl 0 (by decide +kernel) (hts _ mm_X5_coalBy_307) (fun _ h9 => h9) rfl dX5_coalBy_45 ?_
                refine lv_aload_n hx hb dX5_coalBy_48 rfl (lv_at hl 5 rfl) ?_
                refine lv_iload hx hb dX5_coalBy_49 (lv_at hl 2 rfl) ?_
                refine lv_iload hx hb dX5_coalBy_51 (lv_at hl 1 rfl) ?_
                refine lv_iload hx hb dX5_coalBy_53 (lv_at hl 0 rfl) ?_
                refine kcv (S := Su) (wr := [(p0, .inr (5, [.ref a0, p_1, p_2, p_3, p_4, p_5])), (m0, .inr (3, [.ref m1, .int br])), (m1, .inl (K 0, 64, .inl fs)), (t3, .inl (K 0, 24, .inl f3)), (l0, .inl (K 4, 6, .inr (.inr (.inr (.inr fl)))))]) (va_runVN (As := [.ref t0, .int v_6731, .int v_7665, .int v_7664]) (rest := []) ⟨hx, hb, hml, hown, hts⟩ (w_face l D K a0 t0 v_6731 v_7665 v_7664 (.ref m0) w0 f_7667 t1 (.ref t3) t2 (.ref l0) (.int n) (.int lt) (.int nf) (.int fi) k_8 k_9 f1 f2 H.size) ⟨va_cnB 4 hts gX5_coalBy_X0_face_n56 rfl rfl rfl (nst_at hN 78 rfl) (hts _ mm_X5_coalBy_151) (by decide +kernel) ⟨Nat.le_of_ble_eq_true rfl, Nat.le_of_ble_eq_true rfl⟩, (hts _ mm_X5_coalBy_404), (hts _ mm_X5_coalBy_10)⟩ (mkV hK hN (hP.sub [1, 4, 5, 6, 7] rfl) (hD.sub [1, 4, 5, 6, 7] (by decide +kernel) rfl) (ci := 0) (q0 := 0) rfl rfl) rfl rfl hl.1 rfl (lv_room (Nat.le_of_ble_eq_true rfl)) dX5_coalBy_55 ⟨Nat.le_of_ble_eq_true rfl, Nat.le_of_ble_eq_true rfl⟩) hP hD hS hA [1, 4, 5, 6, 7] [0, 2, 3, 8, 9] rfl rfl (by decide +kernel) (by decide +kernel) (fun u_7810 H locs hw hP0 hD0 hS0 => ?_)
                clear hP hD hS
                have hP := hP0
                have hD := hD0
                have hS := hS0
                clear hP0 hD0 hS0
                replace hP : va_P D vwCl [(p0, .inr (5, [.ref a0, p_1, p_2, p_3, p_4, p_5])), (m0, .inr (3, [.ref m1, .int br])), (m1, .inl (K 0, 64, .inl fs)), (t3, .inl (K 0, 24, .inl f3)), (l0, .inl (K 4, 6, .inr (.inr (.inr (.inr fl))))), (a0, .inr (0, [.ref m0, .ref w0])), (w0, .inl (K 0, 9, .inl (u_7810.2.1 0))), (t0, .inr (9, [.ref t1, .ref t3, .ref t2, .ref l0, .int n, .int lt, .int nf, .int fi, k_8, k_9])), (t1, .inl (K 0, 56, .inl f1)), (t2, .inl (K 0, 6, .inl f2))] H := hP
                replace hD : va_D A [(p0, .inr (5, [.ref a0, p_1, p_2, p_3, p_4, p_5])), (m0, .inr (3, [.ref m1, .int br])), (m1, .inl (K 0, 64, .inl fs)), (t3, .inl (K 0, 24, .inl f3)), (l0, .inl (K 4, 6, .inr (.inr (.inr (.inr fl))))), (a0, .inr (0, [.ref m0, .ref w0])), (w0, .inl (K 0, 9, .inl (u_7810.2.1 0))), (t0, .inr (9, [.ref t1, .ref t3, .ref t2, .ref l0, .int n, .int lt, .int nf, .int fi, k_8, k_9])), (t1, .inl (K 0, 56, .inl f1)), (t2, .inl (K 0, 6, .inl f2))] := hD
                obtain ⟨k_7811, -⟩ := hw
                replace hE := hE.trans (Lt_in k_7811)
                refine lv_bipush (v := 20) hx hb dX5_coalBy_58 (by decide +kernel) ?_
                refine lv_iload hx hb dX5_coalBy_60 (lv_at hl 1 rfl) ?_
                refine lv_aload_n hx hb dX5_coalBy_62 rfl (lv_at hl 4 rfl) ?_
                refine va_get (ci := 5) (v := .ref a0) (C := RX5) (T := TX5) (N := 6) hx hb hts hw5 hown hK hP 0 rfl rfl 0 (by decide +kernel) (hts _ mm_X5_coalBy_307) (fun _ h9 => h9) rfl dX5_coalBy_63 ?_
                refine lv_aload_nN hx hb dX5_coalBy_66 rfl (lv_at hl 6 rfl) ?_
                refine lv_iconst (v := 1) hx hb dX5_coalBy_67 (by decide +kernel) ?_
                refine kci (S := Su) (wr := [(p0, .inr (5, [.ref a0, p_1, p_2, p_3, p_4, p_5])), (t3, .inl (K 0, 24, .inl f3)), (l0, .inl (K 4, 6, .inr (.inr (.inr (.inr fl))))), (t0, .inr (9, [.ref t1, .ref t3, .ref t2, .ref l0, .int n, .int lt, .int nf, .int fi, k_8, k_9])), (t1, .inl (K 0, 56, .inl f1)), (t2, .inl (K 0, 6, .inl f2))]) (va_runVN (As := [.null, .int 1]) (rest := [.int v_7665, .int 20]) ⟨hx, hb, hml, hown, hts⟩ (w_told_n l D K g L G a0 1 m0 w0 m1 br fs (u_7810.2.1 0) H.size (by first | omega | decide) (by first | omega | decide)) ⟨va_cnB 2 hts gX5_coalBy_X0_told_n60 rfl rfl rfl (nst_at hN 79 rfl) (hts _ mm_X5_coalBy_151) (by decide +kernel) ⟨Nat.le_of_ble_eq_true rfl, Nat.le_of_ble_eq_true rfl⟩, (hts _ mm_X5_coalBy_411), (hts _ mm_X5_coalBy_13)⟩ (mkVY hK hN (hP.sub [5, 1, 2, 6] rfl) (hD.sub [5, 1, 2, 6] (by decide +kernel) rfl) (ci := 0) (q0 := 0) rfl rfl (fun U hU hW => ⟨Gl.at hG hS hW hU (fun q h => va_free hD hS hA [5, 1, 2, 6] rfl q h), Pool.at hPl hS hU (fun q h => va_free hD hS hA [5, 1, 2, 6] rfl q h), Ro.heap hU (Ro.nil)⟩)) rfl rfl hl.1 rfl (lv_room (Nat.le_of_ble_eq_true rfl)) dX5_coalBy_68 ⟨Nat.le_of_ble_eq_true rfl, Nat.le_of_ble_eq_true rfl⟩) hP hD hS hA [5, 1, 2, 6] [0, 3, 4, 7, 8, 9] rfl rfl (by decide +kernel) (by decide +kernel) (fun r_7812 u_7813 H locs hw hP0 hD0 hS0 => ?_)
                clear hP hD hS
                have hP := hP0
                have hD := hD0
                have hS := hS0
                clear hP0 hD0 hS0
                replace hP : va_P D vwCl [(p0, .inr (5, [.ref a0, p_1, p_2, p_3, p_4, p_5])), (t3, .inl (K 0, 24, .inl f3)), (l0, .inl (K 4, 6, .inr (.inr (.inr (.inr fl))))), (t0, .inr (9, [.ref t1, .ref t3, .ref t2, .ref l0, .int n, .int lt, .int nf, .int fi, k_8, k_9])), (t1, .inl (K 0, 56, .inl f1)), (t2, .inl (K 0, 6, .inl f2)), (a0, .inr (0, [.ref m0, .ref w0])), (m0, .inr (3, [.ref m1, .int br])), (m1, .inl (K 0, 64, .inl fs)), (w0, .inl (K 0, 9, .inl (u_7810.2.1 0)))] H := hP
                replace hD : va_D A [(p0, .inr (5, [.ref a0, p_1, p_2, p_3, p_4, p_5])), (t3, .inl (K 0, 24, .inl f3)), (l0, .inl (K 4, 6, .inr (.inr (.inr (.inr fl))))), (t0, .inr (9, [.ref t1, .ref t3, .ref t2, .ref l0, .int n, .int lt, .int nf, .int fi, k_8, k_9])), (t1, .inl (K 0, 56, .inl f1)), (t2, .inl (K 0, 6, .inl f2)), (a0, .inr (0, [.ref m0, .ref w0])), (m0, .inr (3, [.ref m1, .int br])), (m1, .inl (K 0, 64, .inl fs)), (w0, .inl (K 0, 9, .inl (u_7810.2.1 0)))] := hD
                obtain ⟨h_7815, k_7814, -⟩ := hw
                replace hE := hE.trans (Lt_in k_7814)
                refine lv_iadd hx hb dX5_coalBy_71 ?_
                refine lv_topi (fun x_7816 ex_7816 => ?_)
                replace hE := hE.trans (Lt_in ex_7816)
                refine va_mmin hx hb (hml.trans hl.1.symm) hown (hts _ mm_X5_coalBy_688) (hts _ mm_X5_coalBy_426) (hts _ mm_X5_coalBy_157) (hts _ mm_X5_coalBy_427) (Nat.le_of_ble_eq_true rfl) (Nat.le_of_ble_eq_true rfl) (Nat.le_of_ble_eq_true rfl) (Nat.le_of_ble_eq_true rfl) dX5_coalBy_72 ?_
                refine lv_topi (fun x_7817 ex_7817 => ?_)
                replace hE := hE.trans (Lt_in ex_7817)
                have hx_7817 : (20 ≤ x_7816.toInt ∧ x_7817.toInt = 20) ∨ (x_7816.toInt < 20 ∧ x_7817.toInt = x_7816.toInt) := by rw [ex_7817]; exact i_min (show (20 : Int32).toInt = 20 from rfl) rfl
                replace hx_7817 : x_7817.toInt ≤ x_7816.toInt ∧ x_7817.toInt ≤ 20 := by omega
                refine lv_istore (lv' := [(6, .int x_7817), (7, .int v_7664), (5, .int v_6731), (4, .int v_7666), (0, .ref p0), (1, .ref t0), (2, .null), (3, .int y)]) hx hb dX5_coalBy_75 hl (by decide +kernel) rfl (fun ls hl => ?_)
                obtain ⟨x_7818, ex_7818⟩ : ∃ y : Int32, y = v_7666 + Int32.ofInt 1 := ⟨_, rfl⟩
                replace hE := hE.trans (Lt_in ex_7818)
                refine lv_iinc (v := x_7818) (lv' := [(4, .int x_7818), (6, .int x_7817), (7, .int v_7664), (5, .int v_6731), (0, .ref p0), (1, .ref t0), (2, .null), (3, .int y)]) hx hb dX5_coalBy_77 hl (k := 3) rfl (by rw [ex_7818]) (by decide +kernel) rfl (fun ls hl => ?_)
                exact j_7797 x_7817 x_7818 (u_7810.2.1 0)  hE _ _ (hP.sub [0, 6, 7, 8, 9, 3, 4, 5, 1, 2] rfl) (hD.sub [0, 6, 7, 8, 9, 3, 4, 5, 1, 2] (by decide +kernel) rfl) hS ls (lv_sub hl [2, 1, 3, 0, 4, 5, 6, 7] rfl)
        exact lp_7768 ((61 - (0 : Int32).toInt : Int).toNat + 1) 0 r_7460 v_6732 f_6733 (by decide +kernel) (Nat.lt_succ_self _) hE _ _ hP hD hS ls (lv_sub hl [0, 1, 2, 3, 4, 5, 6, 7] rfl)
  exact lp_7457 ((9 - (0 : Int32).toInt : Int).toNat + 1) 0 0 fw (by decide +kernel) (Nat.lt_succ_self _) hE _ _ hP hD hS ls (lv_sub hl [0, 1, 2, 3, 4, 5] rfl)
set_option maxRecDepth 100000 in
noncomputable def E_w_coalBy_j80 (lc_0 : Nat) (lc_1 : Nat) (lc_2 : Nat → Int32) (lc_3 : Nat → Int32) (lc_4 : Int32) (f1 : Nat → Int32) (f2 : Nat → Int32) (v_7717 : Int32) (v_8788 : Int32) (rec_8908 : Int32 → Int32 → Int32 → Int32 → (Nat → Int32) → (Nat → Int32) → (Int32 × Int32 × (Nat → Int32) × (Nat → Int32))) (v_8925 : Int32) (v_8926 : Int32) (v_8927 : Int32) (f_8928 : Nat → Int32) (f_8929 : Nat → Int32) : Int32 × Int32 × (Nat → Int32) × (Nat → Int32) :=
  Lt (E_w_face v_7717 v_8925 v_8788 f_8929 f1 f2) (fun u_8943_2_1_0 => Lt2 (E_w_told lc_0 lc_1 lc_2 lc_3 lc_4 0 v_8927 f_8928 u_8943_2_1_0) (fun r_8945 q0_r_8945 => Lt2 q0_r_8945 (fun u_8946_2_2_2_1_0 u_8946_2_1_0 => Lt (v_8925 - r_8945 : Int32) (fun x_8950 => Lt (if (0 : Int32) < (x_8950 : Int32) then (x_8950 : Int32) else (0 : Int32) : Int32) (fun x_8951 => Lt (v_8788 + Int32.ofInt 1 : Int32) (fun x_8952 => rec_8908 x_8952 x_8951 v_8926 u_8946_2_2_2_1_0 u_8946_2_1_0 u_8943_2_1_0))))))
set_option maxRecDepth 100000 in
noncomputable def E_w_coalBy_l27 (lc_0 : Nat) (lc_1 : Nat) (lc_2 : Nat → Int32) (lc_3 : Nat → Int32) (lc_4 : Int32) (y : Int32) (f1 : Nat → Int32) (f2 : Nat → Int32) (v_7717 : Int32) (rec_8551 : Int32 → Int32 → Int32 → (Nat → Int32) → (Nat → Int32) → (Int32 × Int32 × (Nat → Int32) × (Nat → Int32))) (rec_8908 : Int32 → Int32 → Int32 → Int32 → (Nat → Int32) → (Nat → Int32) → (Int32 × Int32 × (Nat → Int32) × (Nat → Int32))) (v_8788 : Int32) (v_8789 : Int32) (v_8790 : Int32) (v_8791 : Int32) (f_8792 : Nat → Int32) (f_8793 : Nat → Int32) : Int32 × Int32 × (Nat → Int32) × (Nat → Int32) :=
  if y ≤ v_8788 then (Lt (v_7717 + Int32.ofInt 1 : Int32) (fun x_8911 => rec_8551 x_8911 v_8790 v_8791 f_8792 f_8793)) else (Lt (f2 (2 : Int32).toNatClampNeg : Int32) (fun x_8912 => if x_8912 ≤ v_8789 then (E_w_coalBy_j80 lc_0 lc_1 lc_2 lc_3 lc_4 f1 f2 v_7717 v_8788 rec_8908 v_8789 v_8790 v_8791 f_8792 f_8793) else (Lt (E_w_face v_7717 v_8789 v_8788 f_8793 f1 f2) (fun u_8955_2_1_0 => Lt2 (E_w_told lc_0 lc_1 lc_2 lc_3 lc_4 1 v_8791 f_8792 u_8955_2_1_0) (fun r_8957 q0_r_8957 => Lt2 q0_r_8957 (fun u_8958_2_2_2_1_0 u_8958_2_1_0 => Lt (v_8789 + r_8957 : Int32) (fun x_8962 => Lt (if (x_8962 : Int32) < (20 : Int32) then (x_8962 : Int32) else (20 : Int32) : Int32) (fun x_8963 => Lt (v_8790 + Int32.ofInt 1 : Int32) (fun x_8964 => E_w_coalBy_j80 lc_0 lc_1 lc_2 lc_3 lc_4 f1 f2 v_7717 v_8788 rec_8908 x_8963 x_8964 u_8958_2_2_2_1_0 u_8958_2_1_0 u_8955_2_1_0)))))))))
set_option maxRecDepth 100000 in
noncomputable def E_w_coalBy_l6 (lc_0 : Nat) (lc_1 : Nat) (lc_2 : Nat → Int32) (lc_3 : Nat → Int32) (lc_4 : Int32) (y : Int32) (n : Int32) (f1 : Nat → Int32) (f2 : Nat → Int32) (rec_8551 : Int32 → Int32 → Int32 → (Nat → Int32) → (Nat → Int32) → (Int32 × Int32 × (Nat → Int32) × (Nat → Int32))) (v_7717 : Int32) (v_7718 : Int32) (v_7719 : Int32) (f_7720 : Nat → Int32) (f_7721 : Nat → Int32) : Int32 × Int32 × (Nat → Int32) × (Nat → Int32) :=
  if n ≤ v_7717 then (((v_7718, v_7719, f_7720, f_7721) : Int32 × Int32 × (Nat → Int32) × (Nat → Int32))) else (Lt (E_w_fact v_7717 5 f1) (fun r_8554 => Lp (α := Int32 → Int32 → Int32 → Int32 → (Nat → Int32) → (Nat → Int32) → (Int32 × Int32 × (Nat → Int32) × (Nat → Int32))) (E_w_coalBy_l27 lc_0 lc_1 lc_2 lc_3 lc_4 y f1 f2 v_7717 rec_8551) (fun _ _ _ _ _ _ => ((0, 0, fun _ => 0, fun _ => 0) : Int32 × Int32 × (Nat → Int32) × (Nat → Int32))) ((61 - (0 : Int32).toInt : Int).toNat + 1) 0 r_8554 v_7718 v_7719 f_7720 f_7721))
set_option maxRecDepth 100000 in
noncomputable def E_w_coalBy (lc_0 : Nat) (lc_1 : Nat) (lc_2 : Nat → Int32) (lc_3 : Nat → Int32) (lc_4 : Int32) (y : Int32) (br : Int32) (fs : Nat → Int32) (fw : Nat → Int32) (n : Int32) (lt : Int32) (nf : Int32) (fi : Int32) (f1 : Nat → Int32) (f2 : Nat → Int32) (f3 : Nat → Int32) (fl : Nat → Option Nat) : Int32 × Int32 × (Nat → Int32) × (Nat → Int32) :=
  Lp (α := Int32 → Int32 → Int32 → (Nat → Int32) → (Nat → Int32) → (Int32 × Int32 × (Nat → Int32) × (Nat → Int32))) (E_w_coalBy_l6 lc_0 lc_1 lc_2 lc_3 lc_4 y n f1 f2) (fun _ _ _ _ _ => ((0, 0, fun _ => 0, fun _ => 0) : Int32 × Int32 × (Nat → Int32) × (Nat → Int32))) ((9 - (0 : Int32).toInt : Int).toNat + 1) 0 0 br fs fw
set_option maxHeartbeats 4000000 in
set_option maxRecDepth 100000 in
theorem w_coalBy (l : Launch) (D : va_G) (K : Nat → ClassId) (g : Nat → Nat) (L : Nat → Prop) (G : Nat → LC) (p0 : Nat) (t0 : Nat) (q0 : Nat) (y : Int32) (a0 : Nat) (p_1 : Value) (p_2 : Value) (p_3 : Value) (p_4 : Value) (p_5 : Value) (m0 : Nat) (w0 : Nat) (m1 : Nat) (br : Int32) (fs : Nat → Int32) (fw : Nat → Int32) (t1 : Nat) (t3 : Nat) (t2 : Nat) (l0 : Nat) (n : Int32) (lt : Int32) (nf : Int32) (fi : Int32) (k_8 : Value) (k_9 : Value) (f1 : Nat → Int32) (gt : Nat → Int32) (f2 : Nat → Int32) (f3 : Nat → Int32) (gc : Nat → Int32) (fl : Nat → Option Nat) (sz : Nat) (hq0 : L q0) (zn : 0 ≤ n.toInt ∧ n.toInt ≤ 8) (zlt : 0 ≤ lt.toInt ∧ lt.toInt ≤ 6) (zbr : 0 ≤ br.toInt ∧ br.toInt ≤ 1) (zy : 1 ≤ y.toInt ∧ y.toInt ≤ 60) (zgt : FzC gt f1) (zgc : FzH gc f3) (zfl : InL L fl) : Met l yX5_coalBy wsX5_coalBy ({ frames := 3, cells := 0, slots := 0, locals := 81 }) (va_Pc [.ref p0, .ref t0, .ref q0, .int y] (PreY D K [(p0, .inr (5, [.ref a0, p_1, p_2, p_3, p_4, p_5])), (a0, .inr (0, [.ref m0, .ref w0])), (m0, .inr (3, [.ref m1, .int br])), (m1, .inl (K 0, 64, .inl fs)), (w0, .inl (K 0, 9, .inl fw)), (t0, .inr (9, [.ref t1, .ref t3, .ref t2, .ref l0, .int n, .int lt, .int nf, .int fi, k_8, k_9])), (t1, .inl (K 0, 56, .inl f1)), (t2, .inl (K 0, 6, .inl f2)), (t3, .inl (K 0, 24, .inl f3)), (l0, .inl (K 4, 6, .inr (.inr (.inr (.inr fl)))))] [] sz g L G (va_A [(p0, .inr (5, [.ref a0, p_1, p_2, p_3, p_4, p_5])), (a0, .inr (0, [.ref m0, .ref w0])), (m0, .inr (3, [.ref m1, .int br])), (m1, .inl (K 0, 64, .inl fs)), (w0, .inl (K 0, 9, .inl fw)), (t0, .inr (9, [.ref t1, .ref t3, .ref t2, .ref l0, .int n, .int lt, .int nf, .int fi, k_8, k_9])), (t1, .inl (K 0, 56, .inl f1)), (t2, .inl (K 0, 6, .inl f2)), (t3, .inl (K 0, 24, .inl f3)), (l0, .inl (K 4, 6, .inr (.inr (.inr (.inr fl)))))] sz))) (va_Qi (S := Su) (fun (r : Int32) (u : Su) => (0 ≤ (u.2.2.2.1 0).toInt ∧ (u.2.2.2.1 0).toInt ≤ 1) ∧ ((r, (u.2.2.2.1 0), (u.2.1 0), (u.2.1 1)) = E_w_coalBy (G q0).1 (G q0).2.1 (G q0).2.2.1 (G q0).2.2.2.1 (G q0).2.2.2.2.1 y br fs fw n lt nf fi f1 f2 f3 fl) ∧ True) (fun u t => Wd D (va_A [(p0, .inr (5, [.ref a0, p_1, p_2, p_3, p_4, p_5])), (a0, .inr (0, [.ref m0, .ref w0])), (m0, .inr (3, [.ref m1, .int br])), (m1, .inl (K 0, 64, .inl fs)), (w0, .inl (K 0, 9, .inl fw)), (t0, .inr (9, [.ref t1, .ref t3, .ref t2, .ref l0, .int n, .int lt, .int nf, .int fi, k_8, k_9])), (t1, .inl (K 0, 56, .inl f1)), (t2, .inl (K 0, 6, .inl f2)), (t3, .inl (K 0, 24, .inl f3)), (l0, .inl (K 4, 6, .inr (.inr (.inr (.inr fl)))))] sz) ((fun u => [(p0, .inr (5, [.ref a0, p_1, p_2, p_3, p_4, p_5])), (a0, .inr (0, [.ref m0, .ref w0])), (m0, .inr (3, [.ref m1, .int (u.2.2.2.1 0)])), (m1, .inl (K 0, 64, .inl (u.2.1 0))), (w0, .inl (K 0, 9, .inl (u.2.1 1))), (t0, .inr (9, [.ref t1, .ref t3, .ref t2, .ref l0, .int n, .int lt, .int nf, .int fi, k_8, k_9])), (t1, .inl (K 0, 56, .inl f1)), (t2, .inl (K 0, 6, .inl f2)), (t3, .inl (K 0, 24, .inl f3)), (l0, .inl (K 4, 6, .inr (.inr (.inr (.inr fl)))))]) u) t) (va_A [(p0, .inr (5, [.ref a0, p_1, p_2, p_3, p_4, p_5])), (a0, .inr (0, [.ref m0, .ref w0])), (m0, .inr (3, [.ref m1, .int br])), (m1, .inl (K 0, 64, .inl fs)), (w0, .inl (K 0, 9, .inl fw)), (t0, .inr (9, [.ref t1, .ref t3, .ref t2, .ref l0, .int n, .int lt, .int nf, .int fi, k_8, k_9])), (t1, .inl (K 0, 56, .inl f1)), (t2, .inl (K 0, 6, .inl f2)), (t3, .inl (K 0, 24, .inl f3)), (l0, .inl (K 4, 6, .inr (.inr (.inr (.inr fl)))))] sz)) 0 0 (va_A [(p0, .inr (5, [.ref a0, p_1, p_2, p_3, p_4, p_5])), (a0, .inr (0, [.ref m0, .ref w0])), (m0, .inr (3, [.ref m1, .int br])), (m1, .inl (K 0, 64, .inl fs)), (w0, .inl (K 0, 9, .inl fw)), (t0, .inr (9, [.ref t1, .ref t3, .ref t2, .ref l0, .int n, .int lt, .int nf, .int fi, k_8, k_9])), (t1, .inl (K 0, 56, .inl f1)), (t2, .inl (K 0, 6, .inl f2)), (t3, .inl (K 0, 24, .inl f3)), (l0, .inl (K 4, 6, .inr (.inr (.inr (.inr fl)))))] sz) := by
  refine Met.ofW (cc := cX5_coalBy) (maxL := 8) (ret := (some .int)) (by decide +kernel) rfl ?_
  intro p e s m args below meth c s₁ B hml hv
  obtain ⟨rfl, ⟨hsz, hP, hK, hD0, hN⟩, hG, hPl, hRo⟩ := hv
  have hx := B.exec
  have hb := B.bytes
  have hr := B.returns
  have hts := atoms_spec (ws := wsX5_coalBy) B.pre
  have hown : s.vm.findClass RX5 = some m.cls := findClass_of_methodNamed B.named
  have hlocks := B.notSynchronized
  subst hsz
  have hD := hD0.self (sz := s.heap.size)
  generalize hAe : va_A [(p0, .inr (5, [.ref a0, p_1, p_2, p_3, p_4, p_5])), (a0, .inr (0, [.ref m0, .ref w0])), (m0, .inr (3, [.ref m1, .int br])), (m1, .inl (K 0, 64, .inl fs)), (w0, .inl (K 0, 9, .inl fw)), (t0, .inr (9, [.ref t1, .ref t3, .ref t2, .ref l0, .int n, .int lt, .int nf, .int fi, k_8, k_9])), (t1, .inl (K 0, 56, .inl f1)), (t2, .inl (K 0, 6, .inl f2)), (t3, .inl (K 0, 24, .inl f3)), (l0, .inl (K 4, 6, .inr (.inr (.inr (.inr fl)))))] s.heap.size = A at hD hG hPl hRo ⊢
  have hA : ∀ q : Nat, s.heap.size ≤ q → A q := fun q h => by rw [← hAe]; exact Or.inr h
  clear hAe
  have hS : va_S A s.heap s.heap [] := va_S.rf
  replace hP : va_P D vwCl [(p0, .inr (5, [.ref a0, p_1, p_2, p_3, p_4, p_5])), (a0, .inr (0, [.ref m0, .ref w0])), (m0, .inr (3, [.ref m1, .int br])), (m1, .inl (K 0, 64, .inl fs)), (w0, .inl (K 0, 9, .inl fw)), (t0, .inr (9, [.ref t1, .ref t3, .ref t2, .ref l0, .int n, .int lt, .int nf, .int fi, k_8, k_9])), (t1, .inl (K 0, 56, .inl f1)), (t2, .inl (K 0, 6, .inl f2)), (t3, .inl (K 0, 24, .inl f3)), (l0, .inl (K 4, 6, .inr (.inr (.inr (.inr fl)))))] s.heap := hP
  have hl := lv_entry [.ref p0, .ref t0, .ref q0, .int y] (n := 8) (Nat.le_of_ble_eq_true rfl)
  rw [lg_entry_eq]
  generalize (lg_sl [.ref p0, .ref t0, .ref q0, .int y] ++ List.replicate (8 - (lg_sl [.ref p0, .ref t0, .ref q0, .int y]).length) Slot.unset).toArray = ls at hl ⊢
  have hl : lv_has ls 8 [(0, .ref p0), (1, .ref t0), (2, .ref q0), (3, .int y)] := hl
  have hw0 : ∀ w ∈ wsX00, w ∈ wsX5_coalBy := fun w h => (List.mem_cons_of_mem _ (List.mem_append_left _ (List.mem_append_left _ (List.mem_append_right _ h))))
  have hw3 : ∀ w ∈ wsX30, w ∈ wsX5_coalBy := fun w h => (List.mem_cons_of_mem _ (List.mem_append_right _ h))
  have hw5 : ∀ w ∈ wsX50, w ∈ wsX5_coalBy := fun w h => (List.mem_cons_of_mem _ (List.mem_append_left _ (List.mem_append_left _ (List.mem_append_left _ (List.mem_append_right _ h)))))
  have hw7 : ∀ w ∈ wsX70, w ∈ wsX5_coalBy := fun w h => (List.mem_cons_of_mem _ (List.mem_append_left _ (List.mem_append_right _ h)))
  have hw9 : ∀ w ∈ wsX90, w ∈ wsX5_coalBy := fun w h => (List.mem_cons_of_mem _ (List.mem_append_left _ (List.mem_append_left _ (List.mem_append_left _ (List.mem_append_left _ (List.mem_append_right _ h))))))
  generalize hQ : MQ below _ _ s _ _ _ = Q
  have hE := E_w_coalBy.eq_def ((G q0).1) ((G q0).2.1) ((G q0).2.2.1) ((G q0).2.2.2.1) ((G q0).2.2.2.2.1) y br fs fw n lt nf fi f1 f2 f3 fl
  refine lv_iconst (v := 0) hx hb dX5_coalBy_0 (by decide +kernel) ?_
  refine lv_istore (lv' := [(4, .int 0), (0, .ref p0), (1, .ref t0), (2, .ref q0), (3, .int y)]) hx hb dX5_coalBy_1 hl (by decide +kernel) rfl (fun ls hl => ?_)
  refine lv_iconst (v := 0) hx hb dX5_coalBy_3 (by decide +kernel) ?_
  refine lv_istore (lv' := [(5, .int 0), (4, .int 0), (0, .ref p0), (1, .ref t0), (2, .ref q0), (3, .int y)]) hx hb dX5_coalBy_4 hl (by decide +kernel) rfl (fun ls hl => ?_)
  have lp_8551 : ∀ (nn_ : Nat) (v_7717 : Int32) (v_7718 : Int32) (v_7719 : Int32) (f_7720 : Nat → Int32) (f_7721 : Nat → Int32) (hv_7717 : 0 ≤ v_7717.toInt ∧ v_7717.toInt ≤ 8) (hv_7719 : 0 ≤ v_7719.toInt ∧ v_7719.toInt ≤ 1) (hn : (9 - v_7717.toInt : Int).toNat < nn_) (hE : E_w_coalBy (G q0).1 (G q0).2.1 (G q0).2.2.1 (G q0).2.2.2.1 (G q0).2.2.2.2.1 y br fs fw n lt nf fi f1 f2 f3 fl = Lp (α := Int32 → Int32 → Int32 → (Nat → Int32) → (Nat → Int32) → (Int32 × Int32 × (Nat → Int32) × (Nat → Int32))) (E_w_coalBy_l6 ((G q0).1) ((G q0).2.1) ((G q0).2.2.1) ((G q0).2.2.2.1) ((G q0).2.2.2.2.1) y n f1 f2) (fun _ _ _ _ _ => ((0, 0, fun _ => 0, fun _ => 0) : Int32 × Int32 × (Nat → Int32) × (Nat → Int32))) nn_ v_7717 v_7718 v_7719 f_7720 f_7721) (H : Heap) (locs : List Loc) (hP : va_P D vwCl [(p0, .inr (5, [.ref a0, p_1, p_2, p_3, p_4, p_5])), (a0, .inr (0, [.ref m0, .ref w0])), (m0, .inr (3, [.ref m1, .int v_7719])), (m1, .inl (K 0, 64, .inl f_7720)), (w0, .inl (K 0, 9, .inl f_7721)), (t0, .inr (9, [.ref t1, .ref t3, .ref t2, .ref l0, .int n, .int lt, .int nf, .int fi, k_8, k_9])), (t1, .inl (K 0, 56, .inl f1)), (t2, .inl (K 0, 6, .inl f2)), (t3, .inl (K 0, 24, .inl f3)), (l0, .inl (K 4, 6, .inr (.inr (.inr (.inr fl)))))] H) (hD : va_D A [(p0, .inr (5, [.ref a0, p_1, p_2, p_3, p_4, p_5])), (a0, .inr (0, [.ref m0, .ref w0])), (m0, .inr (3, [.ref m1, .int v_7719])), (m1, .inl (K 0, 64, .inl f_7720)), (w0, .inl (K 0, 9, .inl f_7721)), (t0, .inr (9, [.ref t1, .ref t3, .ref t2, .ref l0, .int n, .int lt, .int nf, .int fi, k_8, k_9])), (t1, .inl (K 0, 56, .inl f1)), (t2, .inl (K 0, 6, .inl f2)), (t3, .inl (K 0, 24, .inl f3)), (l0, .inl (K 4, 6, .inr (.inr (.inr (.inr fl)))))]) (hS : va_S A s.heap H locs) (ls : Array Slot) (hl : lv_has ls 8 [(5, .int v_7717), (4, .int v_7718), (0, .ref p0), (1, .ref t0), (2, .ref q0), (3, .int y)]), W p l e ({ frames := 3, cells := 0, slots := 0, locals := 81 }) s m (([.ref p0, .ref t0, .ref q0, .int y] : List Value).toArray) below meth c H locs 0 0 Q (F0 m 6 ls []) := by
    clear hE hP hD hS hl
    intro nn_
    induction nn_ with
    | zero =>
      intro v_7717 v_7718 v_7719 f_7720 f_7721 hv_7717 hv_7719 hn hE H locs hP hD hS ls hl
      exact absurd hn (Nat.not_lt_zero _)
    | succ nn_ ih_8552 =>
      intro v_7717 v_7718 v_7719 f_7720 f_7721 hv_7717 hv_7719 hn hE H locs hP hD hS ls hl
      replace hE : E_w_coalBy (G q0).1 (G q0).2.1 (G q0).2.2.1 (G q0).2.2.2.1 (G q0).2.2.2.2.1 y br fs fw n lt nf fi f1 f2 f3 fl = E_w_coalBy_l6 ((G q0).1) ((G q0).2.1) ((G q0).2.2.1) ((G q0).2.2.2.1) ((G q0).2.2.2.2.1) y n f1 f2 (Lp (α := Int32 → Int32 → Int32 → (Nat → Int32) → (Nat → Int32) → (Int32 × Int32 × (Nat → Int32) × (Nat → Int32))) (E_w_coalBy_l6 ((G q0).1) ((G q0).2.1) ((G q0).2.2.1) ((G q0).2.2.2.1) ((G q0).2.2.2.2.1) y n f1 f2) (fun _ _ _ _ _ => ((0, 0, fun _ => 0, fun _ => 0) : Int32 × Int32 × (Nat → Int32) × (Nat → Int32))) nn_) v_7717 v_7718 v_7719 f_7720 f_7721 := hE
      obtain ⟨rec_8551, hrec_8551⟩ : ∃ z9, z9 = Lp (α := Int32 → Int32 → Int32 → (Nat → Int32) → (Nat → Int32) → (Int32 × Int32 × (Nat → Int32) × (Nat → Int32))) (E_w_coalBy_l6 ((G q0).1) ((G q0).2.1) ((G q0).2.2.1) ((G q0).2.2.2.1) ((G q0).2.2.2.2.1) y n f1 f2) (fun _ _ _ _ _ => ((0, 0, fun _ => 0, fun _ => 0) : Int32 × Int32 × (Nat → Int32) × (Nat → Int32))) nn_ := ⟨_, rfl⟩
      rw [← hrec_8551] at hE
      replace hE := hE.trans (E_w_coalBy_l6.eq_def _ _ _ _ _ _ _ _ _ _ _ _ _ _ _)
      refine lv_iload hx hb dX5_coalBy_6 (lv_at hl 0 rfl) ?_
      refine lv_aload_n hx hb dX5_coalBy_8 rfl (lv_at hl 3 rfl) ?_
      refine va_getN (ci := 9) (v := .int n) (C := RX9) (T := TX9) (N := 10) hx hb hts hw9 hown hK hP 5 rfl rfl 4 (by decide +kernel) (nst_use hN 108 rfl) (fun _ h9 => h9) rfl dX5_coalBy_9 ?_
      refine lv_icmp_ge (tgt := 124) hx hb dX5_coalBy_12 (by decide +kernel) (fun c_8553 => ?_) (fun c_8553 => ?_)
      · have c_8553i := i_le (x := n.toInt) (y := v_7717.toInt) rfl rfl c_8553
        replace hE := hE.trans (if_pos c_8553)
        refine lv_iload hx hb dX5_coalBy_124 (lv_at hl 1 rfl) ?_
        rw [← hQ]
        have hP9 := hP.sub (ws' := [(p0, .inr (5, [.ref a0, p_1, p_2, p_3, p_4, p_5])), (a0, .inr (0, [.ref m0, .ref w0])), (m0, .inr (3, [.ref m1, .int v_7719])), (m1, .inl (K 0, 64, .inl f_7720)), (w0, .inl (K 0, 9, .inl f_7721)), (t0, .inr (9, [.ref t1, .ref t3, .ref t2, .ref l0, .int n, .int lt, .int nf, .int fi, k_8, k_9])), (t1, .inl (K 0, 56, .inl f1)), (t2, .inl (K 0, 6, .inl f2)), (t3, .inl (K 0, 24, .inl f3)), (l0, .inl (K 4, 6, .inr (.inr (.inr (.inr fl)))))]) [0, 1, 2, 3, 4, 5, 6, 7, 8, 9] rfl
        have hD9 := hD.sub (ws' := [(p0, .inr (5, [.ref a0, p_1, p_2, p_3, p_4, p_5])), (a0, .inr (0, [.ref m0, .ref w0])), (m0, .inr (3, [.ref m1, .int v_7719])), (m1, .inl (K 0, 64, .inl f_7720)), (w0, .inl (K 0, 9, .inl f_7721)), (t0, .inr (9, [.ref t1, .ref t3, .ref t2, .ref l0, .int n, .int lt, .int nf, .int fi, k_8, k_9])), (t1, .inl (K 0, 56, .inl f1)), (t2, .inl (K 0, 6, .inl f2)), (t3, .inl (K 0, 24, .inl f3)), (l0, .inl (K 4, 6, .inr (.inr (.inr (.inr fl)))))]) [0, 1, 2, 3, 4, 5, 6, 7, 8, 9] (by decide +kernel) rfl
        exact W.iret (v := v_7718) hx hb hr (fun t ht hW => ⟨⟨v_7718, ((fun _ => 0, fun i => match i with | 0 => f_7720 | _ => f_7721, fun _ => fun _ => 0, fun i => match i with | _ => v_7719, fun _ => 0, fun _ => fun _ => none) : Su), rfl, ⟨(show 0 ≤ (v_7719 : Int32).toInt ∧ (v_7719 : Int32).toInt ≤ 1 by omega), hE.symm, trivial⟩, (⟨by rw [ht]; exact hP9, hD9⟩ : Wd D A _ t)⟩, hS.F ht⟩) hS.2.2 dX5_coalBy_126
      · have c_8553i := i_nle (x := n.toInt) (y := v_7717.toInt) rfl rfl c_8553
        replace hE := hE.trans (if_neg c_8553)
        refine lv_aload_n hx hb dX5_coalBy_15 rfl (lv_at hl 3 rfl) ?_
        refine lv_iload hx hb dX5_coalBy_16 (lv_at hl 0 rfl) ?_
        refine lv_iconst (v := 5) hx hb dX5_coalBy_18 (by decide +kernel) ?_
        refine pci (va_runVN (As := [.int v_7717, .int 5]) (rest := []) ⟨hx, hb, hml, hown, hts⟩ (w_fact l D K t0 v_7717 5 t1 (.ref t3) (.ref t2) (.ref l0) (.int n) (.int lt) (.int nf) (.int fi) k_8 k_9 f1 H.size) ⟨va_cnB 2 hts gX5_coalBy_X9_fact_n42 rfl rfl rfl (nst_at hN 81 rfl) (hts _ mm_X5_coalBy_145) (by decide +kernel) ⟨Nat.le_of_ble_eq_true rfl, Nat.le_of_ble_eq_true rfl⟩, (hts _ mm_X5_coalBy_381), (hts _ mm_X5_coalBy_2)⟩ (mkV hK hN (hP.sub [5, 6] rfl) (hD.sub [5, 6] (by decide +kernel) rfl) (ci := 9) (q0 := 0) rfl rfl) rfl rfl hl.1 rfl (lv_room (Nat.le_of_ble_eq_true rfl)) dX5_coalBy_19 ⟨Nat.le_of_ble_eq_true rfl, Nat.le_of_ble_eq_true rfl⟩) (fun r_8554 hw => ?_)
        obtain ⟨k_8555, -⟩ := hw
        replace hE := hE.trans (Lt_in k_8555)
        refine lv_istore (lv' := [(6, .int r_8554), (5, .int v_7717), (4, .int v_7718), (0, .ref p0), (1, .ref t0), (2, .ref q0), (3, .int y)]) hx hb dX5_coalBy_22 hl (by decide +kernel) rfl (fun ls hl => ?_)
        refine lv_iconst (v := 0) hx hb dX5_coalBy_24 (by decide +kernel) ?_
        refine lv_istore (lv' := [(7, .int 0), (6, .int r_8554), (5, .int v_7717), (4, .int v_7718), (0, .ref p0), (1, .ref t0), (2, .ref q0), (3, .int y)]) hx hb dX5_coalBy_25 hl (by decide +kernel) rfl (fun ls hl => ?_)
        have lp_8908 : ∀ (nn_ : Nat) (v_8788 : Int32) (v_8789 : Int32) (v_8790 : Int32) (v_8791 : Int32) (f_8792 : Nat → Int32) (f_8793 : Nat → Int32) (hv_8788 : 0 ≤ v_8788.toInt ∧ v_8788.toInt ≤ 60) (hv_8791 : 0 ≤ v_8791.toInt ∧ v_8791.toInt ≤ 1) (hn : (61 - v_8788.toInt : Int).toNat < nn_) (hE : E_w_coalBy (G q0).1 (G q0).2.1 (G q0).2.2.1 (G q0).2.2.2.1 (G q0).2.2.2.2.1 y br fs fw n lt nf fi f1 f2 f3 fl = Lp (α := Int32 → Int32 → Int32 → Int32 → (Nat → Int32) → (Nat → Int32) → (Int32 × Int32 × (Nat → Int32) × (Nat → Int32))) (E_w_coalBy_l27 ((G q0).1) ((G q0).2.1) ((G q0).2.2.1) ((G q0).2.2.2.1) ((G q0).2.2.2.2.1) y f1 f2 v_7717 rec_8551) (fun _ _ _ _ _ _ => ((0, 0, fun _ => 0, fun _ => 0) : Int32 × Int32 × (Nat → Int32) × (Nat → Int32))) nn_ v_8788 v_8789 v_8790 v_8791 f_8792 f_8793) (H : Heap) (locs : List Loc) (hP : va_P D vwCl [(p0, .inr (5, [.ref a0, p_1, p_2, p_3, p_4, p_5])), (a0, .inr (0, [.ref m0, .ref w0])), (m0, .inr (3, [.ref m1, .int v_8791])), (m1, .inl (K 0, 64, .inl f_8792)), (w0, .inl (K 0, 9, .inl f_8793)), (t0, .inr (9, [.ref t1, .ref t3, .ref t2, .ref l0, .int n, .int lt, .int nf, .int fi, k_8, k_9])), (t1, .inl (K 0, 56, .inl f1)), (t2, .inl (K 0, 6, .inl f2)), (t3, .inl (K 0, 24, .inl f3)), (l0, .inl (K 4, 6, .inr (.inr (.inr (.inr fl)))))] H) (hD : va_D A [(p0, .inr (5, [.ref a0, p_1, p_2, p_3, p_4, p_5])), (a0, .inr (0, [.ref m0, .ref w0])), (m0, .inr (3, [.ref m1, .int v_8791])), (m1, .inl (K 0, 64, .inl f_8792)), (w0, .inl (K 0, 9, .inl f_8793)), (t0, .inr (9, [.ref t1, .ref t3, .ref t2, .ref l0, .int n, .int lt, .int nf, .int fi, k_8, k_9])), (t1, .inl (K 0, 56, .inl f1)), (t2, .inl (K 0, 6, .inl f2)), (t3, .inl (K 0, 24, .inl f3)), (l0, .inl (K 4, 6, .inr (.inr (.inr (.inr fl)))))]) (hS : va_S A s.heap H locs) (ls : Array Slot) (hl : lv_has ls 8 [(7, .int v_8788), (6, .int v_8789), (5, .int v_7717), (4, .int v_8790), (0, .ref p0), (1, .ref t0), (2, .ref q0), (3, .int y)]), W p l e ({ frames := 3, cells := 0, slots := 0, locals := 81 }) s m (([.ref p0, .ref t0, .ref q0, .int y] : List Value).toArray) below meth c H locs 0 0 Q (F0 m 27 ls []) := by
          clear hE hP hD hS hl
          intro nn_
          induction nn_ with
          | zero =>
            intro v_8788 v_8789 v_8790 v_8791 f_8792 f_8793 hv_8788 hv_8791 hn hE H locs hP hD hS ls hl
            exact absurd hn (Nat.not_lt_zero _)
          | succ nn_ ih_8909 =>
            intro v_8788 v_8789 v_8790 v_8791 f_8792 f_8793 hv_8788 hv_8791 hn hE H locs hP hD hS ls hl
            replace hE : E_w_coalBy (G q0).1 (G q0).2.1 (G q0).2.2.1 (G q0).2.2.2.1 (G q0).2.2.2.2.1 y br fs fw n lt nf fi f1 f2 f3 fl = E_w_coalBy_l27 ((G q0).1) ((G q0).2.1) ((G q0).2.2.1) ((G q0).2.2.2.1) ((G q0).2.2.2.2.1) y f1 f2 v_7717 rec_8551 (Lp (α := Int32 → Int32 → Int32 → Int32 → (Nat → Int32) → (Nat → Int32) → (Int32 × Int32 × (Nat → Int32) × (Nat → Int32))) (E_w_coalBy_l27 ((G q0).1) ((G q0).2.1) ((G q0).2.2.1) ((G q0).2.2.2.1) ((G q0).2.2.2.2.1) y f1 f2 v_7717 rec_8551) (fun _ _ _ _ _ _ => ((0, 0, fun _ => 0, fun _ => 0) : Int32 × Int32 × (Nat → Int32) × (Nat → Int32))) nn_) v_8788 v_8789 v_8790 v_8791 f_8792 f_8793 := hE
            obtain ⟨rec_8908, hrec_8908⟩ : ∃ z9, z9 = Lp (α := Int32 → Int32 → Int32 → Int32 → (Nat → Int32) → (Nat → Int32) → (Int32 × Int32 × (Nat → Int32) × (Nat → Int32))) (E_w_coalBy_l27 ((G q0).1) ((G q0).2.1) ((G q0).2.2.1) ((G q0).2.2.2.1) ((G q0).2.2.2.2.1) y f1 f2 v_7717 rec_8551) (fun _ _ _ _ _ _ => ((0, 0, fun _ => 0, fun _ => 0) : Int32 × Int32 × (Nat → Int32) × (Nat → Int32))) nn_ := ⟨_, rfl⟩
            rw [← hrec_8908] at hE
            replace hE := hE.trans (E_w_coalBy_l27.eq_def _ _ _ _ _ _ _ _ _ _ _ _ _ _ _ _ _)
            refine lv_iload hx hb dX5_coalBy_27 (lv_at hl 0 rfl) ?_
            refine lv_iload_n hx hb dX5_coalBy_29 rfl (lv_at hl 7 rfl) ?_
            refine lv_icmp_ge (tgt := 118) hx hb dX5_coalBy_30 (by decide +kernel) (fun c_8910 => ?_) (fun c_8910 => ?_)
            · have c_8910i := i_le (x := y.toInt) (y := v_8788.toInt) rfl rfl c_8910
              replace hE := hE.trans (if_pos c_8910)
              obtain ⟨x_8911, ex_8911⟩ : ∃ y : Int32, y = v_7717 + Int32.ofInt 1 := ⟨_, rfl⟩
              replace hE := hE.trans (Lt_in ex_8911)
              have hx_8911 : x_8911.toInt = (v_7717.toInt + 1) := by rw [ex_8911]; exact i_add rfl (show (Int32.ofInt 1).toInt = 1 from rfl) (by omega)
              refine lv_iinc (v := x_8911) (lv' := [(5, .int x_8911), (7, .int v_8788), (6, .int v_8789), (4, .int v_8790), (0, .ref p0), (1, .ref t0), (2, .ref q0), (3, .int y)]) hx hb dX5_coalBy_118 hl (k := 2) rfl (by rw [ex_8911]) (by decide +kernel) rfl (fun ls hl => ?_)
              refine lv_goto (tgt := 6) hx hb dX5_coalBy_121 (by decide +kernel) ?_
              exact ih_8552 x_8911 v_8790 v_8791 f_8792 f_8793 (by rw [hx_8911]; omega) (by omega) (by omega) (hE.trans (by rw [hrec_8551])) _ _ hP hD hS ls (lv_sub hl [0, 3, 4, 5, 6, 7] rfl)
            · have c_8910i := i_nle (x := y.toInt) (y := v_8788.toInt) rfl rfl c_8910
              replace hE := hE.trans (if_neg c_8910)
              refine lv_iload hx hb dX5_coalBy_33 (lv_at hl 1 rfl) ?_
              refine lv_aload_n hx hb dX5_coalBy_35 rfl (lv_at hl 5 rfl) ?_
              refine va_getN (ci := 9) (v := .ref t2) (C := RX9) (T := TX9) (N := 10) hx hb hts hw9 hown hK hP 5 rfl rfl 2 (by decide +kernel) (nst_use hN 103 rfl) (fun _ h9 => h9) rfl dX5_coalBy_36 ?_
              refine lv_iconst (v := 2) hx hb dX5_coalBy_39 (by decide +kernel) ?_
              refine va_iald hx hb hK hP 7 0 rfl rfl (i_in (x := 2) rfl (by omega)) dX5_coalBy_40 ?_
              refine lv_topi (fun x_8912 ex_8912 => ?_)
              replace hE := hE.trans (Lt_in ex_8912)
              have j_8941 : ∀ (v_8925 : Int32) (v_8926 : Int32) (v_8927 : Int32) (f_8928 : Nat → Int32) (f_8929 : Nat → Int32) (hv_8927 : 0 ≤ v_8927.toInt ∧ v_8927.toInt ≤ 1) (hE : E_w_coalBy (G q0).1 (G q0).2.1 (G q0).2.2.1 (G q0).2.2.2.1 (G q0).2.2.2.2.1 y br fs fw n lt nf fi f1 f2 f3 fl = E_w_coalBy_j80 ((G q0).1) ((G q0).2.1) ((G q0).2.2.1) ((G q0).2.2.2.1) ((G q0).2.2.2.2.1) f1 f2 v_7717 v_8788 rec_8908 v_8925 v_8926 v_8927 f_8928 f_8929) (H : Heap) (locs : List Loc) (hP : va_P D vwCl [(p0, .inr (5, [.ref a0, p_1, p_2, p_3, p_4, p_5])), (a0, .inr (0, [.ref m0, .ref w0])), (m0, .inr (3, [.ref m1, .int v_8927])), (m1, .inl (K 0, 64, .inl f_8928)), (w0, .inl (K 0, 9, .inl f_8929)), (t0, .inr (9, [.ref t1, .ref t3, .ref t2, .ref l0, .int n, .int lt, .int nf, .int fi, k_8, k_9])), (t1, .inl (K 0, 56, .inl f1)), (t2, .inl (K 0, 6, .inl f2)), (t3, .inl (K 0, 24, .inl f3)), (l0, .inl (K 4, 6, .inr (.inr (.inr (.inr fl)))))] H) (hD : va_D A [(p0, .inr (5, [.ref a0, p_1, p_2, p_3, p_4, p_5])), (a0, .inr (0, [.ref m0, .ref w0])), (m0, .inr (3, [.ref m1, .int v_8927])), (m1, .inl (K 0, 64, .inl f_8928)), (w0, .inl (K 0, 9, .inl f_8929)), (t0, .inr (9, [.ref t1, .ref t3, .ref t2, .ref l0, .int n, .int lt, .int nf, .int fi, k_8, k_9])), (t1, .inl (K 0, 56, .inl f1)), (t2, .inl (K 0, 6, .inl f2)), (t3, .inl (K 0, 24, .inl f3)), (l0, .inl (K 4, 6, .inr (.inr (.inr (.inr fl)))))]) (hS : va_S A s.heap H locs) (ls : Array Slot) (hl : lv_has ls 8 [(7, .int v_8788), (6, .int v_8925), (5, .int v_7717), (4, .int v_8926), (0, .ref p0), (1, .ref t0), (2, .ref q0), (3, .int y)]), W p l e ({ frames := 3, cells := 0, slots := 0, locals := 81 }) s m (([.ref p0, .ref t0, .ref q0, .int y] : List Value).toArray) below meth c H locs 0 0 Q (F0 m 80 ls []) := by
                clear hE hP hD hS hl
                intro v_8925 v_8926 v_8927 f_8928 f_8929 hv_8927 hE H locs hP hD hS ls hl
                replace hE := hE.trans (E_w_coalBy_j80.eq_def _ _ _ _ _ _ _ _ _ _ _ _ _ _ _)
                refine lv_aload_n hx hb dX5_coalBy_80 rfl (lv_at hl 4 rfl) ?_
                refine va_get (ci := 5) (v := .ref a0) (C := RX5) (T := TX5) (N := 6) hx hb hts hw5 hown hK hP 0 rfl rfl 0 (by decide +kernel) (hts _ mm_X5_coalBy_307) (fun _ h9 => h9) rfl dX5_coalBy_81 ?_
                refine lv_aload_n hx hb dX5_coalBy_84 rfl (lv_at hl 5 rfl) ?_
                refine lv_iload hx hb dX5_coalBy_85 (lv_at hl 2 rfl) ?_
                refine lv_iload hx hb dX5_coalBy_87 (lv_at hl 1 rfl) ?_
                refine lv_iload hx hb dX5_coalBy_89 (lv_at hl 0 rfl) ?_
                refine kcv (S := Su) (wr := [(p0, .inr (5, [.ref a0, p_1, p_2, p_3, p_4, p_5])), (m0, .inr (3, [.ref m1, .int v_8927])), (m1, .inl (K 0, 64, .inl f_8928)), (t3, .inl (K 0, 24, .inl f3)), (l0, .inl (K 4, 6, .inr (.inr (.inr (.inr fl)))))]) (va_runVN (As := [.ref t0, .int v_7717, .int v_8925, .int v_8788]) (rest := []) ⟨hx, hb, hml, hown, hts⟩ (w_face l D K a0 t0 v_7717 v_8925 v_8788 (.ref m0) w0 f_8929 t1 (.ref t3) t2 (.ref l0) (.int n) (.int lt) (.int nf) (.int fi) k_8 k_9 f1 f2 H.size) ⟨va_cnB 4 hts gX5_coalBy_X0_face_n56 rfl rfl rfl (nst_at hN 78 rfl) (hts _ mm_X5_coalBy_151) (by decide +kernel) ⟨Nat.le_of_ble_eq_true rfl, Nat.le_of_ble_eq_true rfl⟩, (hts _ mm_X5_coalBy_404), (hts _ mm_X5_coalBy_10)⟩ (mkV hK hN (hP.sub [1, 4, 5, 6, 7] rfl) (hD.sub [1, 4, 5, 6, 7] (by decide +kernel) rfl) (ci := 0) (q0 := 0) rfl rfl) rfl rfl hl.1 rfl (lv_room (Nat.le_of_ble_eq_true rfl)) dX5_coalBy_91 ⟨Nat.le_of_ble_eq_true rfl, Nat.le_of_ble_eq_true rfl⟩) hP hD hS hA [1, 4, 5, 6, 7] [0, 2, 3, 8, 9] rfl rfl (by decide +kernel) (by decide +kernel) (fun u_8943 H locs hw hP0 hD0 hS0 => ?_)
                clear hP hD hS
                have hP := hP0
                have hD := hD0
                have hS := hS0
                clear hP0 hD0 hS0
                replace hP : va_P D vwCl [(p0, .inr (5, [.ref a0, p_1, p_2, p_3, p_4, p_5])), (m0, .inr (3, [.ref m1, .int v_8927])), (m1, .inl (K 0, 64, .inl f_8928)), (t3, .inl (K 0, 24, .inl f3)), (l0, .inl (K 4, 6, .inr (.inr (.inr (.inr fl))))), (a0, .inr (0, [.ref m0, .ref w0])), (w0, .inl (K 0, 9, .inl (u_8943.2.1 0))), (t0, .inr (9, [.ref t1, .ref t3, .ref t2, .ref l0, .int n, .int lt, .int nf, .int fi, k_8, k_9])), (t1, .inl (K 0, 56, .inl f1)), (t2, .inl (K 0, 6, .inl f2))] H := hP
                replace hD : va_D A [(p0, .inr (5, [.ref a0, p_1, p_2, p_3, p_4, p_5])), (m0, .inr (3, [.ref m1, .int v_8927])), (m1, .inl (K 0, 64, .inl f_8928)), (t3, .inl (K 0, 24, .inl f3)), (l0, .inl (K 4, 6, .inr (.inr (.inr (.inr fl))))), (a0, .inr (0, [.ref m0, .ref w0])), (w0, .inl (K 0, 9, .inl (u_8943.2.1 0))), (t0, .inr (9, [.ref t1, .ref t3, .ref t2, .ref l0, .int n, .int lt, .int nf, .int fi, k_8, k_9])), (t1, .inl (K 0, 56, .inl f1)), (t2, .inl (K 0, 6, .inl f2))] := hD
                obtain ⟨k_8944, -⟩ := hw
                replace hE := hE.trans (Lt_in k_8944)
                refine lv_iconst (v := 0) hx hb dX5_coalBy_94 (by decide +kernel) ?_
                refine lv_iload hx hb dX5_coalBy_95 (lv_at hl 1 rfl) ?_
                refine lv_aload_n hx hb dX5_coalBy_97 rfl (lv_at hl 4 rfl) ?_
                refine va_get (ci := 5) (v := .ref a0) (C := RX5) (T := TX5) (N := 6) hx hb hts hw5 hown hK hP 0 rfl rfl 0 (by decide +kernel) (hts _ mm_X5_coalBy_307) (fun _ h9 => h9) rfl dX5_coalBy_98 ?_
                refine lv_aload_n hx hb dX5_coalBy_101 rfl (lv_at hl 6 rfl) ?_
                refine lv_iconst (v := 0) hx hb dX5_coalBy_102 (by decide +kernel) ?_
                refine kci (S := Su) (wr := [(p0, .inr (5, [.ref a0, p_1, p_2, p_3, p_4, p_5])), (t3, .inl (K 0, 24, .inl f3)), (l0, .inl (K 4, 6, .inr (.inr (.inr (.inr fl))))), (t0, .inr (9, [.ref t1, .ref t3, .ref t2, .ref l0, .int n, .int lt, .int nf, .int fi, k_8, k_9])), (t1, .inl (K 0, 56, .inl f1)), (t2, .inl (K 0, 6, .inl f2))]) (va_runVN (As := [.ref q0, .int 0]) (rest := [.int v_8925, .int 0]) ⟨hx, hb, hml, hown, hts⟩ (w_told l D K g L G a0 q0 0 m0 w0 m1 v_8927 f_8928 (u_8943.2.1 0) H.size hq0 (by first | omega | decide) (by first | omega | decide)) ⟨va_cnB 2 hts gX5_coalBy_X0_told_n60 rfl rfl rfl (nst_at hN 79 rfl) (hts _ mm_X5_coalBy_151) (by decide +kernel) ⟨Nat.le_of_ble_eq_true rfl, Nat.le_of_ble_eq_true rfl⟩, (hts _ mm_X5_coalBy_411), (hts _ mm_X5_coalBy_13)⟩ (mkVY hK hN (hP.sub [5, 1, 2, 6] rfl) (hD.sub [5, 1, 2, 6] (by decide +kernel) rfl) (ci := 0) (q0 := 0) rfl rfl (fun U hU hW => ⟨Gl.at hG hS hW hU (fun q h => va_free hD hS hA [5, 1, 2, 6] rfl q h), Pool.at hPl hS hU (fun q h => va_free hD hS hA [5, 1, 2, 6] rfl q h), Ro.heap hU (Ro.nil)⟩)) rfl rfl hl.1 rfl (lv_room (Nat.le_of_ble_eq_true rfl)) dX5_coalBy_103 ⟨Nat.le_of_ble_eq_true rfl, Nat.le_of_ble_eq_true rfl⟩) hP hD hS hA [5, 1, 2, 6] [0, 3, 4, 7, 8, 9] rfl rfl (by decide +kernel) (by decide +kernel) (fun r_8945 u_8946 H locs hw hP0 hD0 hS0 => ?_)
                clear hP hD hS
                have hP := hP0
                have hD := hD0
                have hS := hS0
                clear hP0 hD0 hS0
                replace hP : va_P D vwCl [(p0, .inr (5, [.ref a0, p_1, p_2, p_3, p_4, p_5])), (t3, .inl (K 0, 24, .inl f3)), (l0, .inl (K 4, 6, .inr (.inr (.inr (.inr fl))))), (t0, .inr (9, [.ref t1, .ref t3, .ref t2, .ref l0, .int n, .int lt, .int nf, .int fi, k_8, k_9])), (t1, .inl (K 0, 56, .inl f1)), (t2, .inl (K 0, 6, .inl f2)), (a0, .inr (0, [.ref m0, .ref w0])), (m0, .inr (3, [.ref m1, .int (u_8946.2.2.2.1 0)])), (m1, .inl (K 0, 64, .inl (u_8946.2.1 0))), (w0, .inl (K 0, 9, .inl (u_8943.2.1 0)))] H := hP
                replace hD : va_D A [(p0, .inr (5, [.ref a0, p_1, p_2, p_3, p_4, p_5])), (t3, .inl (K 0, 24, .inl f3)), (l0, .inl (K 4, 6, .inr (.inr (.inr (.inr fl))))), (t0, .inr (9, [.ref t1, .ref t3, .ref t2, .ref l0, .int n, .int lt, .int nf, .int fi, k_8, k_9])), (t1, .inl (K 0, 56, .inl f1)), (t2, .inl (K 0, 6, .inl f2)), (a0, .inr (0, [.ref m0, .ref w0])), (m0, .inr (3, [.ref m1, .int (u_8946.2.2.2.1 0)])), (m1, .inl (K 0, 64, .inl (u_8946.2.1 0))), (w0, .inl (K 0, 9, .inl (u_8943.2.1 0)))] := hD
                obtain ⟨h_8949, k_8947, k_8948, -⟩ := hw
                replace hE := (hE.trans (Lt2_in k_8948)).trans (Lt2_in rfl)
                refine lv_isub hx hb dX5_coalBy_106 ?_
                refine lv_topi (fun x_8950 ex_8950 => ?_)
                replace hE := hE.trans (Lt_in ex_8950)
                refine va_mmax hx hb (hml.trans hl.1.symm) hown (hts _ mm_X5_coalBy_692) (hts _ mm_X5_coalBy_418) (hts _ mm_X5_coalBy_157) (hts _ mm_X5_coalBy_419) (Nat.le_of_ble_eq_true rfl) (Nat.le_of_ble_eq_true rfl) (Nat.le_of_ble_eq_true rfl) (Nat.le_of_ble_eq_true rfl) dX5_coalBy_107 ?_
                refine lv_topi (fun x_8951 ex_8951 => ?_)
                replace hE := hE.trans (Lt_in ex_8951)
                have hx_8951 : (x_8950.toInt ≤ 0 ∧ x_8951.toInt = 0) ∨ (0 < x_8950.toInt ∧ x_8951.toInt = x_8950.toInt) := by rw [ex_8951]; exact i_max (show (0 : Int32).toInt = 0 from rfl) rfl
                replace hx_8951 : x_8950.toInt ≤ x_8951.toInt ∧ 0 ≤ x_8951.toInt := by omega
                refine lv_istore (lv' := [(6, .int x_8951), (7, .int v_8788), (5, .int v_7717), (4, .int v_8926), (0, .ref p0), (1, .ref t0), (2, .ref q0), (3, .int y)]) hx hb dX5_coalBy_110 hl (by decide +kernel) rfl (fun ls hl => ?_)
                obtain ⟨x_8952, ex_8952⟩ : ∃ y : Int32, y = v_8788 + Int32.ofInt 1 := ⟨_, rfl⟩
                replace hE := hE.trans (Lt_in ex_8952)
                have hx_8952 : x_8952.toInt = (v_8788.toInt + 1) := by rw [ex_8952]; exact i_add rfl (show (Int32.ofInt 1).toInt = 1 from rfl) (by omega)
                refine lv_iinc (v := x_8952) (lv' := [(7, .int x_8952), (6, .int x_8951), (5, .int v_7717), (4, .int v_8926), (0, .ref p0), (1, .ref t0), (2, .ref q0), (3, .int y)]) hx hb dX5_coalBy_112 hl (k := 1) rfl (by rw [ex_8952]) (by decide +kernel) rfl (fun ls hl => ?_)
                refine lv_goto (tgt := 27) hx hb dX5_coalBy_115 (by decide +kernel) ?_
                exact ih_8909 x_8952 x_8951 v_8926 (u_8946.2.2.2.1 0) (u_8946.2.1 0) (u_8943.2.1 0) (by rw [hx_8952]; omega) (by omega) (by omega) (hE.trans (by rw [hrec_8908])) _ _ (hP.sub [0, 6, 7, 8, 9, 3, 4, 5, 1, 2] rfl) (hD.sub [0, 6, 7, 8, 9, 3, 4, 5, 1, 2] (by decide +kernel) rfl) hS ls (lv_sub hl [0, 1, 2, 3, 4, 5, 6, 7] rfl)
              refine lv_icmp_ge (tgt := 80) hx hb dX5_coalBy_41 (by decide +kernel) (fun c_8953 => ?_) (fun c_8953 => ?_)
              · have c_8953i := i_le (x := x_8912.toInt) (y := v_8789.toInt) rfl rfl c_8953
                replace hE := hE.trans (if_pos c_8953)
                exact j_8941 v_8789 v_8790 v_8791 f_8792 f_8793 (by omega) hE _ _ hP hD hS ls (lv_sub hl [0, 1, 2, 3, 4, 5, 6, 7] rfl)
              · have c_8953i := i_nle (x := x_8912.toInt) (y := v_8789.toInt) rfl rfl c_8953
                replace hE := hE.trans (if_neg c_8953)
                refine lv_aload_n hx hb dX5_coalBy_44 rfl (lv_at hl 4 rfl) ?_
                refine va_get (ci := 5) (v := .ref a0) (C := RX5) (T := TX5) (N := 6) hx hb hts hw5 hown hK hP 0 rfl rfl 0 (by decide +kernel) (hts _ mm_X5_coalBy_307) (fun _ h9 => h9) rfl dX5_coalBy_45 ?_
                refine lv_aload_n hx hb dX5_coalBy_48 rfl (lv_at hl 5 rfl) ?_
                refine lv_iload hx hb dX5_coalBy_49 (lv_at hl 2 rfl) ?_
                refine lv_iload hx hb dX5_coalBy_51 (lv_at hl 1 rfl) ?_
                refine lv_iload hx hb dX5_coalBy_53 (lv_at hl 0 rfl) ?_
                refine kcv (S := Su) (wr := [(p0, .inr (5, [.ref a0, p_1, p_2, p_3, p_4, p_5])), (m0, .inr (3, [.ref m1, .int v_8791])), (m1, .inl (K 0, 64, .inl f_8792)), (t3, .inl (K 0, 24, .inl f3)), (l0, .inl (K 4, 6, .inr (.inr (.inr (.inr fl)))))]) (va_runVN (As := [.ref t0, .int v_7717, .int v_8789, .int v_8788]) (rest := []) ⟨hx, hb, hml, hown, hts⟩ (w_face l D K a0 t0 v_7717 v_8789 v_8788 (.ref m0) w0 f_8793 t1 (.ref t3) t2 (.ref l0) (.int n) (.int lt) (.int nf) (.int fi) k_8 k_9 f1 f2 H.size) ⟨va_cnB 4 hts gX5_coalBy_X0_face_n56 rfl rfl rfl (nst_at hN 78 rfl) (hts _ mm_X5_coalBy_151) (by decide +kernel) ⟨Nat.le_of_ble_eq_true rfl, Nat.le_of_ble_eq_true rfl⟩, (hts _ mm_X5_coalBy_404), (hts _ mm_X5_coalBy_10)⟩ (mkV hK hN (hP.sub [1, 4, 5, 6, 7] rfl) (hD.sub [1, 4, 5, 6, 7] (by decide +kernel) rfl) (ci := 0) (q0 := 0) rfl rfl) rfl rfl hl.1 rfl (lv_room (Nat.le_of_ble_eq_true rfl)) dX5_coalBy_55 ⟨Nat.le_of_ble_eq_true rfl, Nat.le_of_ble_eq_true rfl⟩) hP hD hS hA [1, 4, 5, 6, 7] [0, 2, 3, 8, 9] rfl rfl (by decide +kernel) (by decide +kernel) (fun u_8955 H locs hw hP0 hD0 hS0 => ?_)
                clear hP hD hS
                have hP := hP0
                have hD := hD0
                have hS := hS0
                clear hP0 hD0 hS0
                replace hP : va_P D vwCl [(p0, .inr (5, [.ref a0, p_1, p_2, p_3, p_4, p_5])), (m0, .inr (3, [.ref m1, .int v_8791])), (m1, .inl (K 0, 64, .inl f_8792)), (t3, .inl (K 0, 24, .inl f3)), (l0, .inl (K 4, 6, .inr (.inr (.inr (.inr fl))))), (a0, .inr (0, [.ref m0, .ref w0])), (w0, .inl (K 0, 9, .inl (u_8955.2.1 0))), (t0, .inr (9, [.ref t1, .ref t3, .ref t2, .ref l0, .int n, .int lt, .int nf, .int fi, k_8, k_9])), (t1, .inl (K 0, 56, .inl f1)), (t2, .inl (K 0, 6, .inl f2))] H := hP
                replace hD : va_D A [(p0, .inr (5, [.ref a0, p_1, p_2, p_3, p_4, p_5])), (m0, .inr (3, [.ref m1, .int v_8791])), (m1, .inl (K 0, 64, .inl f_8792)), (t3, .inl (K 0, 24, .inl f3)), (l0, .inl (K 4, 6, .inr (.inr (.inr (.inr fl))))), (a0, .inr (0, [.ref m0, .ref w0])), (w0, .inl (K 0, 9, .inl (u_8955.2.1 0))), (t0, .inr (9, [.ref t1, .ref t3, .ref t2, .ref l0, .int n, .int lt, .int nf, .int fi, k_8, k_9])), (t1, .inl (K 0, 56, .inl f1)), (t2, .inl (K 0, 6, .inl f2))] := hD
                obtain ⟨k_8956, -⟩ := hw
                replace hE := hE.trans (Lt_in k_8956)
                refine lv_bipush (v := 20) hx hb dX5_coalBy_58 (by decide +kernel) ?_
                refine lv_iload hx hb dX5_coalBy_60 (lv_at hl 1 rfl) ?_
                refine lv_aload_n hx hb dX5_coalBy_62 rfl (lv_at hl 4 rfl) ?_
                refine va_get (ci := 5) (v := .ref a0) (C := RX5) (T := TX5) (N := 6) hx hb hts hw5 hown hK hP 0 rfl rfl 0 (by decide +kernel) (hts _ mm_X5_coalBy_307) (fun _ h9 => h9) rfl dX5_coalBy_63 ?_
                refine lv_aload_n hx hb dX5_coalBy_66 rfl (lv_at hl 6 rfl) ?_
                refine lv_iconst (v := 1) hx hb dX5_coalBy_67 (by decide +kernel) ?_
                refine kci (S := Su) (wr := [(p0, .inr (5, [.ref a0, p_1, p_2, p_3, p_4, p_5])), (t3, .inl (K 0, 24, .inl f3)), (l0, .inl (K 4, 6, .inr (.inr (.inr (.inr fl))))), (t0, .inr (9, [.ref t1, .ref t3, .ref t2, .ref l0, .int n, .int lt, .int nf, .int fi, k_8, k_9])), (t1, .inl (K 0, 56, .inl f1)), (t2, .inl (K 0, 6, .inl f2))]) (va_runVN (As := [.ref q0, .int 1]) (rest := [.int v_8789, .int 20]) ⟨hx, hb, hml, hown, hts⟩ (w_told l D K g L G a0 q0 1 m0 w0 m1 v_8791 f_8792 (u_8955.2.1 0) H.size hq0 (by first | omega | decide) (by first | omega | decide)) ⟨va_cnB 2 hts gX5_coalBy_X0_told_n60 rfl rfl rfl (nst_at hN 79 rfl) (hts _ mm_X5_coalBy_151) (by decide +kernel) ⟨Nat.le_of_ble_eq_true rfl, Nat.le_of_ble_eq_true rfl⟩, (hts _ mm_X5_coalBy_411), (hts _ mm_X5_coalBy_13)⟩ (mkVY hK hN (hP.sub [5, 1, 2, 6] rfl) (hD.sub [5, 1, 2, 6] (by decide +kernel) rfl) (ci := 0) (q0 := 0) rfl rfl (fun U hU hW => ⟨Gl.at hG hS hW hU (fun q h => va_free hD hS hA [5, 1, 2, 6] rfl q h), Pool.at hPl hS hU (fun q h => va_free hD hS hA [5, 1, 2, 6] rfl q h), Ro.heap hU (Ro.nil)⟩)) rfl rfl hl.1 rfl (lv_room (Nat.le_of_ble_eq_true rfl)) dX5_coalBy_68 ⟨Nat.le_of_ble_eq_true rfl, Nat.le_of_ble_eq_true rfl⟩) hP hD hS hA [5, 1, 2, 6] [0, 3, 4, 7, 8, 9] rfl rfl (by decide +kernel) (by decide +kernel) (fun r_8957 u_8958 H locs hw hP0 hD0 hS0 => ?_)
                clear hP hD hS
                have hP := hP0
                have hD := hD0
                have hS := hS0
                clear hP0 hD0 hS0
                replace hP : va_P D vwCl [(p0, .inr (5, [.ref a0, p_1, p_2, p_3, p_4, p_5])), (t3, .inl (K 0, 24, .inl f3)), (l0, .inl (K 4, 6, .inr (.inr (.inr (.inr fl))))), (t0, .inr (9, [.ref t1, .ref t3, .ref t2, .ref l0, .int n, .int lt, .int nf, .int fi, k_8, k_9])), (t1, .inl (K 0, 56, .inl f1)), (t2, .inl (K 0, 6, .inl f2)), (a0, .inr (0, [.ref m0, .ref w0])), (m0, .inr (3, [.ref m1, .int (u_8958.2.2.2.1 0)])), (m1, .inl (K 0, 64, .inl (u_8958.2.1 0))), (w0, .inl (K 0, 9, .inl (u_8955.2.1 0)))] H := hP
                replace hD : va_D A [(p0, .inr (5, [.ref a0, p_1, p_2, p_3, p_4, p_5])), (t3, .inl (K 0, 24, .inl f3)), (l0, .inl (K 4, 6, .inr (.inr (.inr (.inr fl))))), (t0, .inr (9, [.ref t1, .ref t3, .ref t2, .ref l0, .int n, .int lt, .int nf, .int fi, k_8, k_9])), (t1, .inl (K 0, 56, .inl f1)), (t2, .inl (K 0, 6, .inl f2)), (a0, .inr (0, [.ref m0, .ref w0])), (m0, .inr (3, [.ref m1, .int (u_8958.2.2.2.1 0)])), (m1, .inl (K 0, 64, .inl (u_8958.2.1 0))), (w0, .inl (K 0, 9, .inl (u_8955.2.1 0)))] := hD
                obtain ⟨h_8961, k_8959, k_8960, -⟩ := hw
                replace hE := (hE.trans (Lt2_in k_8960)).trans (Lt2_in rfl)
                refine lv_iadd hx hb dX5_coalBy_71 ?_
                refine lv_topi (fun x_8962 ex_8962 => ?_)
                replace hE := hE.trans (Lt_in ex_8962)
                refine va_mmin hx hb (hml.trans hl.1.symm) hown (hts _ mm_X5_coalBy_688) (hts _ mm_X5_coalBy_426) (hts _ mm_X5_coalBy_157) (hts _ mm_X5_coalBy_427) (Nat.le_of_ble_eq_true rfl) (Nat.le_of_ble_eq_true rfl) (Nat.le_of_ble_eq_true rfl) (Nat.le_of_ble_eq_true rfl) dX5_coalBy_72 ?_
                refine lv_topi (fun x_8963 ex_8963 => ?_)
                replace hE := hE.trans (Lt_in ex_8963)
                have hx_8963 : (20 ≤ x_8962.toInt ∧ x_8963.toInt = 20) ∨ (x_8962.toInt < 20 ∧ x_8963.toInt = x_8962.toInt) := by rw [ex_8963]; exact i_min (show (20 : Int32).toInt = 20 from rfl) rfl
                replace hx_8963 : x_8963.toInt ≤ x_8962.toInt ∧ x_8963.toInt ≤ 20 := by omega
                refine lv_istore (lv' := [(6, .int x_8963), (7, .int v_8788), (5, .int v_7717), (4, .int v_8790), (0, .ref p0), (1, .ref t0), (2, .ref q0), (3, .int y)]) hx hb dX5_coalBy_75 hl (by decide +kernel) rfl (fun ls hl => ?_)
                obtain ⟨x_8964, ex_8964⟩ : ∃ y : Int32, y = v_8790 + Int32.ofInt 1 := ⟨_, rfl⟩
                replace hE := hE.trans (Lt_in ex_8964)
                refine lv_iinc (v := x_8964) (lv' := [(4, .int x_8964), (6, .int x_8963), (7, .int v_8788), (5, .int v_7717), (0, .ref p0), (1, .ref t0), (2, .ref q0), (3, .int y)]) hx hb dX5_coalBy_77 hl (k := 3) rfl (by rw [ex_8964]) (by decide +kernel) rfl (fun ls hl => ?_)
                exact j_8941 x_8963 x_8964 (u_8958.2.2.2.1 0) (u_8958.2.1 0) (u_8955.2.1 0) (by omega) hE _ _ (hP.sub [0, 6, 7, 8, 9, 3, 4, 5, 1, 2] rfl) (hD.sub [0, 6, 7, 8, 9, 3, 4, 5, 1, 2] (by decide +kernel) rfl) hS ls (lv_sub hl [2, 1, 3, 0, 4, 5, 6, 7] rfl)
        exact lp_8908 ((61 - (0 : Int32).toInt : Int).toNat + 1) 0 r_8554 v_7718 v_7719 f_7720 f_7721 (by decide +kernel) (by omega) (Nat.lt_succ_self _) hE _ _ hP hD hS ls (lv_sub hl [0, 1, 2, 3, 4, 5, 6, 7] rfl)
  exact lp_8551 ((9 - (0 : Int32).toInt : Int).toNat + 1) 0 0 br fs fw (by decide +kernel) (by omega) (Nat.lt_succ_self _) hE _ _ hP hD hS ls (lv_sub hl [0, 1, 2, 3, 4, 5] rfl)
