theorem BX4_mapSets_0 : bsegs (ByteArray.data cX4_mapSets |>.toList.drop 0) 0 [(0, [4]), (1, [61]), (2, [3]), (3, [62]), (4, [29]), (5, [43]), (6, [180, 0, 27]), (9, [162, 0, 59]), (12, [29]), (13, [16, 8]), (15, [162, 0, 53]), (18, [3]), (19, [54, 4]), (21, [21, 4]), (23, [28]), (24, [162, 0, 34]), (27, [42]), (28, [180, 0, 24]), (31, [28]), (32, [21, 4]), (34, [96]), (35, [42]), (36, [180, 0, 24]), (39, [21, 4])] = true := by decide +kernel
theorem dX4_mapSets_0 : decode cX4_mapSets 0 = .ok (.iconst 1, 1) := dk_4 (bs_at BX4_mapSets_0 0 rfl)
theorem dX4_mapSets_1 : decode cX4_mapSets 1 = .ok (.istore_n 2, 1) := dk_61 (bs_at BX4_mapSets_0 1 rfl)
theorem dX4_mapSets_2 : decode cX4_mapSets 2 = .ok (.iconst 0, 1) := dk_3 (bs_at BX4_mapSets_0 2 rfl)
theorem dX4_mapSets_3 : decode cX4_mapSets 3 = .ok (.istore_n 3, 1) := dk_62 (bs_at BX4_mapSets_0 3 rfl)
theorem dX4_mapSets_4 : decode cX4_mapSets 4 = .ok (.iload_n 3, 1) := dk_29 (bs_at BX4_mapSets_0 4 rfl)
theorem dX4_mapSets_5 : decode cX4_mapSets 5 = .ok (.aload_n 1, 1) := dk_43 (bs_at BX4_mapSets_0 5 rfl)
theorem dX4_mapSets_6 : decode cX4_mapSets 6 = .ok (.getfield 27, 3) := dk_180 0 27 (bs_at BX4_mapSets_0 6 rfl) rfl
theorem dX4_mapSets_9 : decode cX4_mapSets 9 = .ok (.if_icmp .ge 59, 3) := dk_162 0 59 (bs_at BX4_mapSets_0 7 rfl) rfl
theorem dX4_mapSets_12 : decode cX4_mapSets 12 = .ok (.iload_n 3, 1) := dk_29 (bs_at BX4_mapSets_0 8 rfl)
theorem dX4_mapSets_13 : decode cX4_mapSets 13 = .ok (.bipush 8, 2) := dk_16 8 (bs_at BX4_mapSets_0 9 rfl) rfl
theorem dX4_mapSets_15 : decode cX4_mapSets 15 = .ok (.if_icmp .ge 53, 3) := dk_162 0 53 (bs_at BX4_mapSets_0 10 rfl) rfl
theorem dX4_mapSets_18 : decode cX4_mapSets 18 = .ok (.iconst 0, 1) := dk_3 (bs_at BX4_mapSets_0 11 rfl)
theorem dX4_mapSets_19 : decode cX4_mapSets 19 = .ok (.istore 4, 2) := dk_54 4 (bs_at BX4_mapSets_0 12 rfl)
theorem dX4_mapSets_21 : decode cX4_mapSets 21 = .ok (.iload 4, 2) := dk_21 4 (bs_at BX4_mapSets_0 13 rfl)
theorem dX4_mapSets_23 : decode cX4_mapSets 23 = .ok (.iload_n 2, 1) := dk_28 (bs_at BX4_mapSets_0 14 rfl)
theorem dX4_mapSets_24 : decode cX4_mapSets 24 = .ok (.if_icmp .ge 34, 3) := dk_162 0 34 (bs_at BX4_mapSets_0 15 rfl) rfl
theorem dX4_mapSets_27 : decode cX4_mapSets 27 = .ok (.aload_n 0, 1) := dk_42 (bs_at BX4_mapSets_0 16 rfl)
theorem dX4_mapSets_28 : decode cX4_mapSets 28 = .ok (.getfield 24, 3) := dk_180 0 24 (bs_at BX4_mapSets_0 17 rfl) rfl
theorem dX4_mapSets_31 : decode cX4_mapSets 31 = .ok (.iload_n 2, 1) := dk_28 (bs_at BX4_mapSets_0 18 rfl)
theorem dX4_mapSets_32 : decode cX4_mapSets 32 = .ok (.iload 4, 2) := dk_21 4 (bs_at BX4_mapSets_0 19 rfl)
theorem dX4_mapSets_34 : decode cX4_mapSets 34 = .ok (.iadd, 1) := dk_96 (bs_at BX4_mapSets_0 20 rfl)
theorem dX4_mapSets_35 : decode cX4_mapSets 35 = .ok (.aload_n 0, 1) := dk_42 (bs_at BX4_mapSets_0 21 rfl)
theorem dX4_mapSets_36 : decode cX4_mapSets 36 = .ok (.getfield 24, 3) := dk_180 0 24 (bs_at BX4_mapSets_0 22 rfl) rfl
theorem dX4_mapSets_39 : decode cX4_mapSets 39 = .ok (.iload 4, 2) := dk_21 4 (bs_at BX4_mapSets_0 23 rfl)
theorem BX4_mapSets_41 : bsegs (ByteArray.data cX4_mapSets |>.toList.drop 41) 41 [(41, [46]), (42, [4]), (43, [43]), (44, [29]), (45, [3]), (46, [182, 0, 45]), (49, [120]), (50, [128]), (51, [79]), (52, [132, 4, 1]), (55, [167, 255, 222]), (58, [28]), (59, [5]), (60, [104]), (61, [61]), (62, [132, 3, 1]), (65, [167, 255, 195]), (68, [28]), (69, [172])] = true := by decide +kernel
theorem dX4_mapSets_41 : decode cX4_mapSets 41 = .ok (.iaload, 1) := dk_46 (bs_at BX4_mapSets_41 0 rfl)
theorem dX4_mapSets_42 : decode cX4_mapSets 42 = .ok (.iconst 1, 1) := dk_4 (bs_at BX4_mapSets_41 1 rfl)
theorem dX4_mapSets_43 : decode cX4_mapSets 43 = .ok (.aload_n 1, 1) := dk_43 (bs_at BX4_mapSets_41 2 rfl)
theorem dX4_mapSets_44 : decode cX4_mapSets 44 = .ok (.iload_n 3, 1) := dk_29 (bs_at BX4_mapSets_41 3 rfl)
theorem dX4_mapSets_45 : decode cX4_mapSets 45 = .ok (.iconst 0, 1) := dk_3 (bs_at BX4_mapSets_41 4 rfl)
theorem dX4_mapSets_46 : decode cX4_mapSets 46 = .ok (.invokevirtual 45, 3) := dk_182 0 45 (bs_at BX4_mapSets_41 5 rfl) rfl
theorem dX4_mapSets_49 : decode cX4_mapSets 49 = .ok (.ishl, 1) := dk_120 (bs_at BX4_mapSets_41 6 rfl)
theorem dX4_mapSets_50 : decode cX4_mapSets 50 = .ok (.ior, 1) := dk_128 (bs_at BX4_mapSets_41 7 rfl)
theorem dX4_mapSets_51 : decode cX4_mapSets 51 = .ok (.iastore, 1) := dk_79 (bs_at BX4_mapSets_41 8 rfl)
theorem dX4_mapSets_52 : decode cX4_mapSets 52 = .ok (.iinc 4 1, 3) := dk_132 4 1 (bs_at BX4_mapSets_41 9 rfl) rfl
theorem dX4_mapSets_55 : decode cX4_mapSets 55 = .ok (.goto (-34), 3) := dk_167 255 222 (bs_at BX4_mapSets_41 10 rfl) rfl
theorem dX4_mapSets_58 : decode cX4_mapSets 58 = .ok (.iload_n 2, 1) := dk_28 (bs_at BX4_mapSets_41 11 rfl)
theorem dX4_mapSets_59 : decode cX4_mapSets 59 = .ok (.iconst 2, 1) := dk_5 (bs_at BX4_mapSets_41 12 rfl)
theorem dX4_mapSets_60 : decode cX4_mapSets 60 = .ok (.imul, 1) := dk_104 (bs_at BX4_mapSets_41 13 rfl)
theorem dX4_mapSets_61 : decode cX4_mapSets 61 = .ok (.istore_n 2, 1) := dk_61 (bs_at BX4_mapSets_41 14 rfl)
theorem dX4_mapSets_62 : decode cX4_mapSets 62 = .ok (.iinc 3 1, 3) := dk_132 3 1 (bs_at BX4_mapSets_41 15 rfl) rfl
theorem dX4_mapSets_65 : decode cX4_mapSets 65 = .ok (.goto (-61), 3) := dk_167 255 195 (bs_at BX4_mapSets_41 16 rfl) rfl
theorem dX4_mapSets_68 : decode cX4_mapSets 68 = .ok (.iload_n 2, 1) := dk_28 (bs_at BX4_mapSets_41 17 rfl)
theorem dX4_mapSets_69 : decode cX4_mapSets 69 = .ok (.ireturn, 1) := dk_172 (bs_at BX4_mapSets_41 18 rfl)
theorem BX4_hillSet_0 : bsegs (ByteArray.data cX4_hillSet |>.toList.drop 0) 0 [(0, [42]), (1, [43]), (2, [182, 0, 77]), (5, [62]), (6, [3]), (7, [54, 4]), (9, [3]), (10, [54, 5]), (12, [21, 5]), (14, [29]), (15, [162, 0, 35]), (18, [42]), (19, [180, 0, 24]), (22, [21, 5]), (24, [46]), (25, [43]), (26, [180, 0, 81]), (29, [160, 0, 15]), (32, [21, 4]), (34, [28]), (35, [160, 0, 6]), (38, [21, 5]), (40, [172]), (41, [132, 4, 1])] = true := by decide +kernel
theorem dX4_hillSet_0 : decode cX4_hillSet 0 = .ok (.aload_n 0, 1) := dk_42 (bs_at BX4_hillSet_0 0 rfl)
theorem dX4_hillSet_1 : decode cX4_hillSet 1 = .ok (.aload_n 1, 1) := dk_43 (bs_at BX4_hillSet_0 1 rfl)
theorem dX4_hillSet_2 : decode cX4_hillSet 2 = .ok (.invokevirtual 77, 3) := dk_182 0 77 (bs_at BX4_hillSet_0 2 rfl) rfl
theorem dX4_hillSet_5 : decode cX4_hillSet 5 = .ok (.istore_n 3, 1) := dk_62 (bs_at BX4_hillSet_0 3 rfl)
theorem dX4_hillSet_6 : decode cX4_hillSet 6 = .ok (.iconst 0, 1) := dk_3 (bs_at BX4_hillSet_0 4 rfl)
theorem dX4_hillSet_7 : decode cX4_hillSet 7 = .ok (.istore 4, 2) := dk_54 4 (bs_at BX4_hillSet_0 5 rfl)
theorem dX4_hillSet_9 : decode cX4_hillSet 9 = .ok (.iconst 0, 1) := dk_3 (bs_at BX4_hillSet_0 6 rfl)
theorem dX4_hillSet_10 : decode cX4_hillSet 10 = .ok (.istore 5, 2) := dk_54 5 (bs_at BX4_hillSet_0 7 rfl)
theorem dX4_hillSet_12 : decode cX4_hillSet 12 = .ok (.iload 5, 2) := dk_21 5 (bs_at BX4_hillSet_0 8 rfl)
theorem dX4_hillSet_14 : decode cX4_hillSet 14 = .ok (.iload_n 3, 1) := dk_29 (bs_at BX4_hillSet_0 9 rfl)
theorem dX4_hillSet_15 : decode cX4_hillSet 15 = .ok (.if_icmp .ge 35, 3) := dk_162 0 35 (bs_at BX4_hillSet_0 10 rfl) rfl
theorem dX4_hillSet_18 : decode cX4_hillSet 18 = .ok (.aload_n 0, 1) := dk_42 (bs_at BX4_hillSet_0 11 rfl)
theorem dX4_hillSet_19 : decode cX4_hillSet 19 = .ok (.getfield 24, 3) := dk_180 0 24 (bs_at BX4_hillSet_0 12 rfl) rfl
theorem dX4_hillSet_22 : decode cX4_hillSet 22 = .ok (.iload 5, 2) := dk_21 5 (bs_at BX4_hillSet_0 13 rfl)
theorem dX4_hillSet_24 : decode cX4_hillSet 24 = .ok (.iaload, 1) := dk_46 (bs_at BX4_hillSet_0 14 rfl)
theorem dX4_hillSet_25 : decode cX4_hillSet 25 = .ok (.aload_n 1, 1) := dk_43 (bs_at BX4_hillSet_0 15 rfl)
theorem dX4_hillSet_26 : decode cX4_hillSet 26 = .ok (.getfield 81, 3) := dk_180 0 81 (bs_at BX4_hillSet_0 16 rfl) rfl
theorem dX4_hillSet_29 : decode cX4_hillSet 29 = .ok (.if_icmp .ne 15, 3) := dk_160 0 15 (bs_at BX4_hillSet_0 17 rfl) rfl
theorem dX4_hillSet_32 : decode cX4_hillSet 32 = .ok (.iload 4, 2) := dk_21 4 (bs_at BX4_hillSet_0 18 rfl)
theorem dX4_hillSet_34 : decode cX4_hillSet 34 = .ok (.iload_n 2, 1) := dk_28 (bs_at BX4_hillSet_0 19 rfl)
theorem dX4_hillSet_35 : decode cX4_hillSet 35 = .ok (.if_icmp .ne 6, 3) := dk_160 0 6 (bs_at BX4_hillSet_0 20 rfl) rfl
theorem dX4_hillSet_38 : decode cX4_hillSet 38 = .ok (.iload 5, 2) := dk_21 5 (bs_at BX4_hillSet_0 21 rfl)
theorem dX4_hillSet_40 : decode cX4_hillSet 40 = .ok (.ireturn, 1) := dk_172 (bs_at BX4_hillSet_0 22 rfl)
theorem dX4_hillSet_41 : decode cX4_hillSet 41 = .ok (.iinc 4 1, 3) := dk_132 4 1 (bs_at BX4_hillSet_0 23 rfl) rfl
theorem BX4_hillSet_44 : bsegs (ByteArray.data cX4_hillSet |>.toList.drop 44) 44 [(44, [132, 5, 1]), (47, [167, 255, 221]), (50, [28]), (51, [2]), (52, [160, 0, 8]), (55, [21, 4]), (57, [167, 0, 4]), (60, [2]), (61, [172])] = true := by decide +kernel
theorem dX4_hillSet_44 : decode cX4_hillSet 44 = .ok (.iinc 5 1, 3) := dk_132 5 1 (bs_at BX4_hillSet_44 0 rfl) rfl
theorem dX4_hillSet_47 : decode cX4_hillSet 47 = .ok (.goto (-35), 3) := dk_167 255 221 (bs_at BX4_hillSet_44 1 rfl) rfl
theorem dX4_hillSet_50 : decode cX4_hillSet 50 = .ok (.iload_n 2, 1) := dk_28 (bs_at BX4_hillSet_44 2 rfl)
theorem dX4_hillSet_51 : decode cX4_hillSet 51 = .ok (.iconst (-1), 1) := dk_2 (bs_at BX4_hillSet_44 3 rfl)
theorem dX4_hillSet_52 : decode cX4_hillSet 52 = .ok (.if_icmp .ne 8, 3) := dk_160 0 8 (bs_at BX4_hillSet_44 4 rfl) rfl
theorem dX4_hillSet_55 : decode cX4_hillSet 55 = .ok (.iload 4, 2) := dk_21 4 (bs_at BX4_hillSet_44 5 rfl)
theorem dX4_hillSet_57 : decode cX4_hillSet 57 = .ok (.goto 4, 3) := dk_167 0 4 (bs_at BX4_hillSet_44 6 rfl) rfl
theorem dX4_hillSet_60 : decode cX4_hillSet 60 = .ok (.iconst (-1), 1) := dk_2 (bs_at BX4_hillSet_44 7 rfl)
theorem dX4_hillSet_61 : decode cX4_hillSet 61 = .ok (.ireturn, 1) := dk_172 (bs_at BX4_hillSet_44 8 rfl)
theorem BX4_burningSets_0 : bsegs (ByteArray.data cX4_burningSets |>.toList.drop 0) 0 [(0, [3]), (1, [62]), (2, [3]), (3, [54, 4]), (5, [21, 4]), (7, [4]), (8, [43]), (9, [180, 0, 27]), (12, [120]), (13, [162, 0, 46]), (16, [21, 4]), (18, [42]), (19, [180, 0, 24]), (22, [190]), (23, [162, 0, 36]), (26, [21, 4]), (28, [28]), (29, [122]), (30, [4]), (31, [126]), (32, [4]), (33, [160, 0, 20]), (36, [42]), (37, [180, 0, 24])] = true := by decide +kernel
theorem dX4_burningSets_0 : decode cX4_burningSets 0 = .ok (.iconst 0, 1) := dk_3 (bs_at BX4_burningSets_0 0 rfl)
theorem dX4_burningSets_1 : decode cX4_burningSets 1 = .ok (.istore_n 3, 1) := dk_62 (bs_at BX4_burningSets_0 1 rfl)
theorem dX4_burningSets_2 : decode cX4_burningSets 2 = .ok (.iconst 0, 1) := dk_3 (bs_at BX4_burningSets_0 2 rfl)
theorem dX4_burningSets_3 : decode cX4_burningSets 3 = .ok (.istore 4, 2) := dk_54 4 (bs_at BX4_burningSets_0 3 rfl)
theorem dX4_burningSets_5 : decode cX4_burningSets 5 = .ok (.iload 4, 2) := dk_21 4 (bs_at BX4_burningSets_0 4 rfl)
theorem dX4_burningSets_7 : decode cX4_burningSets 7 = .ok (.iconst 1, 1) := dk_4 (bs_at BX4_burningSets_0 5 rfl)
theorem dX4_burningSets_8 : decode cX4_burningSets 8 = .ok (.aload_n 1, 1) := dk_43 (bs_at BX4_burningSets_0 6 rfl)
theorem dX4_burningSets_9 : decode cX4_burningSets 9 = .ok (.getfield 27, 3) := dk_180 0 27 (bs_at BX4_burningSets_0 7 rfl) rfl
theorem dX4_burningSets_12 : decode cX4_burningSets 12 = .ok (.ishl, 1) := dk_120 (bs_at BX4_burningSets_0 8 rfl)
theorem dX4_burningSets_13 : decode cX4_burningSets 13 = .ok (.if_icmp .ge 46, 3) := dk_162 0 46 (bs_at BX4_burningSets_0 9 rfl) rfl
theorem dX4_burningSets_16 : decode cX4_burningSets 16 = .ok (.iload 4, 2) := dk_21 4 (bs_at BX4_burningSets_0 10 rfl)
theorem dX4_burningSets_18 : decode cX4_burningSets 18 = .ok (.aload_n 0, 1) := dk_42 (bs_at BX4_burningSets_0 11 rfl)
theorem dX4_burningSets_19 : decode cX4_burningSets 19 = .ok (.getfield 24, 3) := dk_180 0 24 (bs_at BX4_burningSets_0 12 rfl) rfl
theorem dX4_burningSets_22 : decode cX4_burningSets 22 = .ok (.arraylength, 1) := dk_190 (bs_at BX4_burningSets_0 13 rfl)
theorem dX4_burningSets_23 : decode cX4_burningSets 23 = .ok (.if_icmp .ge 36, 3) := dk_162 0 36 (bs_at BX4_burningSets_0 14 rfl) rfl
theorem dX4_burningSets_26 : decode cX4_burningSets 26 = .ok (.iload 4, 2) := dk_21 4 (bs_at BX4_burningSets_0 15 rfl)
theorem dX4_burningSets_28 : decode cX4_burningSets 28 = .ok (.iload_n 2, 1) := dk_28 (bs_at BX4_burningSets_0 16 rfl)
theorem dX4_burningSets_29 : decode cX4_burningSets 29 = .ok (.ishr, 1) := dk_122 (bs_at BX4_burningSets_0 17 rfl)
theorem dX4_burningSets_30 : decode cX4_burningSets 30 = .ok (.iconst 1, 1) := dk_4 (bs_at BX4_burningSets_0 18 rfl)
theorem dX4_burningSets_31 : decode cX4_burningSets 31 = .ok (.iand, 1) := dk_126 (bs_at BX4_burningSets_0 19 rfl)
theorem dX4_burningSets_32 : decode cX4_burningSets 32 = .ok (.iconst 1, 1) := dk_4 (bs_at BX4_burningSets_0 20 rfl)
theorem dX4_burningSets_33 : decode cX4_burningSets 33 = .ok (.if_icmp .ne 20, 3) := dk_160 0 20 (bs_at BX4_burningSets_0 21 rfl) rfl
theorem dX4_burningSets_36 : decode cX4_burningSets 36 = .ok (.aload_n 0, 1) := dk_42 (bs_at BX4_burningSets_0 22 rfl)
theorem dX4_burningSets_37 : decode cX4_burningSets 37 = .ok (.getfield 24, 3) := dk_180 0 24 (bs_at BX4_burningSets_0 23 rfl) rfl
theorem BX4_burningSets_40 : bsegs (ByteArray.data cX4_burningSets |>.toList.drop 40) 40 [(40, [21, 4]), (42, [46]), (43, [43]), (44, [180, 0, 81]), (47, [160, 0, 6]), (50, [132, 3, 1]), (53, [132, 4, 1]), (56, [167, 255, 205]), (59, [29]), (60, [172])] = true := by decide +kernel
theorem dX4_burningSets_40 : decode cX4_burningSets 40 = .ok (.iload 4, 2) := dk_21 4 (bs_at BX4_burningSets_40 0 rfl)
theorem dX4_burningSets_42 : decode cX4_burningSets 42 = .ok (.iaload, 1) := dk_46 (bs_at BX4_burningSets_40 1 rfl)
theorem dX4_burningSets_43 : decode cX4_burningSets 43 = .ok (.aload_n 1, 1) := dk_43 (bs_at BX4_burningSets_40 2 rfl)
theorem dX4_burningSets_44 : decode cX4_burningSets 44 = .ok (.getfield 81, 3) := dk_180 0 81 (bs_at BX4_burningSets_40 3 rfl) rfl
theorem dX4_burningSets_47 : decode cX4_burningSets 47 = .ok (.if_icmp .ne 6, 3) := dk_160 0 6 (bs_at BX4_burningSets_40 4 rfl) rfl
theorem dX4_burningSets_50 : decode cX4_burningSets 50 = .ok (.iinc 3 1, 3) := dk_132 3 1 (bs_at BX4_burningSets_40 5 rfl) rfl
theorem dX4_burningSets_53 : decode cX4_burningSets 53 = .ok (.iinc 4 1, 3) := dk_132 4 1 (bs_at BX4_burningSets_40 6 rfl) rfl
theorem dX4_burningSets_56 : decode cX4_burningSets 56 = .ok (.goto (-51), 3) := dk_167 255 205 (bs_at BX4_burningSets_40 7 rfl) rfl
theorem dX4_burningSets_59 : decode cX4_burningSets 59 = .ok (.iload_n 3, 1) := dk_29 (bs_at BX4_burningSets_40 8 rfl)
theorem dX4_burningSets_60 : decode cX4_burningSets 60 = .ok (.ireturn, 1) := dk_172 (bs_at BX4_burningSets_40 9 rfl)
theorem BX4_question_0 : bsegs (ByteArray.data cX4_question |>.toList.drop 0) 0 [(0, [42]), (1, [43]), (2, [2]), (3, [182, 0, 84]), (6, [62]), (7, [2]), (8, [54, 4]), (10, [29]), (11, [4]), (12, [96]), (13, [54, 5]), (15, [3]), (16, [54, 6]), (18, [21, 6]), (20, [43]), (21, [180, 0, 27]), (24, [162, 0, 48]), (27, [29]), (28, [158, 0, 44]), (31, [42]), (32, [43]), (33, [21, 6]), (35, [182, 0, 87]), (38, [54, 7])] = true := by decide +kernel
theorem dX4_question_0 : decode cX4_question 0 = .ok (.aload_n 0, 1) := dk_42 (bs_at BX4_question_0 0 rfl)
theorem dX4_question_1 : decode cX4_question 1 = .ok (.aload_n 1, 1) := dk_43 (bs_at BX4_question_0 1 rfl)
theorem dX4_question_2 : decode cX4_question 2 = .ok (.iconst (-1), 1) := dk_2 (bs_at BX4_question_0 2 rfl)
theorem dX4_question_3 : decode cX4_question 3 = .ok (.invokevirtual 84, 3) := dk_182 0 84 (bs_at BX4_question_0 3 rfl) rfl
theorem dX4_question_6 : decode cX4_question 6 = .ok (.istore_n 3, 1) := dk_62 (bs_at BX4_question_0 4 rfl)
theorem dX4_question_7 : decode cX4_question 7 = .ok (.iconst (-1), 1) := dk_2 (bs_at BX4_question_0 5 rfl)
theorem dX4_question_8 : decode cX4_question 8 = .ok (.istore 4, 2) := dk_54 4 (bs_at BX4_question_0 6 rfl)
theorem dX4_question_10 : decode cX4_question 10 = .ok (.iload_n 3, 1) := dk_29 (bs_at BX4_question_0 7 rfl)
theorem dX4_question_11 : decode cX4_question 11 = .ok (.iconst 1, 1) := dk_4 (bs_at BX4_question_0 8 rfl)
theorem dX4_question_12 : decode cX4_question 12 = .ok (.iadd, 1) := dk_96 (bs_at BX4_question_0 9 rfl)
theorem dX4_question_13 : decode cX4_question 13 = .ok (.istore 5, 2) := dk_54 5 (bs_at BX4_question_0 10 rfl)
theorem dX4_question_15 : decode cX4_question 15 = .ok (.iconst 0, 1) := dk_3 (bs_at BX4_question_0 11 rfl)
theorem dX4_question_16 : decode cX4_question 16 = .ok (.istore 6, 2) := dk_54 6 (bs_at BX4_question_0 12 rfl)
theorem dX4_question_18 : decode cX4_question 18 = .ok (.iload 6, 2) := dk_21 6 (bs_at BX4_question_0 13 rfl)
theorem dX4_question_20 : decode cX4_question 20 = .ok (.aload_n 1, 1) := dk_43 (bs_at BX4_question_0 14 rfl)
theorem dX4_question_21 : decode cX4_question 21 = .ok (.getfield 27, 3) := dk_180 0 27 (bs_at BX4_question_0 15 rfl) rfl
theorem dX4_question_24 : decode cX4_question 24 = .ok (.if_icmp .ge 48, 3) := dk_162 0 48 (bs_at BX4_question_0 16 rfl) rfl
theorem dX4_question_27 : decode cX4_question 27 = .ok (.iload_n 3, 1) := dk_29 (bs_at BX4_question_0 17 rfl)
theorem dX4_question_28 : decode cX4_question 28 = .ok (.ifCond .le 44, 3) := dk_158 0 44 (bs_at BX4_question_0 18 rfl) rfl
theorem dX4_question_31 : decode cX4_question 31 = .ok (.aload_n 0, 1) := dk_42 (bs_at BX4_question_0 19 rfl)
theorem dX4_question_32 : decode cX4_question 32 = .ok (.aload_n 1, 1) := dk_43 (bs_at BX4_question_0 20 rfl)
theorem dX4_question_33 : decode cX4_question 33 = .ok (.iload 6, 2) := dk_21 6 (bs_at BX4_question_0 21 rfl)
theorem dX4_question_35 : decode cX4_question 35 = .ok (.invokevirtual 87, 3) := dk_182 0 87 (bs_at BX4_question_0 22 rfl) rfl
theorem dX4_question_38 : decode cX4_question 38 = .ok (.istore 7, 2) := dk_54 7 (bs_at BX4_question_0 23 rfl)
theorem BX4_question_40 : bsegs (ByteArray.data cX4_question |>.toList.drop 40) 40 [(40, [21, 7]), (42, [29]), (43, [21, 7]), (45, [100]), (46, [184, 0, 90]), (49, [54, 8]), (51, [21, 8]), (53, [21, 5]), (55, [162, 0, 11]), (58, [21, 8]), (60, [54, 5]), (62, [21, 6]), (64, [54, 4]), (66, [132, 6, 1]), (69, [167, 255, 205]), (72, [21, 4]), (74, [2]), (75, [159, 0, 7]), (78, [28]), (79, [154, 0, 8]), (82, [21, 4]), (84, [167, 0, 5]), (87, [21, 5]), (89, [172])] = true := by decide +kernel
theorem dX4_question_40 : decode cX4_question 40 = .ok (.iload 7, 2) := dk_21 7 (bs_at BX4_question_40 0 rfl)
theorem dX4_question_42 : decode cX4_question 42 = .ok (.iload_n 3, 1) := dk_29 (bs_at BX4_question_40 1 rfl)
theorem dX4_question_43 : decode cX4_question 43 = .ok (.iload 7, 2) := dk_21 7 (bs_at BX4_question_40 2 rfl)
theorem dX4_question_45 : decode cX4_question 45 = .ok (.isub, 1) := dk_100 (bs_at BX4_question_40 3 rfl)
theorem dX4_question_46 : decode cX4_question 46 = .ok (.invokestatic 90, 3) := dk_184 0 90 (bs_at BX4_question_40 4 rfl) rfl
theorem dX4_question_49 : decode cX4_question 49 = .ok (.istore 8, 2) := dk_54 8 (bs_at BX4_question_40 5 rfl)
theorem dX4_question_51 : decode cX4_question 51 = .ok (.iload 8, 2) := dk_21 8 (bs_at BX4_question_40 6 rfl)
theorem dX4_question_53 : decode cX4_question 53 = .ok (.iload 5, 2) := dk_21 5 (bs_at BX4_question_40 7 rfl)
theorem dX4_question_55 : decode cX4_question 55 = .ok (.if_icmp .ge 11, 3) := dk_162 0 11 (bs_at BX4_question_40 8 rfl) rfl
theorem dX4_question_58 : decode cX4_question 58 = .ok (.iload 8, 2) := dk_21 8 (bs_at BX4_question_40 9 rfl)
theorem dX4_question_60 : decode cX4_question 60 = .ok (.istore 5, 2) := dk_54 5 (bs_at BX4_question_40 10 rfl)
theorem dX4_question_62 : decode cX4_question 62 = .ok (.iload 6, 2) := dk_21 6 (bs_at BX4_question_40 11 rfl)
theorem dX4_question_64 : decode cX4_question 64 = .ok (.istore 4, 2) := dk_54 4 (bs_at BX4_question_40 12 rfl)
theorem dX4_question_66 : decode cX4_question 66 = .ok (.iinc 6 1, 3) := dk_132 6 1 (bs_at BX4_question_40 13 rfl) rfl
theorem dX4_question_69 : decode cX4_question 69 = .ok (.goto (-51), 3) := dk_167 255 205 (bs_at BX4_question_40 14 rfl) rfl
theorem dX4_question_72 : decode cX4_question 72 = .ok (.iload 4, 2) := dk_21 4 (bs_at BX4_question_40 15 rfl)
theorem dX4_question_74 : decode cX4_question 74 = .ok (.iconst (-1), 1) := dk_2 (bs_at BX4_question_40 16 rfl)
theorem dX4_question_75 : decode cX4_question 75 = .ok (.if_icmp .eq 7, 3) := dk_159 0 7 (bs_at BX4_question_40 17 rfl) rfl
theorem dX4_question_78 : decode cX4_question 78 = .ok (.iload_n 2, 1) := dk_28 (bs_at BX4_question_40 18 rfl)
theorem dX4_question_79 : decode cX4_question 79 = .ok (.ifCond .ne 8, 3) := dk_154 0 8 (bs_at BX4_question_40 19 rfl) rfl
theorem dX4_question_82 : decode cX4_question 82 = .ok (.iload 4, 2) := dk_21 4 (bs_at BX4_question_40 20 rfl)
theorem dX4_question_84 : decode cX4_question 84 = .ok (.goto 5, 3) := dk_167 0 5 (bs_at BX4_question_40 21 rfl) rfl
theorem dX4_question_87 : decode cX4_question 87 = .ok (.iload 5, 2) := dk_21 5 (bs_at BX4_question_40 22 rfl)
theorem dX4_question_89 : decode cX4_question 89 = .ok (.ireturn, 1) := dk_172 (bs_at BX4_question_40 23 rfl)
theorem BX4_muted_0 : bsegs (ByteArray.data cX4_muted |>.toList.drop 0) 0 [(0, [32]), (1, [55, 4]), (3, [3]), (4, [54, 6]), (6, [21, 6]), (8, [42]), (9, [180, 0, 27]), (12, [162, 0, 45]), (15, [42]), (16, [21, 6]), (18, [3]), (19, [182, 0, 45]), (22, [27]), (23, [160, 0, 28]), (26, [42]), (27, [21, 6]), (29, [182, 0, 99]), (32, [153, 0, 19]), (35, [22, 4]), (37, [42]), (38, [180, 0, 102]), (41, [7]), (42, [46]), (43, [133])] = true := by decide +kernel
theorem dX4_muted_0 : decode cX4_muted 0 = .ok (.lload_n 2, 1) := dk_32 (bs_at BX4_muted_0 0 rfl)
theorem dX4_muted_1 : decode cX4_muted 1 = .ok (.lstore 4, 2) := dk_55 4 (bs_at BX4_muted_0 1 rfl)
theorem dX4_muted_3 : decode cX4_muted 3 = .ok (.iconst 0, 1) := dk_3 (bs_at BX4_muted_0 2 rfl)
theorem dX4_muted_4 : decode cX4_muted 4 = .ok (.istore 6, 2) := dk_54 6 (bs_at BX4_muted_0 3 rfl)
theorem dX4_muted_6 : decode cX4_muted 6 = .ok (.iload 6, 2) := dk_21 6 (bs_at BX4_muted_0 4 rfl)
theorem dX4_muted_8 : decode cX4_muted 8 = .ok (.aload_n 0, 1) := dk_42 (bs_at BX4_muted_0 5 rfl)
theorem dX4_muted_9 : decode cX4_muted 9 = .ok (.getfield 27, 3) := dk_180 0 27 (bs_at BX4_muted_0 6 rfl) rfl
theorem dX4_muted_12 : decode cX4_muted 12 = .ok (.if_icmp .ge 45, 3) := dk_162 0 45 (bs_at BX4_muted_0 7 rfl) rfl
theorem dX4_muted_15 : decode cX4_muted 15 = .ok (.aload_n 0, 1) := dk_42 (bs_at BX4_muted_0 8 rfl)
theorem dX4_muted_16 : decode cX4_muted 16 = .ok (.iload 6, 2) := dk_21 6 (bs_at BX4_muted_0 9 rfl)
theorem dX4_muted_18 : decode cX4_muted 18 = .ok (.iconst 0, 1) := dk_3 (bs_at BX4_muted_0 10 rfl)
theorem dX4_muted_19 : decode cX4_muted 19 = .ok (.invokevirtual 45, 3) := dk_182 0 45 (bs_at BX4_muted_0 11 rfl) rfl
theorem dX4_muted_22 : decode cX4_muted 22 = .ok (.iload_n 1, 1) := dk_27 (bs_at BX4_muted_0 12 rfl)
theorem dX4_muted_23 : decode cX4_muted 23 = .ok (.if_icmp .ne 28, 3) := dk_160 0 28 (bs_at BX4_muted_0 13 rfl) rfl
theorem dX4_muted_26 : decode cX4_muted 26 = .ok (.aload_n 0, 1) := dk_42 (bs_at BX4_muted_0 14 rfl)
theorem dX4_muted_27 : decode cX4_muted 27 = .ok (.iload 6, 2) := dk_21 6 (bs_at BX4_muted_0 15 rfl)
theorem dX4_muted_29 : decode cX4_muted 29 = .ok (.invokevirtual 99, 3) := dk_182 0 99 (bs_at BX4_muted_0 16 rfl) rfl
theorem dX4_muted_32 : decode cX4_muted 32 = .ok (.ifCond .eq 19, 3) := dk_153 0 19 (bs_at BX4_muted_0 17 rfl) rfl
theorem dX4_muted_35 : decode cX4_muted 35 = .ok (.lload 4, 2) := dk_22 4 (bs_at BX4_muted_0 18 rfl)
theorem dX4_muted_37 : decode cX4_muted 37 = .ok (.aload_n 0, 1) := dk_42 (bs_at BX4_muted_0 19 rfl)
theorem dX4_muted_38 : decode cX4_muted 38 = .ok (.getfield 102, 3) := dk_180 0 102 (bs_at BX4_muted_0 20 rfl) rfl
theorem dX4_muted_41 : decode cX4_muted 41 = .ok (.iconst 4, 1) := dk_7 (bs_at BX4_muted_0 21 rfl)
theorem dX4_muted_42 : decode cX4_muted 42 = .ok (.iaload, 1) := dk_46 (bs_at BX4_muted_0 22 rfl)
theorem dX4_muted_43 : decode cX4_muted 43 = .ok (.i2l, 1) := dk_133 (bs_at BX4_muted_0 23 rfl)
theorem BX4_muted_44 : bsegs (ByteArray.data cX4_muted |>.toList.drop 44) 44 [(44, [105]), (45, [20, 0, 105]), (48, [109]), (49, [55, 4]), (51, [132, 6, 1]), (54, [167, 255, 208]), (57, [22, 4]), (59, [173])] = true := by decide +kernel
theorem dX4_muted_44 : decode cX4_muted 44 = .ok (.lmul, 1) := dk_105 (bs_at BX4_muted_44 0 rfl)
theorem dX4_muted_45 : decode cX4_muted 45 = .ok (.ldc2_w 105, 3) := dk_20 0 105 (bs_at BX4_muted_44 1 rfl) rfl
theorem dX4_muted_48 : decode cX4_muted 48 = .ok (.ldiv, 1) := dk_109 (bs_at BX4_muted_44 2 rfl)
theorem dX4_muted_49 : decode cX4_muted 49 = .ok (.lstore 4, 2) := dk_55 4 (bs_at BX4_muted_44 3 rfl)
theorem dX4_muted_51 : decode cX4_muted 51 = .ok (.iinc 6 1, 3) := dk_132 6 1 (bs_at BX4_muted_44 4 rfl) rfl
theorem dX4_muted_54 : decode cX4_muted 54 = .ok (.goto (-48), 3) := dk_167 255 208 (bs_at BX4_muted_44 5 rfl) rfl
theorem dX4_muted_57 : decode cX4_muted 57 = .ok (.lload 4, 2) := dk_22 4 (bs_at BX4_muted_44 6 rfl)
theorem dX4_muted_59 : decode cX4_muted 59 = .ok (.lreturn, 1) := dk_173 (bs_at BX4_muted_44 7 rfl)
theorem BX4_odds_0 : bsegs (ByteArray.data cX4_odds |>.toList.drop 0) 0 [(0, [20, 0, 93]), (3, [66]), (4, [3]), (5, [54, 5]), (7, [21, 5]), (9, [16, 7]), (11, [162, 0, 29]), (14, [28]), (15, [21, 5]), (17, [122]), (18, [4]), (19, [126]), (20, [4]), (21, [160, 0, 13]), (24, [33]), (25, [43]), (26, [21, 5]), (28, [33]), (29, [184, 0, 95]), (32, [101]), (33, [66]), (34, [132, 5, 1]), (37, [167, 255, 226]), (40, [33])] = true := by decide +kernel
theorem dX4_odds_0 : decode cX4_odds 0 = .ok (.ldc2_w 93, 3) := dk_20 0 93 (bs_at BX4_odds_0 0 rfl) rfl
theorem dX4_odds_3 : decode cX4_odds 3 = .ok (.lstore_n 3, 1) := dk_66 (bs_at BX4_odds_0 1 rfl)
theorem dX4_odds_4 : decode cX4_odds 4 = .ok (.iconst 0, 1) := dk_3 (bs_at BX4_odds_0 2 rfl)
theorem dX4_odds_5 : decode cX4_odds 5 = .ok (.istore 5, 2) := dk_54 5 (bs_at BX4_odds_0 3 rfl)
theorem dX4_odds_7 : decode cX4_odds 7 = .ok (.iload 5, 2) := dk_21 5 (bs_at BX4_odds_0 4 rfl)
theorem dX4_odds_9 : decode cX4_odds 9 = .ok (.bipush 7, 2) := dk_16 7 (bs_at BX4_odds_0 5 rfl) rfl
theorem dX4_odds_11 : decode cX4_odds 11 = .ok (.if_icmp .ge 29, 3) := dk_162 0 29 (bs_at BX4_odds_0 6 rfl) rfl
theorem dX4_odds_14 : decode cX4_odds 14 = .ok (.iload_n 2, 1) := dk_28 (bs_at BX4_odds_0 7 rfl)
theorem dX4_odds_15 : decode cX4_odds 15 = .ok (.iload 5, 2) := dk_21 5 (bs_at BX4_odds_0 8 rfl)
theorem dX4_odds_17 : decode cX4_odds 17 = .ok (.ishr, 1) := dk_122 (bs_at BX4_odds_0 9 rfl)
theorem dX4_odds_18 : decode cX4_odds 18 = .ok (.iconst 1, 1) := dk_4 (bs_at BX4_odds_0 10 rfl)
theorem dX4_odds_19 : decode cX4_odds 19 = .ok (.iand, 1) := dk_126 (bs_at BX4_odds_0 11 rfl)
theorem dX4_odds_20 : decode cX4_odds 20 = .ok (.iconst 1, 1) := dk_4 (bs_at BX4_odds_0 12 rfl)
theorem dX4_odds_21 : decode cX4_odds 21 = .ok (.if_icmp .ne 13, 3) := dk_160 0 13 (bs_at BX4_odds_0 13 rfl) rfl
theorem dX4_odds_24 : decode cX4_odds 24 = .ok (.lload_n 3, 1) := dk_33 (bs_at BX4_odds_0 14 rfl)
theorem dX4_odds_25 : decode cX4_odds 25 = .ok (.aload_n 1, 1) := dk_43 (bs_at BX4_odds_0 15 rfl)
theorem dX4_odds_26 : decode cX4_odds 26 = .ok (.iload 5, 2) := dk_21 5 (bs_at BX4_odds_0 16 rfl)
theorem dX4_odds_28 : decode cX4_odds 28 = .ok (.lload_n 3, 1) := dk_33 (bs_at BX4_odds_0 17 rfl)
theorem dX4_odds_29 : decode cX4_odds 29 = .ok (.invokestatic 95, 3) := dk_184 0 95 (bs_at BX4_odds_0 18 rfl) rfl
theorem dX4_odds_32 : decode cX4_odds 32 = .ok (.lsub, 1) := dk_101 (bs_at BX4_odds_0 19 rfl)
theorem dX4_odds_33 : decode cX4_odds 33 = .ok (.lstore_n 3, 1) := dk_66 (bs_at BX4_odds_0 20 rfl)
theorem dX4_odds_34 : decode cX4_odds 34 = .ok (.iinc 5 1, 3) := dk_132 5 1 (bs_at BX4_odds_0 21 rfl) rfl
theorem dX4_odds_37 : decode cX4_odds 37 = .ok (.goto (-30), 3) := dk_167 255 226 (bs_at BX4_odds_0 22 rfl) rfl
theorem dX4_odds_40 : decode cX4_odds 40 = .ok (.lload_n 3, 1) := dk_33 (bs_at BX4_odds_0 23 rfl)
theorem BX4_odds_41 : bsegs (ByteArray.data cX4_odds |>.toList.drop 41) 41 [(41, [173])] = true := by decide +kernel
theorem dX4_odds_41 : decode cX4_odds 41 = .ok (.lreturn, 1) := dk_173 (bs_at BX4_odds_41 0 rfl)
theorem ggX4_mapSets_X9_fact : GoodIn wsX4_mapSets wsX9_fact := gi_ch ch_X4_mapSets ch_X9_fact (by decide +kernel)
set_option maxRecDepth 20000 in
theorem gX4_mapSets_X9_fact_n45 : GoodIn wsX4_mapSets (wsX9_fact) := ggX4_mapSets_X9_fact
theorem ggX4_hillSet_X4_mapSets : GoodIn wsX4_hillSet wsX4_mapSets := gi_ch ch_X4_hillSet ch_X4_mapSets (by decide +kernel)
theorem gX4_hillSet_X4_mapSets : GoodIn wsX4_hillSet (wsV RX4 77 RX4 yX4_mapSets wsX4_mapSets) := gi_ch ch_X4_hillSet (ch_v [742, 743, 67, 155] rfl ch_X4_mapSets) (by decide +kernel)
theorem ggX4_question_X4_hillSet : GoodIn wsX4_question wsX4_hillSet := gi_ch ch_X4_question ch_X4_hillSet (by decide +kernel)
theorem gX4_question_X4_hillSet : GoodIn wsX4_question (wsV RX4 84 RX4 yX4_hillSet wsX4_hillSet) := gi_ch ch_X4_question (ch_v [751, 740, 66, 155] rfl ch_X4_hillSet) (by decide +kernel)
theorem ggX4_question_X4_burningSets : GoodIn wsX4_question wsX4_burningSets := gi_ch ch_X4_question ch_X4_burningSets (by decide +kernel)
theorem gX4_question_X4_burningSets : GoodIn wsX4_question (wsV RX4 87 RX4 yX4_burningSets wsX4_burningSets) := gi_ch ch_X4_question (ch_v [752, 753, 69, 155] rfl ch_X4_burningSets) (by decide +kernel)
theorem ggX4_muted_X9_fact : GoodIn wsX4_muted wsX9_fact := gi_ch ch_X4_muted ch_X9_fact (by decide +kernel)
set_option maxRecDepth 20000 in
theorem gX4_muted_X9_fact_n45 : GoodIn wsX4_muted (wsX9_fact) := ggX4_muted_X9_fact
theorem ggX4_muted_X9_sings : GoodIn wsX4_muted wsX9_sings := gi_ch ch_X4_muted ch_X9_sings (by decide +kernel)
set_option maxRecDepth 20000 in
theorem gX4_muted_X9_sings_n99 : GoodIn wsX4_muted (wsX9_sings) := ggX4_muted_X9_sings
theorem ggX4_odds_X4_muted : GoodIn wsX4_odds wsX4_muted := gi_ch ch_X4_odds ch_X4_muted (by decide +kernel)
theorem gX4_odds_X4_muted : GoodIn wsX4_odds (va_wsS RX4 95 yX4_muted wsX4_muted) := gi_ch ch_X4_odds (ch_s [763, 764, 155] rfl ch_X4_muted) (by decide +kernel)
noncomputable def Pw (h s : Int) : Prop := 0 ≤ h ∧ h ≤ 8 ∧ s = ((2 ^ h.toNat : Nat) : Int)
theorem Pw.base : Pw 0 1 := ⟨by decide, by decide, rfl⟩
theorem Pw.lt {h s : Int} (q : Pw h s) (h8 : h < 8) : 1 ≤ s ∧ s ≤ 128 := by
  obtain ⟨h0, h1, rfl⟩ := q
  have a := Nat.pow_le_pow_right (show 0 < 2 by decide) (show h.toNat ≤ 7 by omega)
  have b := Nat.one_le_two_pow (n := h.toNat)
  omega
theorem Pw.step {h s : Int} (q : Pw h s) (h8 : h < 8) : Pw (h + 1) (s * 2) := by
  obtain ⟨h0, h1, rfl⟩ := q
  refine ⟨by omega, by omega, ?_⟩
  rw [show (h + 1).toNat = h.toNat + 1 by omega, Nat.pow_succ]
  omega
set_option maxRecDepth 100000 in
noncomputable def E_w_mapSets_l21 (f1 : Nat → Int32) (v_2301 : Int32) (v_2302 : Int32) (rec_2619 : Int32 → Int32 → (Nat → Int32) → (Int32 × (Nat → Int32))) (rec_2764 : Int32 → (Nat → Int32) → (Int32 × (Nat → Int32))) (v_2742 : Int32) (f_2743 : Nat → Int32) : Int32 × (Nat → Int32) :=
  if v_2302 ≤ v_2742 then (Lt (v_2302 * 2 : Int32) (fun x_2767 => Lt (v_2301 + Int32.ofInt 1 : Int32) (fun x_2768 => rec_2619 x_2768 x_2767 f_2743))) else (Lt (v_2302 + v_2742 : Int32) (fun x_2769 => Lt (f_2743 (v_2742 : Int32).toNatClampNeg : Int32) (fun x_2770 => Lt (E_w_fact v_2301 0 f1) (fun r_2771 => Lt (1 <<< (r_2771 &&& 31) : Int32) (fun x_2773 => Lt (x_2770 ||| x_2773 : Int32) (fun x_2774 => Lt (upd f_2743 (x_2769 : Int32).toNatClampNeg x_2774 : Nat → Int32) (fun f_2775 => Lt (v_2742 + Int32.ofInt 1 : Int32) (fun x_2776 => rec_2764 x_2776 f_2775))))))))
set_option maxRecDepth 100000 in
noncomputable def E_w_mapSets_l4 (n : Int32) (f1 : Nat → Int32) (rec_2619 : Int32 → Int32 → (Nat → Int32) → (Int32 × (Nat → Int32))) (v_2301 : Int32) (v_2302 : Int32) (f_2303 : Nat → Int32) : Int32 × (Nat → Int32) :=
  if n ≤ v_2301 then (((v_2302, f_2303) : Int32 × (Nat → Int32))) else (if 8 ≤ v_2301 then (((0, fun _ => 0) : Int32 × (Nat → Int32))) else (Lp (α := Int32 → (Nat → Int32) → (Int32 × (Nat → Int32))) (E_w_mapSets_l21 f1 v_2301 v_2302 rec_2619) (fun _ _ => ((0, fun _ => 0) : Int32 × (Nat → Int32))) ((v_2302.toInt - (0 : Int32).toInt : Int).toNat + 1) 0 f_2303))
set_option maxRecDepth 100000 in
noncomputable def E_w_mapSets (fs : Nat → Int32) (n : Int32) (ho : Int32) (f1 : Nat → Int32) (f2 : Nat → Int32) : Int32 × (Nat → Int32) :=
  Lp (α := Int32 → Int32 → (Nat → Int32) → (Int32 × (Nat → Int32))) (E_w_mapSets_l4 n f1) (fun _ _ _ => ((0, fun _ => 0) : Int32 × (Nat → Int32))) ((9 - (0 : Int32).toInt : Int).toNat + 1) 0 1 fs
set_option maxHeartbeats 4000000 in
set_option maxRecDepth 100000 in
theorem w_mapSets (l : Launch) (D : va_G) (K : Nat → ClassId) (p0 : Nat) (t0 : Nat) (p1 : Nat) (p2 : Nat) (p3 : Nat) (p4 : Nat) (p5 : Nat) (fs : Nat → Int32) (t1 : Nat) (k_1 : Value) (t2 : Nat) (k_3 : Value) (n : Int32) (k_5 : Value) (k_6 : Value) (k_7 : Value) (k_8 : Value) (ho : Int32) (f1 : Nat → Int32) (f2 : Nat → Int32) (sz : Nat) (zn : 0 ≤ n.toInt ∧ n.toInt ≤ 8) : Met l yX4_mapSets wsX4_mapSets ({ frames := 1, cells := 0, slots := 0, locals := 23 }) (va_Pc [.ref p0, .ref t0] (Pre D K [(p0, .inr (4, [.ref p1, .ref p2, .ref p3, .ref p4, .ref p5])), (p5, .inl (K 0, 256, .inl fs)), (t0, .inr (9, [.ref t1, k_1, .ref t2, k_3, .int n, k_5, k_6, k_7, k_8, .int ho])), (t1, .inl (K 0, 56, .inl f1)), (t2, .inl (K 0, 6, .inl f2))] sz)) (va_Qi (S := Su) (fun (r : Int32) (u : Su) => (1 ≤ r.toInt ∧ r.toInt ≤ 256) ∧ ((r, (u.2.1 0)) = E_w_mapSets fs n ho f1 f2) ∧ True) (fun u t => Wd D (va_A [(p0, .inr (4, [.ref p1, .ref p2, .ref p3, .ref p4, .ref p5])), (p5, .inl (K 0, 256, .inl fs)), (t0, .inr (9, [.ref t1, k_1, .ref t2, k_3, .int n, k_5, k_6, k_7, k_8, .int ho])), (t1, .inl (K 0, 56, .inl f1)), (t2, .inl (K 0, 6, .inl f2))] sz) ((fun u => [(p0, .inr (4, [.ref p1, .ref p2, .ref p3, .ref p4, .ref p5])), (p5, .inl (K 0, 256, .inl (u.2.1 0))), (t0, .inr (9, [.ref t1, k_1, .ref t2, k_3, .int n, k_5, k_6, k_7, k_8, .int ho])), (t1, .inl (K 0, 56, .inl f1)), (t2, .inl (K 0, 6, .inl f2))]) u) t) (va_A [(p0, .inr (4, [.ref p1, .ref p2, .ref p3, .ref p4, .ref p5])), (p5, .inl (K 0, 256, .inl fs)), (t0, .inr (9, [.ref t1, k_1, .ref t2, k_3, .int n, k_5, k_6, k_7, k_8, .int ho])), (t1, .inl (K 0, 56, .inl f1)), (t2, .inl (K 0, 6, .inl f2))] sz)) 0 0 (va_A [(p0, .inr (4, [.ref p1, .ref p2, .ref p3, .ref p4, .ref p5])), (p5, .inl (K 0, 256, .inl fs)), (t0, .inr (9, [.ref t1, k_1, .ref t2, k_3, .int n, k_5, k_6, k_7, k_8, .int ho])), (t1, .inl (K 0, 56, .inl f1)), (t2, .inl (K 0, 6, .inl f2))] sz) := by
  refine Met.ofW (cc := cX4_mapSets) (maxL := 5) (ret := (some .int)) (by decide +kernel) rfl ?_
  intro p e s m args below meth c s₁ B hml hv
  obtain ⟨rfl, hsz, hP, hK, hD0, hN⟩ := hv
  have hx := B.exec
  have hb := B.bytes
  have hr := B.returns
  have hts := atoms_spec (ws := wsX4_mapSets) B.pre
  have hown : s.vm.findClass RX4 = some m.cls := findClass_of_methodNamed B.named
  have hlocks := B.notSynchronized
  subst hsz
  have hD := hD0.self (sz := s.heap.size)
  generalize hAe : va_A [(p0, .inr (4, [.ref p1, .ref p2, .ref p3, .ref p4, .ref p5])), (p5, .inl (K 0, 256, .inl fs)), (t0, .inr (9, [.ref t1, k_1, .ref t2, k_3, .int n, k_5, k_6, k_7, k_8, .int ho])), (t1, .inl (K 0, 56, .inl f1)), (t2, .inl (K 0, 6, .inl f2))] s.heap.size = A at hD ⊢
  have hA : ∀ q : Nat, s.heap.size ≤ q → A q := fun q h => by rw [← hAe]; exact Or.inr h
  clear hAe
  have hS : va_S A s.heap s.heap [] := va_S.rf
  replace hP : va_P D vwCl [(p0, .inr (4, [.ref p1, .ref p2, .ref p3, .ref p4, .ref p5])), (p5, .inl (K 0, 256, .inl fs)), (t0, .inr (9, [.ref t1, k_1, .ref t2, k_3, .int n, k_5, k_6, k_7, k_8, .int ho])), (t1, .inl (K 0, 56, .inl f1)), (t2, .inl (K 0, 6, .inl f2))] s.heap := hP
  have hl := lv_entry [.ref p0, .ref t0] (n := 5) (Nat.le_of_ble_eq_true rfl)
  rw [lg_entry_eq]
  generalize (lg_sl [.ref p0, .ref t0] ++ List.replicate (5 - (lg_sl [.ref p0, .ref t0]).length) Slot.unset).toArray = ls at hl ⊢
  have hl : lv_has ls 5 [(0, .ref p0), (1, .ref t0)] := hl
  have hw4 : ∀ w ∈ wsX40, w ∈ wsX4_mapSets := fun w h => (List.mem_cons_of_mem _ (List.mem_append_right _ h))
  have hw9 : ∀ w ∈ wsX90, w ∈ wsX4_mapSets := fun w h => (List.mem_cons_of_mem _ (List.mem_append_left _ (List.mem_append_right _ h)))
  generalize hQ : MQ below _ _ s _ _ _ = Q
  have hE := E_w_mapSets.eq_def fs n ho f1 f2
  refine lv_iconst (v := 1) hx hb dX4_mapSets_0 (by decide +kernel) ?_
  refine lv_istore_n (lv' := [(2, .int 1), (0, .ref p0), (1, .ref t0)]) hx hb dX4_mapSets_1 rfl hl (by decide +kernel) rfl (fun ls hl => ?_)
  refine lv_iconst (v := 0) hx hb dX4_mapSets_2 (by decide +kernel) ?_
  refine lv_istore_n (lv' := [(3, .int 0), (2, .int 1), (0, .ref p0), (1, .ref t0)]) hx hb dX4_mapSets_3 rfl hl (by decide +kernel) rfl (fun ls hl => ?_)
  have lp_2619 : ∀ (nn_ : Nat) (v_2301 : Int32) (v_2302 : Int32) (f_2303 : Nat → Int32) (hv_2301 : 0 ≤ v_2301.toInt ∧ v_2301.toInt ≤ 8) (hv_2302 : 1 ≤ v_2302.toInt ∧ v_2302.toInt ≤ 256) (hr0_lp_2619 : Pw v_2301.toInt v_2302.toInt) (hn : (9 - v_2301.toInt : Int).toNat < nn_) (hE : E_w_mapSets fs n ho f1 f2 = Lp (α := Int32 → Int32 → (Nat → Int32) → (Int32 × (Nat → Int32))) (E_w_mapSets_l4 n f1) (fun _ _ _ => ((0, fun _ => 0) : Int32 × (Nat → Int32))) nn_ v_2301 v_2302 f_2303) (H : Heap) (locs : List Loc) (hP : va_P D vwCl [(p0, .inr (4, [.ref p1, .ref p2, .ref p3, .ref p4, .ref p5])), (p5, .inl (K 0, 256, .inl f_2303)), (t0, .inr (9, [.ref t1, k_1, .ref t2, k_3, .int n, k_5, k_6, k_7, k_8, .int ho])), (t1, .inl (K 0, 56, .inl f1)), (t2, .inl (K 0, 6, .inl f2))] H) (hD : va_D A [(p0, .inr (4, [.ref p1, .ref p2, .ref p3, .ref p4, .ref p5])), (p5, .inl (K 0, 256, .inl f_2303)), (t0, .inr (9, [.ref t1, k_1, .ref t2, k_3, .int n, k_5, k_6, k_7, k_8, .int ho])), (t1, .inl (K 0, 56, .inl f1)), (t2, .inl (K 0, 6, .inl f2))]) (hS : va_S A s.heap H locs) (ls : Array Slot) (hl : lv_has ls 5 [(3, .int v_2301), (2, .int v_2302), (0, .ref p0), (1, .ref t0)]), W p l e ({ frames := 1, cells := 0, slots := 0, locals := 23 }) s m (([.ref p0, .ref t0] : List Value).toArray) below meth c H locs 0 0 Q (F0 m 4 ls []) := by
    clear hE hP hD hS hl
    intro nn_
    induction nn_ with
    | zero =>
      intro v_2301 v_2302 f_2303 hv_2301 hv_2302 hr0_lp_2619 hn hE H locs hP hD hS ls hl
      exact absurd hn (Nat.not_lt_zero _)
    | succ nn_ ih_2620 =>
      intro v_2301 v_2302 f_2303 hv_2301 hv_2302 hr0_lp_2619 hn hE H locs hP hD hS ls hl
      replace hE : E_w_mapSets fs n ho f1 f2 = E_w_mapSets_l4 n f1 (Lp (α := Int32 → Int32 → (Nat → Int32) → (Int32 × (Nat → Int32))) (E_w_mapSets_l4 n f1) (fun _ _ _ => ((0, fun _ => 0) : Int32 × (Nat → Int32))) nn_) v_2301 v_2302 f_2303 := hE
      obtain ⟨rec_2619, hrec_2619⟩ : ∃ z9, z9 = Lp (α := Int32 → Int32 → (Nat → Int32) → (Int32 × (Nat → Int32))) (E_w_mapSets_l4 n f1) (fun _ _ _ => ((0, fun _ => 0) : Int32 × (Nat → Int32))) nn_ := ⟨_, rfl⟩
      rw [← hrec_2619] at hE
      replace hE := hE.trans (E_w_mapSets_l4.eq_def _ _ _ _ _ _)
      refine lv_iload_n hx hb dX4_mapSets_4 rfl (lv_at hl 0 rfl) ?_
      refine lv_aload_n hx hb dX4_mapSets_5 rfl (lv_at hl 3 rfl) ?_
      refine va_getN (ci := 9) (v := .int n) (C := RX9) (T := TX9) (N := 10) hx hb hts hw9 hown hK hP 2 rfl rfl 4 (by decide +kernel) (nst_use hN 106 rfl) (fun _ h9 => h9) rfl dX4_mapSets_6 ?_
      refine lv_icmp_ge (tgt := 68) hx hb dX4_mapSets_9 (by decide +kernel) (fun c_2699 => ?_) (fun c_2699 => ?_)
      · have c_2699i := i_le (x := n.toInt) (y := v_2301.toInt) rfl rfl c_2699
        replace hE := hE.trans (if_pos c_2699)
        refine lv_iload_n hx hb dX4_mapSets_68 rfl (lv_at hl 1 rfl) ?_
        rw [← hQ]
        have hP9 := hP.sub (ws' := [(p0, .inr (4, [.ref p1, .ref p2, .ref p3, .ref p4, .ref p5])), (p5, .inl (K 0, 256, .inl f_2303)), (t0, .inr (9, [.ref t1, k_1, .ref t2, k_3, .int n, k_5, k_6, k_7, k_8, .int ho])), (t1, .inl (K 0, 56, .inl f1)), (t2, .inl (K 0, 6, .inl f2))]) [0, 1, 2, 3, 4] rfl
        have hD9 := hD.sub (ws' := [(p0, .inr (4, [.ref p1, .ref p2, .ref p3, .ref p4, .ref p5])), (p5, .inl (K 0, 256, .inl f_2303)), (t0, .inr (9, [.ref t1, k_1, .ref t2, k_3, .int n, k_5, k_6, k_7, k_8, .int ho])), (t1, .inl (K 0, 56, .inl f1)), (t2, .inl (K 0, 6, .inl f2))]) [0, 1, 2, 3, 4] (by decide +kernel) rfl
        exact W.iret (v := v_2302) hx hb hr (fun t ht hW => ⟨⟨v_2302, ((fun _ => 0, fun i => match i with | _ => f_2303, fun _ => fun _ => 0, fun _ => 0, fun _ => 0, fun _ => fun _ => none) : Su), rfl, ⟨(show 1 ≤ v_2302.toInt ∧ v_2302.toInt ≤ 256 by omega), hE.symm, trivial⟩, (⟨by rw [ht]; exact hP9, hD9⟩ : Wd D A _ t)⟩, hS.F ht⟩) hS.2.2 dX4_mapSets_69
      · have c_2699i := i_nle (x := n.toInt) (y := v_2301.toInt) rfl rfl c_2699
        replace hE := hE.trans (if_neg c_2699)
        refine lv_iload_n hx hb dX4_mapSets_12 rfl (lv_at hl 0 rfl) ?_
        refine lv_bipush (v := 8) hx hb dX4_mapSets_13 (by decide +kernel) ?_
        refine lv_icmp_ge (tgt := 68) hx hb dX4_mapSets_15 (by decide +kernel) (fun c_2700 => ?_) (fun c_2700 => ?_)
        · have c_2700i := i_le (x := 8) (y := v_2301.toInt) rfl rfl c_2700
          exfalso; omega
        · have c_2700i := i_nle (x := 8) (y := v_2301.toInt) rfl rfl c_2700
          replace hE := hE.trans (if_neg c_2700)
          have hpw := Pw.lt hr0_lp_2619 (by omega)
          refine lv_iconst (v := 0) hx hb dX4_mapSets_18 (by decide +kernel) ?_
          refine lv_istore (lv' := [(4, .int 0), (3, .int v_2301), (2, .int v_2302), (0, .ref p0), (1, .ref t0)]) hx hb dX4_mapSets_19 hl (by decide +kernel) rfl (fun ls hl => ?_)
          have lp_2764 : ∀ (nn_ : Nat) (v_2742 : Int32) (f_2743 : Nat → Int32) (hv_2742 : 0 ≤ v_2742.toInt ∧ v_2742.toInt ≤ 128) (hn : (v_2302.toInt - v_2742.toInt : Int).toNat < nn_) (hE : E_w_mapSets fs n ho f1 f2 = Lp (α := Int32 → (Nat → Int32) → (Int32 × (Nat → Int32))) (E_w_mapSets_l21 f1 v_2301 v_2302 rec_2619) (fun _ _ => ((0, fun _ => 0) : Int32 × (Nat → Int32))) nn_ v_2742 f_2743) (H : Heap) (locs : List Loc) (hP : va_P D vwCl [(p0, .inr (4, [.ref p1, .ref p2, .ref p3, .ref p4, .ref p5])), (p5, .inl (K 0, 256, .inl f_2743)), (t0, .inr (9, [.ref t1, k_1, .ref t2, k_3, .int n, k_5, k_6, k_7, k_8, .int ho])), (t1, .inl (K 0, 56, .inl f1)), (t2, .inl (K 0, 6, .inl f2))] H) (hD : va_D A [(p0, .inr (4, [.ref p1, .ref p2, .ref p3, .ref p4, .ref p5])), (p5, .inl (K 0, 256, .inl f_2743)), (t0, .inr (9, [.ref t1, k_1, .ref t2, k_3, .int n, k_5, k_6, k_7, k_8, .int ho])), (t1, .inl (K 0, 56, .inl f1)), (t2, .inl (K 0, 6, .inl f2))]) (hS : va_S A s.heap H locs) (ls : Array Slot) (hl : lv_has ls 5 [(4, .int v_2742), (3, .int v_2301), (2, .int v_2302), (0, .ref p0), (1, .ref t0)]), W p l e ({ frames := 1, cells := 0, slots := 0, locals := 23 }) s m (([.ref p0, .ref t0] : List Value).toArray) below meth c H locs 0 0 Q (F0 m 21 ls []) := by
            clear hE hP hD hS hl
            intro nn_
            induction nn_ with
            | zero =>
              intro v_2742 f_2743 hv_2742 hn hE H locs hP hD hS ls hl
              exact absurd hn (Nat.not_lt_zero _)
            | succ nn_ ih_2765 =>
              intro v_2742 f_2743 hv_2742 hn hE H locs hP hD hS ls hl
              replace hE : E_w_mapSets fs n ho f1 f2 = E_w_mapSets_l21 f1 v_2301 v_2302 rec_2619 (Lp (α := Int32 → (Nat → Int32) → (Int32 × (Nat → Int32))) (E_w_mapSets_l21 f1 v_2301 v_2302 rec_2619) (fun _ _ => ((0, fun _ => 0) : Int32 × (Nat → Int32))) nn_) v_2742 f_2743 := hE
              obtain ⟨rec_2764, hrec_2764⟩ : ∃ z9, z9 = Lp (α := Int32 → (Nat → Int32) → (Int32 × (Nat → Int32))) (E_w_mapSets_l21 f1 v_2301 v_2302 rec_2619) (fun _ _ => ((0, fun _ => 0) : Int32 × (Nat → Int32))) nn_ := ⟨_, rfl⟩
              rw [← hrec_2764] at hE
              replace hE := hE.trans (E_w_mapSets_l21.eq_def _ _ _ _ _ _ _)
              refine lv_iload hx hb dX4_mapSets_21 (lv_at hl 0 rfl) ?_
              refine lv_iload_n hx hb dX4_mapSets_23 rfl (lv_at hl 2 rfl) ?_
              refine lv_icmp_ge (tgt := 58) hx hb dX4_mapSets_24 (by decide +kernel) (fun c_2766 => ?_) (fun c_2766 => ?_)
              · have c_2766i := i_le (x := v_2302.toInt) (y := v_2742.toInt) rfl rfl c_2766
                replace hE := hE.trans (if_pos c_2766)
                refine lv_iload_n hx hb dX4_mapSets_58 rfl (lv_at hl 2 rfl) ?_
                refine lv_iconst (v := 2) hx hb dX4_mapSets_59 (by decide +kernel) ?_
                refine lv_imul hx hb dX4_mapSets_60 ?_
                refine lv_topi (fun x_2767 ex_2767 => ?_)
                replace hE := hE.trans (Lt_in ex_2767)
                have hx_2767 : x_2767.toInt = (v_2302.toInt * 2) := by rw [ex_2767]; exact i_mul rfl (show (2 : Int32).toInt = 2 from rfl) (by omega)
                refine lv_istore_n (lv' := [(2, .int x_2767), (4, .int v_2742), (3, .int v_2301), (0, .ref p0), (1, .ref t0)]) hx hb dX4_mapSets_61 rfl hl (by decide +kernel) rfl (fun ls hl => ?_)
                obtain ⟨x_2768, ex_2768⟩ : ∃ y : Int32, y = v_2301 + Int32.ofInt 1 := ⟨_, rfl⟩
                replace hE := hE.trans (Lt_in ex_2768)
                have hx_2768 : x_2768.toInt = (v_2301.toInt + 1) := by rw [ex_2768]; exact i_add rfl (show (Int32.ofInt 1).toInt = 1 from rfl) (by omega)
                refine lv_iinc (v := x_2768) (lv' := [(3, .int x_2768), (2, .int x_2767), (4, .int v_2742), (0, .ref p0), (1, .ref t0)]) hx hb dX4_mapSets_62 hl (k := 2) rfl (by rw [ex_2768]) (by decide +kernel) rfl (fun ls hl => ?_)
                refine lv_goto (tgt := 4) hx hb dX4_mapSets_65 (by decide +kernel) ?_
                exact ih_2620 x_2768 x_2767 f_2743 (by rw [hx_2768]; omega) (by rw [hx_2767]; omega) (show Pw (x_2768 : Int32).toInt (x_2767 : Int32).toInt by rw [hx_2768, hx_2767]; exact Pw.step hr0_lp_2619 (by omega)) (by omega) (hE.trans (by rw [hrec_2619])) _ _ hP hD hS ls (lv_sub hl [0, 1, 3, 4] rfl)
              · have c_2766i := i_nle (x := v_2302.toInt) (y := v_2742.toInt) rfl rfl c_2766
                replace hE := hE.trans (if_neg c_2766)
                refine lv_aload_n hx hb dX4_mapSets_27 rfl (lv_at hl 3 rfl) ?_
                refine va_get (ci := 4) (v := .ref p5) (C := RX4) (T := TX4) (N := 5) hx hb hts hw4 hown hK hP 0 rfl rfl 4 (by decide +kernel) (hts _ mm_X4_mapSets_328) (fun _ h9 => h9) rfl dX4_mapSets_28 ?_
                refine lv_iload_n hx hb dX4_mapSets_31 rfl (lv_at hl 2 rfl) ?_
                refine lv_iload hx hb dX4_mapSets_32 (lv_at hl 0 rfl) ?_
                refine lv_iadd hx hb dX4_mapSets_34 ?_
                refine lv_topi (fun x_2769 ex_2769 => ?_)
                replace hE := hE.trans (Lt_in ex_2769)
                have hx_2769 : x_2769.toInt = (v_2302.toInt + v_2742.toInt) := by rw [ex_2769]; exact i_add rfl rfl (by omega)
                refine lv_aload_n hx hb dX4_mapSets_35 rfl (lv_at hl 3 rfl) ?_
                refine va_get (ci := 4) (v := .ref p5) (C := RX4) (T := TX4) (N := 5) hx hb hts hw4 hown hK hP 0 rfl rfl 4 (by decide +kernel) (hts _ mm_X4_mapSets_328) (fun _ h9 => h9) rfl dX4_mapSets_36 ?_
                refine lv_iload hx hb dX4_mapSets_39 (lv_at hl 0 rfl) ?_
                refine va_iald hx hb hK hP 1 0 rfl rfl (i_in rfl (by omega)) dX4_mapSets_41 ?_
                refine lv_topi (fun x_2770 ex_2770 => ?_)
                replace hE := hE.trans (Lt_in ex_2770)
                refine lv_iconst (v := 1) hx hb dX4_mapSets_42 (by decide +kernel) ?_
                refine lv_aload_n hx hb dX4_mapSets_43 rfl (lv_at hl 4 rfl) ?_
                refine lv_iload_n hx hb dX4_mapSets_44 rfl (lv_at hl 1 rfl) ?_
                refine lv_iconst (v := 0) hx hb dX4_mapSets_45 (by decide +kernel) ?_
                refine pci (va_runVN (As := [.int v_2301, .int 0]) (rest := [.int 1, .int x_2770, .int x_2769, .ref p5]) ⟨hx, hb, hml, hown, hts⟩ (w_fact l D K t0 v_2301 0 t1 k_1 (.ref t2) k_3 (.int n) k_5 k_6 k_7 k_8 (.int ho) f1 H.size) ⟨va_cnB 2 hts gX4_mapSets_X9_fact_n45 rfl rfl rfl (nst_at hN 84 rfl) (hts _ mm_X4_mapSets_145) (by decide +kernel) ⟨Nat.le_of_ble_eq_true rfl, Nat.le_of_ble_eq_true rfl⟩, (hts _ mm_X4_mapSets_381), (hts _ mm_X4_mapSets_2)⟩ (mkV hK hN (hP.sub [2, 3] rfl) (hD.sub [2, 3] (by decide +kernel) rfl) (ci := 9) (q0 := 0) rfl rfl) rfl rfl hl.1 rfl (lv_room (Nat.le_of_ble_eq_true rfl)) dX4_mapSets_46 ⟨Nat.le_of_ble_eq_true rfl, Nat.le_of_ble_eq_true rfl⟩) (fun r_2771 hw => ?_)
                obtain ⟨k_2772, -⟩ := hw
                replace hE := hE.trans (Lt_in k_2772)
                refine lv_ishl hx hb dX4_mapSets_49 ?_
                refine lv_topi (fun x_2773 ex_2773 => ?_)
                replace hE := hE.trans (Lt_in ex_2773)
                refine lv_ior hx hb dX4_mapSets_50 ?_
                refine lv_topi (fun x_2774 ex_2774 => ?_)
                replace hE := hE.trans (Lt_in ex_2774)
                refine va_iast hx hb hK hP hD hS 1 0 rfl rfl (i_in hx_2769 (by omega)) dX4_mapSets_51 (fun H locs hP0 hD0 hS0 => ?_)
                clear hP hD hS
                have hP := hP0
                have hD := hD0
                have hS := hS0
                clear hP0 hD0 hS0
                generalize hf_2775 : (upd f_2743 (x_2769 : Int32).toNatClampNeg x_2774) = f_2775 at hP hD
                replace hE := hE.trans (Lt_in hf_2775.symm)
                replace hP : va_P D vwCl [(p0, .inr (4, [.ref p1, .ref p2, .ref p3, .ref p4, .ref p5])), (p5, .inl (K 0, 256, .inl f_2775)), (t0, .inr (9, [.ref t1, k_1, .ref t2, k_3, .int n, k_5, k_6, k_7, k_8, .int ho])), (t1, .inl (K 0, 56, .inl f1)), (t2, .inl (K 0, 6, .inl f2))] H := hP
                replace hD : va_D A [(p0, .inr (4, [.ref p1, .ref p2, .ref p3, .ref p4, .ref p5])), (p5, .inl (K 0, 256, .inl f_2775)), (t0, .inr (9, [.ref t1, k_1, .ref t2, k_3, .int n, k_5, k_6, k_7, k_8, .int ho])), (t1, .inl (K 0, 56, .inl f1)), (t2, .inl (K 0, 6, .inl f2))] := hD
                obtain ⟨x_2776, ex_2776⟩ : ∃ y : Int32, y = v_2742 + Int32.ofInt 1 := ⟨_, rfl⟩
                replace hE := hE.trans (Lt_in ex_2776)
                have hx_2776 : x_2776.toInt = (v_2742.toInt + 1) := by rw [ex_2776]; exact i_add rfl (show (Int32.ofInt 1).toInt = 1 from rfl) (by omega)
                refine lv_iinc (v := x_2776) (lv' := [(4, .int x_2776), (3, .int v_2301), (2, .int v_2302), (0, .ref p0), (1, .ref t0)]) hx hb dX4_mapSets_52 hl (k := 0) rfl (by rw [ex_2776]) (by decide +kernel) rfl (fun ls hl => ?_)
                refine lv_goto (tgt := 21) hx hb dX4_mapSets_55 (by decide +kernel) ?_
                exact ih_2765 x_2776 f_2775 (by rw [hx_2776]; omega) (by omega) (hE.trans (by rw [hrec_2764])) _ _ hP hD hS ls (lv_sub hl [0, 1, 2, 3, 4] rfl)
          exact lp_2764 ((v_2302.toInt - (0 : Int32).toInt : Int).toNat + 1) 0 f_2303 (by decide +kernel) (Nat.lt_succ_self _) hE _ _ hP hD hS ls (lv_sub hl [0, 1, 2, 3, 4] rfl)
  have hz_2777 : (0 : Int32).toInt = 0 := rfl
  have hz_2778 : (1 : Int32).toInt = 1 := rfl
  exact lp_2619 ((9 - (0 : Int32).toInt : Int).toNat + 1) 0 1 fs (by decide +kernel) (by decide +kernel) (show Pw (0 : Int32).toInt (1 : Int32).toInt by exact Pw.base) (Nat.lt_succ_self _) hE _ _ hP hD hS ls (lv_sub hl [0, 1, 2, 3] rfl)
set_option maxRecDepth 100000 in
noncomputable def E_w_hillSet_j44 (v_351 : Int32) (rec_379 : Int32 → Int32 → (Int32 × (Nat → Int32))) (v_387 : Int32) : Int32 × (Nat → Int32) :=
  Lt (v_351 + Int32.ofInt 1 : Int32) (fun x_390 => rec_379 x_390 v_387)
set_option maxRecDepth 100000 in
noncomputable def E_w_hillSet_l12 (x : Int32) (ho : Int32) (r_283 : Int32) (u_284_2_1_0 : Nat → Int32) (rec_379 : Int32 → Int32 → (Int32 × (Nat → Int32))) (v_351 : Int32) (v_352 : Int32) : Int32 × (Nat → Int32) :=
  if r_283 ≤ v_351 then (if x = (-1) then (((v_352, u_284_2_1_0) : Int32 × (Nat → Int32))) else ((((-1), u_284_2_1_0) : Int32 × (Nat → Int32)))) else (Lt (u_284_2_1_0 (v_351 : Int32).toNatClampNeg : Int32) (fun x_383 => if x_383 = ho then (if v_352 = x then (((v_351, u_284_2_1_0) : Int32 × (Nat → Int32))) else (Lt (v_352 + Int32.ofInt 1 : Int32) (fun x_393 => E_w_hillSet_j44 v_351 rec_379 x_393))) else (E_w_hillSet_j44 v_351 rec_379 v_352)))
set_option maxRecDepth 100000 in
noncomputable def E_w_hillSet (x : Int32) (fs : Nat → Int32) (n : Int32) (ho : Int32) (f1 : Nat → Int32) (f2 : Nat → Int32) : Int32 × (Nat → Int32) :=
  Lt2 (E_w_mapSets fs n ho f1 f2) (fun r_283 u_284_2_1_0 => Lp (α := Int32 → Int32 → (Int32 × (Nat → Int32))) (E_w_hillSet_l12 x ho r_283 u_284_2_1_0) (fun _ _ => ((0, fun _ => 0) : Int32 × (Nat → Int32))) ((257 - (0 : Int32).toInt : Int).toNat + 1) 0 0)
set_option maxHeartbeats 4000000 in
set_option maxRecDepth 100000 in
theorem w_hillSet (l : Launch) (D : va_G) (K : Nat → ClassId) (p0 : Nat) (t0 : Nat) (x : Int32) (p1 : Nat) (p2 : Nat) (p3 : Nat) (p4 : Nat) (p5 : Nat) (fs : Nat → Int32) (t1 : Nat) (k_1 : Value) (t2 : Nat) (k_3 : Value) (n : Int32) (k_5 : Value) (k_6 : Value) (k_7 : Value) (k_8 : Value) (ho : Int32) (f1 : Nat → Int32) (f2 : Nat → Int32) (sz : Nat) (zn : 0 ≤ n.toInt ∧ n.toInt ≤ 8) : Met l yX4_hillSet wsX4_hillSet ({ frames := 2, cells := 0, slots := 0, locals := 47 }) (va_Pc [.ref p0, .ref t0, .int x] (Pre D K [(p0, .inr (4, [.ref p1, .ref p2, .ref p3, .ref p4, .ref p5])), (p5, .inl (K 0, 256, .inl fs)), (t0, .inr (9, [.ref t1, k_1, .ref t2, k_3, .int n, k_5, k_6, k_7, k_8, .int ho])), (t1, .inl (K 0, 56, .inl f1)), (t2, .inl (K 0, 6, .inl f2))] sz)) (va_Qi (S := Su) (fun (r : Int32) (u : Su) => ((r, (u.2.1 0)) = E_w_hillSet x fs n ho f1 f2) ∧ True) (fun u t => Wd D (va_A [(p0, .inr (4, [.ref p1, .ref p2, .ref p3, .ref p4, .ref p5])), (p5, .inl (K 0, 256, .inl fs)), (t0, .inr (9, [.ref t1, k_1, .ref t2, k_3, .int n, k_5, k_6, k_7, k_8, .int ho])), (t1, .inl (K 0, 56, .inl f1)), (t2, .inl (K 0, 6, .inl f2))] sz) ((fun u => [(p0, .inr (4, [.ref p1, .ref p2, .ref p3, .ref p4, .ref p5])), (p5, .inl (K 0, 256, .inl (u.2.1 0))), (t0, .inr (9, [.ref t1, k_1, .ref t2, k_3, .int n, k_5, k_6, k_7, k_8, .int ho])), (t1, .inl (K 0, 56, .inl f1)), (t2, .inl (K 0, 6, .inl f2))]) u) t) (va_A [(p0, .inr (4, [.ref p1, .ref p2, .ref p3, .ref p4, .ref p5])), (p5, .inl (K 0, 256, .inl fs)), (t0, .inr (9, [.ref t1, k_1, .ref t2, k_3, .int n, k_5, k_6, k_7, k_8, .int ho])), (t1, .inl (K 0, 56, .inl f1)), (t2, .inl (K 0, 6, .inl f2))] sz)) 0 0 (va_A [(p0, .inr (4, [.ref p1, .ref p2, .ref p3, .ref p4, .ref p5])), (p5, .inl (K 0, 256, .inl fs)), (t0, .inr (9, [.ref t1, k_1, .ref t2, k_3, .int n, k_5, k_6, k_7, k_8, .int ho])), (t1, .inl (K 0, 56, .inl f1)), (t2, .inl (K 0, 6, .inl f2))] sz) := by
  refine Met.ofW (cc := cX4_hillSet) (maxL := 6) (ret := (some .int)) (by decide +kernel) rfl ?_
  intro p e s m args below meth c s₁ B hml hv
  obtain ⟨rfl, hsz, hP, hK, hD0, hN⟩ := hv
  have hx := B.exec
  have hb := B.bytes
  have hr := B.returns
  have hts := atoms_spec (ws := wsX4_hillSet) B.pre
  have hown : s.vm.findClass RX4 = some m.cls := findClass_of_methodNamed B.named
  have hlocks := B.notSynchronized
  subst hsz
  have hD := hD0.self (sz := s.heap.size)
  generalize hAe : va_A [(p0, .inr (4, [.ref p1, .ref p2, .ref p3, .ref p4, .ref p5])), (p5, .inl (K 0, 256, .inl fs)), (t0, .inr (9, [.ref t1, k_1, .ref t2, k_3, .int n, k_5, k_6, k_7, k_8, .int ho])), (t1, .inl (K 0, 56, .inl f1)), (t2, .inl (K 0, 6, .inl f2))] s.heap.size = A at hD ⊢
  have hA : ∀ q : Nat, s.heap.size ≤ q → A q := fun q h => by rw [← hAe]; exact Or.inr h
  clear hAe
  have hS : va_S A s.heap s.heap [] := va_S.rf
  replace hP : va_P D vwCl [(p0, .inr (4, [.ref p1, .ref p2, .ref p3, .ref p4, .ref p5])), (p5, .inl (K 0, 256, .inl fs)), (t0, .inr (9, [.ref t1, k_1, .ref t2, k_3, .int n, k_5, k_6, k_7, k_8, .int ho])), (t1, .inl (K 0, 56, .inl f1)), (t2, .inl (K 0, 6, .inl f2))] s.heap := hP
  have hl := lv_entry [.ref p0, .ref t0, .int x] (n := 6) (Nat.le_of_ble_eq_true rfl)
  rw [lg_entry_eq]
  generalize (lg_sl [.ref p0, .ref t0, .int x] ++ List.replicate (6 - (lg_sl [.ref p0, .ref t0, .int x]).length) Slot.unset).toArray = ls at hl ⊢
  have hl : lv_has ls 6 [(0, .ref p0), (1, .ref t0), (2, .int x)] := hl
  have hw4 : ∀ w ∈ wsX40, w ∈ wsX4_hillSet := fun w h => (List.mem_cons_of_mem _ (List.mem_append_left _ (List.mem_append_right _ h)))
  have hw9 : ∀ w ∈ wsX90, w ∈ wsX4_hillSet := fun w h => (List.mem_cons_of_mem _ (List.mem_append_right _ h))
  generalize hQ : MQ below _ _ s _ _ _ = Q
  have hE := E_w_hillSet.eq_def x fs n ho f1 f2
  refine lv_aload_n hx hb dX4_hillSet_0 rfl (lv_at hl 0 rfl) ?_
  refine lv_aload_n hx hb dX4_hillSet_1 rfl (lv_at hl 1 rfl) ?_
  refine kci (S := Su) (wr := []) (va_runV (As := [.ref t0]) (rest := []) ⟨hx, hb, hml, hown, hts⟩ (w_mapSets l D K p0 t0 p1 p2 p3 p4 p5 fs t1 k_1 t2 k_3 n k_5 k_6 k_7 k_8 ho f1 f2 s.heap.size (by first | omega | decide)) (cwV 1 hts gX4_hillSet_X4_mapSets rfl rfl rfl (by decide +kernel) ⟨Nat.le_of_ble_eq_true rfl, Nat.le_of_ble_eq_true rfl⟩) (mkV hK hN (hP.sub [0, 1, 2, 3, 4] rfl) (hD.sub [0, 1, 2, 3, 4] (by decide +kernel) rfl) (ci := 4) (q0 := 0) rfl rfl) rfl rfl hl.1 rfl (lv_room (Nat.le_of_ble_eq_true rfl)) dX4_hillSet_2 ⟨Nat.le_of_ble_eq_true rfl, Nat.le_of_ble_eq_true rfl⟩) hP hD hS hA [0, 1, 2, 3, 4] [] rfl rfl (by decide +kernel) (by decide +kernel) (fun r_283 u_284 H locs hw hP0 hD0 hS0 => ?_)
  clear hP hD hS
  have hP := hP0
  have hD := hD0
  have hS := hS0
  clear hP0 hD0 hS0
  replace hP : va_P D vwCl [(p0, .inr (4, [.ref p1, .ref p2, .ref p3, .ref p4, .ref p5])), (p5, .inl (K 0, 256, .inl (u_284.2.1 0))), (t0, .inr (9, [.ref t1, k_1, .ref t2, k_3, .int n, k_5, k_6, k_7, k_8, .int ho])), (t1, .inl (K 0, 56, .inl f1)), (t2, .inl (K 0, 6, .inl f2))] H := hP
  replace hD : va_D A [(p0, .inr (4, [.ref p1, .ref p2, .ref p3, .ref p4, .ref p5])), (p5, .inl (K 0, 256, .inl (u_284.2.1 0))), (t0, .inr (9, [.ref t1, k_1, .ref t2, k_3, .int n, k_5, k_6, k_7, k_8, .int ho])), (t1, .inl (K 0, 56, .inl f1)), (t2, .inl (K 0, 6, .inl f2))] := hD
  obtain ⟨h_286, k_285, -⟩ := hw
  replace hE := hE.trans (Lt2_in k_285)
  refine lv_istore_n (lv' := [(3, .int r_283), (0, .ref p0), (1, .ref t0), (2, .int x)]) hx hb dX4_hillSet_5 rfl hl (by decide +kernel) rfl (fun ls hl => ?_)
  refine lv_iconst (v := 0) hx hb dX4_hillSet_6 (by decide +kernel) ?_
  refine lv_istore (lv' := [(4, .int 0), (3, .int r_283), (0, .ref p0), (1, .ref t0), (2, .int x)]) hx hb dX4_hillSet_7 hl (by decide +kernel) rfl (fun ls hl => ?_)
  refine lv_iconst (v := 0) hx hb dX4_hillSet_9 (by decide +kernel) ?_
  refine lv_istore (lv' := [(5, .int 0), (4, .int 0), (3, .int r_283), (0, .ref p0), (1, .ref t0), (2, .int x)]) hx hb dX4_hillSet_10 hl (by decide +kernel) rfl (fun ls hl => ?_)
  have lp_379 : ∀ (nn_ : Nat) (v_351 : Int32) (v_352 : Int32) (hv_351 : 0 ≤ v_351.toInt ∧ v_351.toInt ≤ 256) (hn : (257 - v_351.toInt : Int).toNat < nn_) (hE : E_w_hillSet x fs n ho f1 f2 = Lp (α := Int32 → Int32 → (Int32 × (Nat → Int32))) (E_w_hillSet_l12 x ho r_283 (u_284.2.1 0)) (fun _ _ => ((0, fun _ => 0) : Int32 × (Nat → Int32))) nn_ v_351 v_352) (H : Heap) (locs : List Loc) (hP : va_P D vwCl [(p0, .inr (4, [.ref p1, .ref p2, .ref p3, .ref p4, .ref p5])), (p5, .inl (K 0, 256, .inl (u_284.2.1 0))), (t0, .inr (9, [.ref t1, k_1, .ref t2, k_3, .int n, k_5, k_6, k_7, k_8, .int ho])), (t1, .inl (K 0, 56, .inl f1)), (t2, .inl (K 0, 6, .inl f2))] H) (hD : va_D A [(p0, .inr (4, [.ref p1, .ref p2, .ref p3, .ref p4, .ref p5])), (p5, .inl (K 0, 256, .inl (u_284.2.1 0))), (t0, .inr (9, [.ref t1, k_1, .ref t2, k_3, .int n, k_5, k_6, k_7, k_8, .int ho])), (t1, .inl (K 0, 56, .inl f1)), (t2, .inl (K 0, 6, .inl f2))]) (hS : va_S A s.heap H locs) (ls : Array Slot) (hl : lv_has ls 6 [(5, .int v_351), (4, .int v_352), (3, .int r_283), (0, .ref p0), (1, .ref t0), (2, .int x)]), W p l e ({ frames := 2, cells := 0, slots := 0, locals := 47 }) s m (([.ref p0, .ref t0, .int x] : List Value).toArray) below meth c H locs 0 0 Q (F0 m 12 ls []) := by
    clear hE hP hD hS hl
    intro nn_
    induction nn_ with
    | zero =>
      intro v_351 v_352 hv_351 hn hE H locs hP hD hS ls hl
      exact absurd hn (Nat.not_lt_zero _)
    | succ nn_ ih_380 =>
      intro v_351 v_352 hv_351 hn hE H locs hP hD hS ls hl
      replace hE : E_w_hillSet x fs n ho f1 f2 = E_w_hillSet_l12 x ho r_283 (u_284.2.1 0) (Lp (α := Int32 → Int32 → (Int32 × (Nat → Int32))) (E_w_hillSet_l12 x ho r_283 (u_284.2.1 0)) (fun _ _ => ((0, fun _ => 0) : Int32 × (Nat → Int32))) nn_) v_351 v_352 := hE
      obtain ⟨rec_379, hrec_379⟩ : ∃ z9, z9 = Lp (α := Int32 → Int32 → (Int32 × (Nat → Int32))) (E_w_hillSet_l12 x ho r_283 (u_284.2.1 0)) (fun _ _ => ((0, fun _ => 0) : Int32 × (Nat → Int32))) nn_ := ⟨_, rfl⟩
      rw [← hrec_379] at hE
      replace hE := hE.trans (E_w_hillSet_l12.eq_def _ _ _ _ _ _ _)
      refine lv_iload hx hb dX4_hillSet_12 (lv_at hl 0 rfl) ?_
      refine lv_iload_n hx hb dX4_hillSet_14 rfl (lv_at hl 2 rfl) ?_
      refine lv_icmp_ge (tgt := 50) hx hb dX4_hillSet_15 (by decide +kernel) (fun c_381 => ?_) (fun c_381 => ?_)
      · have c_381i := i_le (x := r_283.toInt) (y := v_351.toInt) rfl rfl c_381
        replace hE := hE.trans (if_pos c_381)
        refine lv_iload_n hx hb dX4_hillSet_50 rfl (lv_at hl 5 rfl) ?_
        refine lv_iconst (v := (-1)) hx hb dX4_hillSet_51 (by decide +kernel) ?_
        refine lv_icmp_ne (tgt := 60) hx hb dX4_hillSet_52 (by decide +kernel) (fun c_382 => ?_) (fun c_382 => ?_)
        · have c_382i := i_ne (x := x.toInt) (y := (-1)) rfl rfl c_382
          replace hE := hE.trans (if_neg c_382)
          refine lv_iconst (v := (-1)) hx hb dX4_hillSet_60 (by decide +kernel) ?_
          rw [← hQ]
          have hP9 := hP.sub (ws' := [(p0, .inr (4, [.ref p1, .ref p2, .ref p3, .ref p4, .ref p5])), (p5, .inl (K 0, 256, .inl (u_284.2.1 0))), (t0, .inr (9, [.ref t1, k_1, .ref t2, k_3, .int n, k_5, k_6, k_7, k_8, .int ho])), (t1, .inl (K 0, 56, .inl f1)), (t2, .inl (K 0, 6, .inl f2))]) [0, 1, 2, 3, 4] rfl
          have hD9 := hD.sub (ws' := [(p0, .inr (4, [.ref p1, .ref p2, .ref p3, .ref p4, .ref p5])), (p5, .inl (K 0, 256, .inl (u_284.2.1 0))), (t0, .inr (9, [.ref t1, k_1, .ref t2, k_3, .int n, k_5, k_6, k_7, k_8, .int ho])), (t1, .inl (K 0, 56, .inl f1)), (t2, .inl (K 0, 6, .inl f2))]) [0, 1, 2, 3, 4] (by decide +kernel) rfl
          exact W.iret (v := (-1)) hx hb hr (fun t ht hW => ⟨⟨(-1), ((fun _ => 0, fun i => match i with | _ => (u_284.2.1 0), fun _ => fun _ => 0, fun _ => 0, fun _ => 0, fun _ => fun _ => none) : Su), rfl, ⟨hE.symm, trivial⟩, (⟨by rw [ht]; exact hP9, hD9⟩ : Wd D A _ t)⟩, hS.F ht⟩) hS.2.2 dX4_hillSet_61
        · have c_382i := i_eq (x := x.toInt) (y := (-1)) rfl rfl c_382
          replace hE := hE.trans (if_pos c_382)
          refine lv_iload hx hb dX4_hillSet_55 (lv_at hl 1 rfl) ?_
          refine lv_goto (tgt := 61) hx hb dX4_hillSet_57 (by decide +kernel) ?_
          rw [← hQ]
          have hP9 := hP.sub (ws' := [(p0, .inr (4, [.ref p1, .ref p2, .ref p3, .ref p4, .ref p5])), (p5, .inl (K 0, 256, .inl (u_284.2.1 0))), (t0, .inr (9, [.ref t1, k_1, .ref t2, k_3, .int n, k_5, k_6, k_7, k_8, .int ho])), (t1, .inl (K 0, 56, .inl f1)), (t2, .inl (K 0, 6, .inl f2))]) [0, 1, 2, 3, 4] rfl
          have hD9 := hD.sub (ws' := [(p0, .inr (4, [.ref p1, .ref p2, .ref p3, .ref p4, .ref p5])), (p5, .inl (K 0, 256, .inl (u_284.2.1 0))), (t0, .inr (9, [.ref t1, k_1, .ref t2, k_3, .int n, k_5, k_6, k_7, k_8, .int ho])), (t1, .inl (K 0, 56, .inl f1)), (t2, .inl (K 0, 6, .inl f2))]) [0, 1, 2, 3, 4] (by decide +kernel) rfl
          exact W.iret (v := v_352) hx hb hr (fun t ht hW => ⟨⟨v_352, ((fun _ => 0, fun i => match i with | _ => (u_284.2.1 0), fun _ => fun _ => 0, fun _ => 0, fun _ => 0, fun _ => fun _ => none) : Su), rfl, ⟨hE.symm, trivial⟩, (⟨by rw [ht]; exact hP9, hD9⟩ : Wd D A _ t)⟩, hS.F ht⟩) hS.2.2 dX4_hillSet_61
      · have c_381i := i_nle (x := r_283.toInt) (y := v_351.toInt) rfl rfl c_381
        replace hE := hE.trans (if_neg c_381)
        refine lv_aload_n hx hb dX4_hillSet_18 rfl (lv_at hl 3 rfl) ?_
        refine va_get (ci := 4) (v := .ref p5) (C := RX4) (T := TX4) (N := 5) hx hb hts hw4 hown hK hP 0 rfl rfl 4 (by decide +kernel) (hts _ mm_X4_hillSet_328) (fun _ h9 => h9) rfl dX4_hillSet_19 ?_
        refine lv_iload hx hb dX4_hillSet_22 (lv_at hl 0 rfl) ?_
        refine va_iald hx hb hK hP 1 0 rfl rfl (i_in rfl (by omega)) dX4_hillSet_24 ?_
        refine lv_topi (fun x_383 ex_383 => ?_)
        replace hE := hE.trans (Lt_in ex_383)
        refine lv_aload_n hx hb dX4_hillSet_25 rfl (lv_at hl 4 rfl) ?_
        refine va_getN (ci := 9) (v := .int ho) (C := RX9) (T := TX9) (N := 10) hx hb hts hw9 hown hK hP 2 rfl rfl 9 (by decide +kernel) (nst_use hN 117 rfl) (fun _ h9 => h9) rfl dX4_hillSet_26 ?_
        have j_389 : ∀ (v_387 : Int32) (hE : E_w_hillSet x fs n ho f1 f2 = E_w_hillSet_j44 v_351 rec_379 v_387) (H : Heap) (locs : List Loc) (hP : va_P D vwCl [(p0, .inr (4, [.ref p1, .ref p2, .ref p3, .ref p4, .ref p5])), (p5, .inl (K 0, 256, .inl (u_284.2.1 0))), (t0, .inr (9, [.ref t1, k_1, .ref t2, k_3, .int n, k_5, k_6, k_7, k_8, .int ho])), (t1, .inl (K 0, 56, .inl f1)), (t2, .inl (K 0, 6, .inl f2))] H) (hD : va_D A [(p0, .inr (4, [.ref p1, .ref p2, .ref p3, .ref p4, .ref p5])), (p5, .inl (K 0, 256, .inl (u_284.2.1 0))), (t0, .inr (9, [.ref t1, k_1, .ref t2, k_3, .int n, k_5, k_6, k_7, k_8, .int ho])), (t1, .inl (K 0, 56, .inl f1)), (t2, .inl (K 0, 6, .inl f2))]) (hS : va_S A s.heap H locs) (ls : Array Slot) (hl : lv_has ls 6 [(5, .int v_351), (4, .int v_387), (3, .int r_283), (0, .ref p0), (1, .ref t0), (2, .int x)]), W p l e ({ frames := 2, cells := 0, slots := 0, locals := 47 }) s m (([.ref p0, .ref t0, .int x] : List Value).toArray) below meth c H locs 0 0 Q (F0 m 44 ls []) := by
          clear hE hP hD hS hl
          intro v_387 hE H locs hP hD hS ls hl
          replace hE := hE.trans (E_w_hillSet_j44.eq_def _ _ _)
          obtain ⟨x_390, ex_390⟩ : ∃ y : Int32, y = v_351 + Int32.ofInt 1 := ⟨_, rfl⟩
          replace hE := hE.trans (Lt_in ex_390)
          have hx_390 : x_390.toInt = (v_351.toInt + 1) := by rw [ex_390]; exact i_add rfl (show (Int32.ofInt 1).toInt = 1 from rfl) (by omega)
          refine lv_iinc (v := x_390) (lv' := [(5, .int x_390), (4, .int v_387), (3, .int r_283), (0, .ref p0), (1, .ref t0), (2, .int x)]) hx hb dX4_hillSet_44 hl (k := 0) rfl (by rw [ex_390]) (by decide +kernel) rfl (fun ls hl => ?_)
          refine lv_goto (tgt := 12) hx hb dX4_hillSet_47 (by decide +kernel) ?_
          exact ih_380 x_390 v_387 (by rw [hx_390]; omega) (by omega) (hE.trans (by rw [hrec_379])) _ _ hP hD hS ls (lv_sub hl [0, 1, 2, 3, 4, 5] rfl)
        refine lv_icmp_ne (tgt := 44) hx hb dX4_hillSet_29 (by decide +kernel) (fun c_391 => ?_) (fun c_391 => ?_)
        · have c_391i := i_ne (x := x_383.toInt) (y := ho.toInt) rfl rfl c_391
          replace hE := hE.trans (if_neg c_391)
          exact j_389 v_352  hE _ _ hP hD hS ls (lv_sub hl [0, 1, 2, 3, 4, 5] rfl)
        · have c_391i := i_eq (x := x_383.toInt) (y := ho.toInt) rfl rfl c_391
          replace hE := hE.trans (if_pos c_391)
          refine lv_iload hx hb dX4_hillSet_32 (lv_at hl 1 rfl) ?_
          refine lv_iload_n hx hb dX4_hillSet_34 rfl (lv_at hl 5 rfl) ?_
          refine lv_icmp_ne (tgt := 41) hx hb dX4_hillSet_35 (by decide +kernel) (fun c_392 => ?_) (fun c_392 => ?_)
          · have c_392i := i_ne (x := v_352.toInt) (y := x.toInt) rfl rfl c_392
            replace hE := hE.trans (if_neg c_392)
            obtain ⟨x_393, ex_393⟩ : ∃ y : Int32, y = v_352 + Int32.ofInt 1 := ⟨_, rfl⟩
            replace hE := hE.trans (Lt_in ex_393)
            refine lv_iinc (v := x_393) (lv' := [(4, .int x_393), (5, .int v_351), (3, .int r_283), (0, .ref p0), (1, .ref t0), (2, .int x)]) hx hb dX4_hillSet_41 hl (k := 1) rfl (by rw [ex_393]) (by decide +kernel) rfl (fun ls hl => ?_)
            exact j_389 x_393  hE _ _ hP hD hS ls (lv_sub hl [1, 0, 2, 3, 4, 5] rfl)
          · have c_392i := i_eq (x := v_352.toInt) (y := x.toInt) rfl rfl c_392
            replace hE := hE.trans (if_pos c_392)
            refine lv_iload hx hb dX4_hillSet_38 (lv_at hl 0 rfl) ?_
            rw [← hQ]
            have hP9 := hP.sub (ws' := [(p0, .inr (4, [.ref p1, .ref p2, .ref p3, .ref p4, .ref p5])), (p5, .inl (K 0, 256, .inl (u_284.2.1 0))), (t0, .inr (9, [.ref t1, k_1, .ref t2, k_3, .int n, k_5, k_6, k_7, k_8, .int ho])), (t1, .inl (K 0, 56, .inl f1)), (t2, .inl (K 0, 6, .inl f2))]) [0, 1, 2, 3, 4] rfl
            have hD9 := hD.sub (ws' := [(p0, .inr (4, [.ref p1, .ref p2, .ref p3, .ref p4, .ref p5])), (p5, .inl (K 0, 256, .inl (u_284.2.1 0))), (t0, .inr (9, [.ref t1, k_1, .ref t2, k_3, .int n, k_5, k_6, k_7, k_8, .int ho])), (t1, .inl (K 0, 56, .inl f1)), (t2, .inl (K 0, 6, .inl f2))]) [0, 1, 2, 3, 4] (by decide +kernel) rfl
            exact W.iret (v := v_351) hx hb hr (fun t ht hW => ⟨⟨v_351, ((fun _ => 0, fun i => match i with | _ => (u_284.2.1 0), fun _ => fun _ => 0, fun _ => 0, fun _ => 0, fun _ => fun _ => none) : Su), rfl, ⟨hE.symm, trivial⟩, (⟨by rw [ht]; exact hP9, hD9⟩ : Wd D A _ t)⟩, hS.F ht⟩) hS.2.2 dX4_hillSet_40
  exact lp_379 ((257 - (0 : Int32).toInt : Int).toNat + 1) 0 0 (by decide +kernel) (Nat.lt_succ_self _) hE _ _ hP hD hS ls (lv_sub hl [0, 1, 2, 3, 4, 5] rfl)
set_option maxRecDepth 100000 in
noncomputable def E_w_burningSets_j53 (v_766 : Int32) (rec_836 : Int32 → Int32 → (Int32)) (v_863 : Int32) : Int32 :=
  Lt (v_766 + Int32.ofInt 1 : Int32) (fun x_866 => rec_836 x_866 v_863)
set_option maxRecDepth 100000 in
noncomputable def E_w_burningSets_l5 (x : Int32) (fs : Nat → Int32) (n : Int32) (ho : Int32) (rec_836 : Int32 → Int32 → (Int32)) (v_766 : Int32) (v_767 : Int32) : Int32 :=
  Lt (1 <<< (n &&& 31) : Int32) (fun x_838 => if x_838 ≤ v_766 then ((v_767 : Int32)) else (if 256 ≤ v_766 then (((0) : Int32)) else (Lt (v_766 >>> (x &&& 31) : Int32) (fun x_857 => Lt (x_857 &&& 1 : Int32) (fun x_858 => if x_858 = 1 then (Lt (fs (v_766 : Int32).toNatClampNeg : Int32) (fun x_868 => if x_868 = ho then (Lt (v_767 + Int32.ofInt 1 : Int32) (fun x_870 => E_w_burningSets_j53 v_766 rec_836 x_870)) else (E_w_burningSets_j53 v_766 rec_836 v_767))) else (E_w_burningSets_j53 v_766 rec_836 v_767))))))
set_option maxRecDepth 100000 in
noncomputable def E_w_burningSets (x : Int32) (fs : Nat → Int32) (n : Int32) (ho : Int32) (f1 : Nat → Int32) (f2 : Nat → Int32) : Int32 :=
  Lp (α := Int32 → Int32 → (Int32)) (E_w_burningSets_l5 x fs n ho) (fun _ _ => ((0) : Int32)) ((257 - (0 : Int32).toInt : Int).toNat + 1) 0 0
set_option maxHeartbeats 4000000 in
set_option maxRecDepth 100000 in
theorem w_burningSets (l : Launch) (D : va_G) (K : Nat → ClassId) (p0 : Nat) (t0 : Nat) (x : Int32) (p1 : Nat) (p2 : Nat) (p3 : Nat) (p4 : Nat) (p5 : Nat) (fs : Nat → Int32) (t1 : Nat) (k_1 : Value) (t2 : Nat) (k_3 : Value) (n : Int32) (k_5 : Value) (k_6 : Value) (k_7 : Value) (k_8 : Value) (ho : Int32) (f1 : Nat → Int32) (f2 : Nat → Int32) (sz : Nat) (zn : 0 ≤ n.toInt ∧ n.toInt ≤ 8) : Met l yX4_burningSets wsX4_burningSets ({ frames := 0, cells := 0, slots := 0, locals := 0 }) (va_Pc [.ref p0, .ref t0, .int x] (Pre D K [(p0, .inr (4, [.ref p1, .ref p2, .ref p3, .ref p4, .ref p5])), (p5, .inl (K 0, 256, .inl fs)), (t0, .inr (9, [.ref t1, k_1, .ref t2, k_3, .int n, k_5, k_6, k_7, k_8, .int ho])), (t1, .inl (K 0, 56, .inl f1)), (t2, .inl (K 0, 6, .inl f2))] sz)) (vp_Si (fun r : Int32 => (r = E_w_burningSets x fs n ho f1 f2) ∧ True)) 0 0 (fun _ => False) := by
  refine Met.ofW (cc := cX4_burningSets) (maxL := 5) (ret := (some .int)) (by decide +kernel) rfl ?_
  intro p e s m args below meth c s₁ B hml hv
  obtain ⟨rfl, hsz, hP, hK, hD0, hN⟩ := hv
  have hx := B.exec
  have hb := B.bytes
  have hr := B.returns
  have hts := atoms_spec (ws := wsX4_burningSets) B.pre
  have hown : s.vm.findClass RX4 = some m.cls := findClass_of_methodNamed B.named
  have hlocks := B.notSynchronized
  subst hsz
  have hD := hD0
  replace hP : va_P D vwCl [(p0, .inr (4, [.ref p1, .ref p2, .ref p3, .ref p4, .ref p5])), (p5, .inl (K 0, 256, .inl fs)), (t0, .inr (9, [.ref t1, k_1, .ref t2, k_3, .int n, k_5, k_6, k_7, k_8, .int ho])), (t1, .inl (K 0, 56, .inl f1)), (t2, .inl (K 0, 6, .inl f2))] s.heap := hP
  have hl := lv_entry [.ref p0, .ref t0, .int x] (n := 5) (Nat.le_of_ble_eq_true rfl)
  rw [lg_entry_eq]
  generalize (lg_sl [.ref p0, .ref t0, .int x] ++ List.replicate (5 - (lg_sl [.ref p0, .ref t0, .int x]).length) Slot.unset).toArray = ls at hl ⊢
  have hl : lv_has ls 5 [(0, .ref p0), (1, .ref t0), (2, .int x)] := hl
  have hw4 : ∀ w ∈ wsX40, w ∈ wsX4_burningSets := fun w h => (List.mem_cons_of_mem _ (List.mem_append_right _ h))
  have hw9 : ∀ w ∈ wsX90, w ∈ wsX4_burningSets := fun w h => (List.mem_cons_of_mem _ (List.mem_append_left _ (List.mem_append_right _ h)))
  generalize hQ : MQ below _ _ s _ _ _ = Q
  have hE := E_w_burningSets.eq_def x fs n ho f1 f2
  refine lv_iconst (v := 0) hx hb dX4_burningSets_0 (by decide +kernel) ?_
  refine lv_istore_n (lv' := [(3, .int 0), (0, .ref p0), (1, .ref t0), (2, .int x)]) hx hb dX4_burningSets_1 rfl hl (by decide +kernel) rfl (fun ls hl => ?_)
  refine lv_iconst (v := 0) hx hb dX4_burningSets_2 (by decide +kernel) ?_
  refine lv_istore (lv' := [(4, .int 0), (3, .int 0), (0, .ref p0), (1, .ref t0), (2, .int x)]) hx hb dX4_burningSets_3 hl (by decide +kernel) rfl (fun ls hl => ?_)
  have lp_836 : ∀ (nn_ : Nat) (v_766 : Int32) (v_767 : Int32) (hv_766 : 0 ≤ v_766.toInt ∧ v_766.toInt ≤ 256) (hn : (257 - v_766.toInt : Int).toNat < nn_) (hE : E_w_burningSets x fs n ho f1 f2 = Lp (α := Int32 → Int32 → (Int32)) (E_w_burningSets_l5 x fs n ho) (fun _ _ => ((0) : Int32)) nn_ v_766 v_767) (ls : Array Slot) (hl : lv_has ls 5 [(4, .int v_766), (3, .int v_767), (0, .ref p0), (1, .ref t0), (2, .int x)]), W p l e ({ frames := 0, cells := 0, slots := 0, locals := 0 }) s m (([.ref p0, .ref t0, .int x] : List Value).toArray) below meth c s.heap [] 0 0 Q (F0 m 5 ls []) := by
    clear hE hl
    intro nn_
    induction nn_ with
    | zero =>
      intro v_766 v_767 hv_766 hn hE ls hl
      exact absurd hn (Nat.not_lt_zero _)
    | succ nn_ ih_837 =>
      intro v_766 v_767 hv_766 hn hE ls hl
      replace hE : E_w_burningSets x fs n ho f1 f2 = E_w_burningSets_l5 x fs n ho (Lp (α := Int32 → Int32 → (Int32)) (E_w_burningSets_l5 x fs n ho) (fun _ _ => ((0) : Int32)) nn_) v_766 v_767 := hE
      obtain ⟨rec_836, hrec_836⟩ : ∃ z9, z9 = Lp (α := Int32 → Int32 → (Int32)) (E_w_burningSets_l5 x fs n ho) (fun _ _ => ((0) : Int32)) nn_ := ⟨_, rfl⟩
      rw [← hrec_836] at hE
      replace hE := hE.trans (E_w_burningSets_l5.eq_def _ _ _ _ _ _ _)
      refine lv_iload hx hb dX4_burningSets_5 (lv_at hl 0 rfl) ?_
      refine lv_iconst (v := 1) hx hb dX4_burningSets_7 (by decide +kernel) ?_
      refine lv_aload_n hx hb dX4_burningSets_8 rfl (lv_at hl 3 rfl) ?_
      refine va_getN (ci := 9) (v := .int n) (C := RX9) (T := TX9) (N := 10) hx hb hts hw9 hown hK hP 2 rfl rfl 4 (by decide +kernel) (nst_use hN 106 rfl) (fun _ h9 => h9) rfl dX4_burningSets_9 ?_
      refine lv_ishl hx hb dX4_burningSets_12 ?_
      refine lv_topi (fun x_838 ex_838 => ?_)
      replace hE := hE.trans (Lt_in ex_838)
      have hx_838 : 1 ≤ x_838.toInt ∧ x_838.toInt ≤ 256 := by rw [ex_838]; exact i_shl1 rfl (n := 8) (by decide +kernel) (by omega)
      refine lv_icmp_ge (tgt := 59) hx hb dX4_burningSets_13 (by decide +kernel) (fun c_855 => ?_) (fun c_855 => ?_)
      · have c_855i := i_le (x := x_838.toInt) (y := v_766.toInt) rfl rfl c_855
        replace hE := hE.trans (if_pos c_855)
        refine lv_iload_n hx hb dX4_burningSets_59 rfl (lv_at hl 1 rfl) ?_
        rw [← hQ]
        exact W.iret (v := v_767) hx hb hr (fun t ht hW => ⟨_, rfl, ⟨hE.symm, trivial⟩, ht⟩) (fun q hq => by cases hq) dX4_burningSets_60
      · have c_855i := i_nle (x := x_838.toInt) (y := v_766.toInt) rfl rfl c_855
        replace hE := hE.trans (if_neg c_855)
        refine lv_iload hx hb dX4_burningSets_16 (lv_at hl 0 rfl) ?_
        refine lv_aload_n hx hb dX4_burningSets_18 rfl (lv_at hl 2 rfl) ?_
        refine va_get (ci := 4) (v := .ref p5) (C := RX4) (T := TX4) (N := 5) hx hb hts hw4 hown hK hP 0 rfl rfl 4 (by decide +kernel) (hts _ mm_X4_burningSets_328) (fun _ h9 => h9) rfl dX4_burningSets_19 ?_
        refine va_alen (v := 256) hx hb hK hP 1 0 rfl rfl rfl dX4_burningSets_22 ?_
        refine lv_icmp_ge (tgt := 59) hx hb dX4_burningSets_23 (by decide +kernel) (fun c_856 => ?_) (fun c_856 => ?_)
        · have c_856i := i_le (x := 256) (y := v_766.toInt) rfl rfl c_856
          exfalso; omega
        · have c_856i := i_nle (x := 256) (y := v_766.toInt) rfl rfl c_856
          replace hE := hE.trans (if_neg c_856)
          refine lv_iload hx hb dX4_burningSets_26 (lv_at hl 0 rfl) ?_
          refine lv_iload_n hx hb dX4_burningSets_28 rfl (lv_at hl 4 rfl) ?_
          refine lv_ishr hx hb dX4_burningSets_29 ?_
          refine lv_topi (fun x_857 ex_857 => ?_)
          replace hE := hE.trans (Lt_in ex_857)
          have hx_857 : 0 ≤ x_857.toInt ∧ x_857.toInt ≤ v_766.toInt := by rw [ex_857]; exact i_shr rfl (by omega)
          refine lv_iconst (v := 1) hx hb dX4_burningSets_30 (by decide +kernel) ?_
          refine lv_iand hx hb dX4_burningSets_31 ?_
          refine lv_topi (fun x_858 ex_858 => ?_)
          replace hE := hE.trans (Lt_in ex_858)
          have hx_858 : 0 ≤ x_858.toInt ∧ x_858.toInt ≤ 1 := by rw [ex_858]; exact i_mask x_857 1 rfl (by decide +kernel)
          refine lv_iconst (v := 1) hx hb dX4_burningSets_32 (by decide +kernel) ?_
          have j_865 : ∀ (v_863 : Int32) (hE : E_w_burningSets x fs n ho f1 f2 = E_w_burningSets_j53 v_766 rec_836 v_863) (ls : Array Slot) (hl : lv_has ls 5 [(4, .int v_766), (3, .int v_863), (0, .ref p0), (1, .ref t0), (2, .int x)]), W p l e ({ frames := 0, cells := 0, slots := 0, locals := 0 }) s m (([.ref p0, .ref t0, .int x] : List Value).toArray) below meth c s.heap [] 0 0 Q (F0 m 53 ls []) := by
            clear hE hl
            intro v_863 hE ls hl
            replace hE := hE.trans (E_w_burningSets_j53.eq_def _ _ _)
            obtain ⟨x_866, ex_866⟩ : ∃ y : Int32, y = v_766 + Int32.ofInt 1 := ⟨_, rfl⟩
            replace hE := hE.trans (Lt_in ex_866)
            have hx_866 : x_866.toInt = (v_766.toInt + 1) := by rw [ex_866]; exact i_add rfl (show (Int32.ofInt 1).toInt = 1 from rfl) (by omega)
            refine lv_iinc (v := x_866) (lv' := [(4, .int x_866), (3, .int v_863), (0, .ref p0), (1, .ref t0), (2, .int x)]) hx hb dX4_burningSets_53 hl (k := 0) rfl (by rw [ex_866]) (by decide +kernel) rfl (fun ls hl => ?_)
            refine lv_goto (tgt := 5) hx hb dX4_burningSets_56 (by decide +kernel) ?_
            exact ih_837 x_866 v_863 (by rw [hx_866]; omega) (by omega) (hE.trans (by rw [hrec_836])) ls (lv_sub hl [0, 1, 2, 3, 4] rfl)
          refine lv_icmp_ne (tgt := 53) hx hb dX4_burningSets_33 (by decide +kernel) (fun c_867 => ?_) (fun c_867 => ?_)
          · have c_867i := i_ne (x := x_858.toInt) (y := 1) rfl rfl c_867
            replace hE := hE.trans (if_neg c_867)
            exact j_865 v_767  hE ls (lv_sub hl [0, 1, 2, 3, 4] rfl)
          · have c_867i := i_eq (x := x_858.toInt) (y := 1) rfl rfl c_867
            replace hE := hE.trans (if_pos c_867)
            refine lv_aload_n hx hb dX4_burningSets_36 rfl (lv_at hl 2 rfl) ?_
            refine va_get (ci := 4) (v := .ref p5) (C := RX4) (T := TX4) (N := 5) hx hb hts hw4 hown hK hP 0 rfl rfl 4 (by decide +kernel) (hts _ mm_X4_burningSets_328) (fun _ h9 => h9) rfl dX4_burningSets_37 ?_
            refine lv_iload hx hb dX4_burningSets_40 (lv_at hl 0 rfl) ?_
            refine va_iald hx hb hK hP 1 0 rfl rfl (i_in rfl (by omega)) dX4_burningSets_42 ?_
            refine lv_topi (fun x_868 ex_868 => ?_)
            replace hE := hE.trans (Lt_in ex_868)
            refine lv_aload_n hx hb dX4_burningSets_43 rfl (lv_at hl 3 rfl) ?_
            refine va_getN (ci := 9) (v := .int ho) (C := RX9) (T := TX9) (N := 10) hx hb hts hw9 hown hK hP 2 rfl rfl 9 (by decide +kernel) (nst_use hN 117 rfl) (fun _ h9 => h9) rfl dX4_burningSets_44 ?_
            refine lv_icmp_ne (tgt := 53) hx hb dX4_burningSets_47 (by decide +kernel) (fun c_869 => ?_) (fun c_869 => ?_)
            · have c_869i := i_ne (x := x_868.toInt) (y := ho.toInt) rfl rfl c_869
              replace hE := hE.trans (if_neg c_869)
              exact j_865 v_767  hE ls (lv_sub hl [0, 1, 2, 3, 4] rfl)
            · have c_869i := i_eq (x := x_868.toInt) (y := ho.toInt) rfl rfl c_869
              replace hE := hE.trans (if_pos c_869)
              obtain ⟨x_870, ex_870⟩ : ∃ y : Int32, y = v_767 + Int32.ofInt 1 := ⟨_, rfl⟩
              replace hE := hE.trans (Lt_in ex_870)
              refine lv_iinc (v := x_870) (lv' := [(3, .int x_870), (4, .int v_766), (0, .ref p0), (1, .ref t0), (2, .int x)]) hx hb dX4_burningSets_50 hl (k := 1) rfl (by rw [ex_870]) (by decide +kernel) rfl (fun ls hl => ?_)
              exact j_865 x_870  hE ls (lv_sub hl [1, 0, 2, 3, 4] rfl)
  exact lp_836 ((257 - (0 : Int32).toInt : Int).toNat + 1) 0 0 (by decide +kernel) (Nat.lt_succ_self _) hE ls (lv_sub hl [0, 1, 2, 3, 4] rfl)
set_option maxRecDepth 100000 in
noncomputable def E_w_question_j82 (u_494_2_1_0 : Nat → Int32) (v_612 : Int32) : Int32 × (Nat → Int32) :=
  ((v_612, u_494_2_1_0) : Int32 × (Nat → Int32))
set_option maxRecDepth 100000 in
noncomputable def E_w_question_j72 (x : Int32) (u_494_2_1_0 : Nat → Int32) (v_611 : Int32) (v_612 : Int32) : Int32 × (Nat → Int32) :=
  if v_612 = (-1) then (E_w_question_j82 u_494_2_1_0 v_612) else (if x = 0 then (E_w_question_j82 u_494_2_1_0 v_612) else (((v_611, u_494_2_1_0) : Int32 × (Nat → Int32))))
set_option maxRecDepth 100000 in
noncomputable def E_w_question_j66 (v_610 : Int32) (rec_670 : Int32 → Int32 → Int32 → (Int32 × (Nat → Int32))) (v_703 : Int32) (v_704 : Int32) : Int32 × (Nat → Int32) :=
  Lt (v_610 + Int32.ofInt 1 : Int32) (fun x_707 => rec_670 x_707 v_703 v_704)
set_option maxRecDepth 100000 in
noncomputable def E_w_question_l18 (x : Int32) (n : Int32) (ho : Int32) (f1 : Nat → Int32) (f2 : Nat → Int32) (r_493 : Int32) (u_494_2_1_0 : Nat → Int32) (rec_670 : Int32 → Int32 → Int32 → (Int32 × (Nat → Int32))) (v_610 : Int32) (v_611 : Int32) (v_612 : Int32) : Int32 × (Nat → Int32) :=
  if n ≤ v_610 then (E_w_question_j72 x u_494_2_1_0 v_611 v_612) else (if r_493 ≤ 0 then (E_w_question_j72 x u_494_2_1_0 v_611 v_612) else (Lt (E_w_burningSets v_610 u_494_2_1_0 n ho f1 f2) (fun r_698 => Lt (r_493 - r_698 : Int32) (fun x_700 => Lt (if (r_698 : Int32) < (x_700 : Int32) then (x_700 : Int32) else (r_698 : Int32) : Int32) (fun x_701 => if v_611 ≤ x_701 then (E_w_question_j66 v_610 rec_670 v_611 v_612) else (E_w_question_j66 v_610 rec_670 x_701 v_610))))))
set_option maxRecDepth 100000 in
noncomputable def E_w_question (x : Int32) (fs : Nat → Int32) (n : Int32) (ho : Int32) (f1 : Nat → Int32) (f2 : Nat → Int32) : Int32 × (Nat → Int32) :=
  Lt2 (E_w_hillSet (-1) fs n ho f1 f2) (fun r_493 u_494_2_1_0 => Lt (r_493 + 1 : Int32) (fun x_496 => Lp (α := Int32 → Int32 → Int32 → (Int32 × (Nat → Int32))) (E_w_question_l18 x n ho f1 f2 r_493 u_494_2_1_0) (fun _ _ _ => ((0, fun _ => 0) : Int32 × (Nat → Int32))) ((9 - (0 : Int32).toInt : Int).toNat + 1) 0 x_496 (-1)))
set_option maxHeartbeats 4000000 in
set_option maxRecDepth 100000 in
theorem w_question (l : Launch) (D : va_G) (K : Nat → ClassId) (p0 : Nat) (t0 : Nat) (x : Int32) (p1 : Nat) (p2 : Nat) (p3 : Nat) (p4 : Nat) (p5 : Nat) (fs : Nat → Int32) (t1 : Nat) (k_1 : Value) (t2 : Nat) (k_3 : Value) (n : Int32) (k_5 : Value) (k_6 : Value) (k_7 : Value) (k_8 : Value) (ho : Int32) (f1 : Nat → Int32) (f2 : Nat → Int32) (sz : Nat) (zn : 0 ≤ n.toInt ∧ n.toInt ≤ 8) : Met l yX4_question wsX4_question ({ frames := 3, cells := 0, slots := 0, locals := 72 }) (va_Pc [.ref p0, .ref t0, .int x] (Pre D K [(p0, .inr (4, [.ref p1, .ref p2, .ref p3, .ref p4, .ref p5])), (p5, .inl (K 0, 256, .inl fs)), (t0, .inr (9, [.ref t1, k_1, .ref t2, k_3, .int n, k_5, k_6, k_7, k_8, .int ho])), (t1, .inl (K 0, 56, .inl f1)), (t2, .inl (K 0, 6, .inl f2))] sz)) (va_Qi (S := Su) (fun (r : Int32) (u : Su) => ((r, (u.2.1 0)) = E_w_question x fs n ho f1 f2) ∧ True) (fun u t => Wd D (va_A [(p0, .inr (4, [.ref p1, .ref p2, .ref p3, .ref p4, .ref p5])), (p5, .inl (K 0, 256, .inl fs)), (t0, .inr (9, [.ref t1, k_1, .ref t2, k_3, .int n, k_5, k_6, k_7, k_8, .int ho])), (t1, .inl (K 0, 56, .inl f1)), (t2, .inl (K 0, 6, .inl f2))] sz) ((fun u => [(p0, .inr (4, [.ref p1, .ref p2, .ref p3, .ref p4, .ref p5])), (p5, .inl (K 0, 256, .inl (u.2.1 0))), (t0, .inr (9, [.ref t1, k_1, .ref t2, k_3, .int n, k_5, k_6, k_7, k_8, .int ho])), (t1, .inl (K 0, 56, .inl f1)), (t2, .inl (K 0, 6, .inl f2))]) u) t) (va_A [(p0, .inr (4, [.ref p1, .ref p2, .ref p3, .ref p4, .ref p5])), (p5, .inl (K 0, 256, .inl fs)), (t0, .inr (9, [.ref t1, k_1, .ref t2, k_3, .int n, k_5, k_6, k_7, k_8, .int ho])), (t1, .inl (K 0, 56, .inl f1)), (t2, .inl (K 0, 6, .inl f2))] sz)) 0 0 (va_A [(p0, .inr (4, [.ref p1, .ref p2, .ref p3, .ref p4, .ref p5])), (p5, .inl (K 0, 256, .inl fs)), (t0, .inr (9, [.ref t1, k_1, .ref t2, k_3, .int n, k_5, k_6, k_7, k_8, .int ho])), (t1, .inl (K 0, 56, .inl f1)), (t2, .inl (K 0, 6, .inl f2))] sz) := by
  refine Met.ofW (cc := cX4_question) (maxL := 9) (ret := (some .int)) (by decide +kernel) rfl ?_
  intro p e s m args below meth c s₁ B hml hv
  obtain ⟨rfl, hsz, hP, hK, hD0, hN⟩ := hv
  have hx := B.exec
  have hb := B.bytes
  have hr := B.returns
  have hts := atoms_spec (ws := wsX4_question) B.pre
  have hown : s.vm.findClass RX4 = some m.cls := findClass_of_methodNamed B.named
  have hlocks := B.notSynchronized
  subst hsz
  have hD := hD0.self (sz := s.heap.size)
  generalize hAe : va_A [(p0, .inr (4, [.ref p1, .ref p2, .ref p3, .ref p4, .ref p5])), (p5, .inl (K 0, 256, .inl fs)), (t0, .inr (9, [.ref t1, k_1, .ref t2, k_3, .int n, k_5, k_6, k_7, k_8, .int ho])), (t1, .inl (K 0, 56, .inl f1)), (t2, .inl (K 0, 6, .inl f2))] s.heap.size = A at hD ⊢
  have hA : ∀ q : Nat, s.heap.size ≤ q → A q := fun q h => by rw [← hAe]; exact Or.inr h
  clear hAe
  have hS : va_S A s.heap s.heap [] := va_S.rf
  replace hP : va_P D vwCl [(p0, .inr (4, [.ref p1, .ref p2, .ref p3, .ref p4, .ref p5])), (p5, .inl (K 0, 256, .inl fs)), (t0, .inr (9, [.ref t1, k_1, .ref t2, k_3, .int n, k_5, k_6, k_7, k_8, .int ho])), (t1, .inl (K 0, 56, .inl f1)), (t2, .inl (K 0, 6, .inl f2))] s.heap := hP
  have hl := lv_entry [.ref p0, .ref t0, .int x] (n := 9) (Nat.le_of_ble_eq_true rfl)
  rw [lg_entry_eq]
  generalize (lg_sl [.ref p0, .ref t0, .int x] ++ List.replicate (9 - (lg_sl [.ref p0, .ref t0, .int x]).length) Slot.unset).toArray = ls at hl ⊢
  have hl : lv_has ls 9 [(0, .ref p0), (1, .ref t0), (2, .int x)] := hl
  have hw4 : ∀ w ∈ wsX40, w ∈ wsX4_question := fun w h => (List.mem_cons_of_mem _ (List.mem_append_right _ h))
  have hw9 : ∀ w ∈ wsX90, w ∈ wsX4_question := fun w h => (List.mem_cons_of_mem _ (List.mem_append_left _ (List.mem_append_right _ h)))
  generalize hQ : MQ below _ _ s _ _ _ = Q
  have hE := E_w_question.eq_def x fs n ho f1 f2
  refine lv_aload_n hx hb dX4_question_0 rfl (lv_at hl 0 rfl) ?_
  refine lv_aload_n hx hb dX4_question_1 rfl (lv_at hl 1 rfl) ?_
  refine lv_iconst (v := (-1)) hx hb dX4_question_2 (by decide +kernel) ?_
  refine kci (S := Su) (wr := []) (va_runV (As := [.ref t0, .int (-1)]) (rest := []) ⟨hx, hb, hml, hown, hts⟩ (w_hillSet l D K p0 t0 (-1) p1 p2 p3 p4 p5 fs t1 k_1 t2 k_3 n k_5 k_6 k_7 k_8 ho f1 f2 s.heap.size (by first | omega | decide)) (cwV 2 hts gX4_question_X4_hillSet rfl rfl rfl (by decide +kernel) ⟨Nat.le_of_ble_eq_true rfl, Nat.le_of_ble_eq_true rfl⟩) (mkV hK hN (hP.sub [0, 1, 2, 3, 4] rfl) (hD.sub [0, 1, 2, 3, 4] (by decide +kernel) rfl) (ci := 4) (q0 := 0) rfl rfl) rfl rfl hl.1 rfl (lv_room (Nat.le_of_ble_eq_true rfl)) dX4_question_3 ⟨Nat.le_of_ble_eq_true rfl, Nat.le_of_ble_eq_true rfl⟩) hP hD hS hA [0, 1, 2, 3, 4] [] rfl rfl (by decide +kernel) (by decide +kernel) (fun r_493 u_494 H locs hw hP0 hD0 hS0 => ?_)
  clear hP hD hS
  have hP := hP0
  have hD := hD0
  have hS := hS0
  clear hP0 hD0 hS0
  replace hP : va_P D vwCl [(p0, .inr (4, [.ref p1, .ref p2, .ref p3, .ref p4, .ref p5])), (p5, .inl (K 0, 256, .inl (u_494.2.1 0))), (t0, .inr (9, [.ref t1, k_1, .ref t2, k_3, .int n, k_5, k_6, k_7, k_8, .int ho])), (t1, .inl (K 0, 56, .inl f1)), (t2, .inl (K 0, 6, .inl f2))] H := hP
  replace hD : va_D A [(p0, .inr (4, [.ref p1, .ref p2, .ref p3, .ref p4, .ref p5])), (p5, .inl (K 0, 256, .inl (u_494.2.1 0))), (t0, .inr (9, [.ref t1, k_1, .ref t2, k_3, .int n, k_5, k_6, k_7, k_8, .int ho])), (t1, .inl (K 0, 56, .inl f1)), (t2, .inl (K 0, 6, .inl f2))] := hD
  obtain ⟨k_495, -⟩ := hw
  replace hE := hE.trans (Lt2_in k_495)
  refine lv_istore_n (lv' := [(3, .int r_493), (0, .ref p0), (1, .ref t0), (2, .int x)]) hx hb dX4_question_6 rfl hl (by decide +kernel) rfl (fun ls hl => ?_)
  refine lv_iconst (v := (-1)) hx hb dX4_question_7 (by decide +kernel) ?_
  refine lv_istore (lv' := [(4, .int (-1)), (3, .int r_493), (0, .ref p0), (1, .ref t0), (2, .int x)]) hx hb dX4_question_8 hl (by decide +kernel) rfl (fun ls hl => ?_)
  refine lv_iload_n hx hb dX4_question_10 rfl (lv_at hl 1 rfl) ?_
  refine lv_iconst (v := 1) hx hb dX4_question_11 (by decide +kernel) ?_
  refine lv_iadd hx hb dX4_question_12 ?_
  refine lv_topi (fun x_496 ex_496 => ?_)
  replace hE := hE.trans (Lt_in ex_496)
  refine lv_istore (lv' := [(5, .int x_496), (4, .int (-1)), (3, .int r_493), (0, .ref p0), (1, .ref t0), (2, .int x)]) hx hb dX4_question_13 hl (by decide +kernel) rfl (fun ls hl => ?_)
  refine lv_iconst (v := 0) hx hb dX4_question_15 (by decide +kernel) ?_
  refine lv_istore (lv' := [(6, .int 0), (5, .int x_496), (4, .int (-1)), (3, .int r_493), (0, .ref p0), (1, .ref t0), (2, .int x)]) hx hb dX4_question_16 hl (by decide +kernel) rfl (fun ls hl => ?_)
  have lp_670 : ∀ (nn_ : Nat) (v_610 : Int32) (v_611 : Int32) (v_612 : Int32) (hv_610 : 0 ≤ v_610.toInt ∧ v_610.toInt ≤ 8) (hv_612 : (-1) ≤ v_612.toInt) (hn : (9 - v_610.toInt : Int).toNat < nn_) (hE : E_w_question x fs n ho f1 f2 = Lp (α := Int32 → Int32 → Int32 → (Int32 × (Nat → Int32))) (E_w_question_l18 x n ho f1 f2 r_493 (u_494.2.1 0)) (fun _ _ _ => ((0, fun _ => 0) : Int32 × (Nat → Int32))) nn_ v_610 v_611 v_612) (H : Heap) (locs : List Loc) (hP : va_P D vwCl [(p0, .inr (4, [.ref p1, .ref p2, .ref p3, .ref p4, .ref p5])), (p5, .inl (K 0, 256, .inl (u_494.2.1 0))), (t0, .inr (9, [.ref t1, k_1, .ref t2, k_3, .int n, k_5, k_6, k_7, k_8, .int ho])), (t1, .inl (K 0, 56, .inl f1)), (t2, .inl (K 0, 6, .inl f2))] H) (hD : va_D A [(p0, .inr (4, [.ref p1, .ref p2, .ref p3, .ref p4, .ref p5])), (p5, .inl (K 0, 256, .inl (u_494.2.1 0))), (t0, .inr (9, [.ref t1, k_1, .ref t2, k_3, .int n, k_5, k_6, k_7, k_8, .int ho])), (t1, .inl (K 0, 56, .inl f1)), (t2, .inl (K 0, 6, .inl f2))]) (hS : va_S A s.heap H locs) (ls : Array Slot) (hl : lv_has ls 9 [(6, .int v_610), (5, .int v_611), (4, .int v_612), (3, .int r_493), (0, .ref p0), (1, .ref t0), (2, .int x)]), W p l e ({ frames := 3, cells := 0, slots := 0, locals := 72 }) s m (([.ref p0, .ref t0, .int x] : List Value).toArray) below meth c H locs 0 0 Q (F0 m 18 ls []) := by
    clear hE hP hD hS hl
    intro nn_
    induction nn_ with
    | zero =>
      intro v_610 v_611 v_612 hv_610 hv_612 hn hE H locs hP hD hS ls hl
      exact absurd hn (Nat.not_lt_zero _)
    | succ nn_ ih_671 =>
      intro v_610 v_611 v_612 hv_610 hv_612 hn hE H locs hP hD hS ls hl
      replace hE : E_w_question x fs n ho f1 f2 = E_w_question_l18 x n ho f1 f2 r_493 (u_494.2.1 0) (Lp (α := Int32 → Int32 → Int32 → (Int32 × (Nat → Int32))) (E_w_question_l18 x n ho f1 f2 r_493 (u_494.2.1 0)) (fun _ _ _ => ((0, fun _ => 0) : Int32 × (Nat → Int32))) nn_) v_610 v_611 v_612 := hE
      obtain ⟨rec_670, hrec_670⟩ : ∃ z9, z9 = Lp (α := Int32 → Int32 → Int32 → (Int32 × (Nat → Int32))) (E_w_question_l18 x n ho f1 f2 r_493 (u_494.2.1 0)) (fun _ _ _ => ((0, fun _ => 0) : Int32 × (Nat → Int32))) nn_ := ⟨_, rfl⟩
      rw [← hrec_670] at hE
      replace hE := hE.trans (E_w_question_l18.eq_def _ _ _ _ _ _ _ _ _ _ _)
      refine lv_iload hx hb dX4_question_18 (lv_at hl 0 rfl) ?_
      refine lv_aload_n hx hb dX4_question_20 rfl (lv_at hl 5 rfl) ?_
      refine va_getN (ci := 9) (v := .int n) (C := RX9) (T := TX9) (N := 10) hx hb hts hw9 hown hK hP 2 rfl rfl 4 (by decide +kernel) (nst_use hN 106 rfl) (fun _ h9 => h9) rfl dX4_question_21 ?_
      have j_690 : ∀ (hE : E_w_question x fs n ho f1 f2 = E_w_question_j72 x (u_494.2.1 0) v_611 v_612) (H : Heap) (locs : List Loc) (hP : va_P D vwCl [(p0, .inr (4, [.ref p1, .ref p2, .ref p3, .ref p4, .ref p5])), (p5, .inl (K 0, 256, .inl (u_494.2.1 0))), (t0, .inr (9, [.ref t1, k_1, .ref t2, k_3, .int n, k_5, k_6, k_7, k_8, .int ho])), (t1, .inl (K 0, 56, .inl f1)), (t2, .inl (K 0, 6, .inl f2))] H) (hD : va_D A [(p0, .inr (4, [.ref p1, .ref p2, .ref p3, .ref p4, .ref p5])), (p5, .inl (K 0, 256, .inl (u_494.2.1 0))), (t0, .inr (9, [.ref t1, k_1, .ref t2, k_3, .int n, k_5, k_6, k_7, k_8, .int ho])), (t1, .inl (K 0, 56, .inl f1)), (t2, .inl (K 0, 6, .inl f2))]) (hS : va_S A s.heap H locs) (ls : Array Slot) (hl : lv_has ls 9 [(5, .int v_611), (4, .int v_612), (2, .int x)]), W p l e ({ frames := 3, cells := 0, slots := 0, locals := 72 }) s m (([.ref p0, .ref t0, .int x] : List Value).toArray) below meth c H locs 0 0 Q (F0 m 72 ls []) := by
        clear hE hP hD hS hl
        intro hE H locs hP hD hS ls hl
        replace hE := hE.trans (E_w_question_j72.eq_def _ _ _ _)
        refine lv_iload hx hb dX4_question_72 (lv_at hl 1 rfl) ?_
        refine lv_iconst (v := (-1)) hx hb dX4_question_74 (by decide +kernel) ?_
        have j_693 : ∀ (hE : E_w_question x fs n ho f1 f2 = E_w_question_j82 (u_494.2.1 0) v_612) (H : Heap) (locs : List Loc) (hP : va_P D vwCl [(p0, .inr (4, [.ref p1, .ref p2, .ref p3, .ref p4, .ref p5])), (p5, .inl (K 0, 256, .inl (u_494.2.1 0))), (t0, .inr (9, [.ref t1, k_1, .ref t2, k_3, .int n, k_5, k_6, k_7, k_8, .int ho])), (t1, .inl (K 0, 56, .inl f1)), (t2, .inl (K 0, 6, .inl f2))] H) (hD : va_D A [(p0, .inr (4, [.ref p1, .ref p2, .ref p3, .ref p4, .ref p5])), (p5, .inl (K 0, 256, .inl (u_494.2.1 0))), (t0, .inr (9, [.ref t1, k_1, .ref t2, k_3, .int n, k_5, k_6, k_7, k_8, .int ho])), (t1, .inl (K 0, 56, .inl f1)), (t2, .inl (K 0, 6, .inl f2))]) (hS : va_S A s.heap H locs) (ls : Array Slot) (hl : lv_has ls 9 [(4, .int v_612)]), W p l e ({ frames := 3, cells := 0, slots := 0, locals := 72 }) s m (([.ref p0, .ref t0, .int x] : List Value).toArray) below meth c H locs 0 0 Q (F0 m 82 ls []) := by
          clear hE hP hD hS hl
          intro hE H locs hP hD hS ls hl
          replace hE := hE.trans (E_w_question_j82.eq_def _ _)
          refine lv_iload hx hb dX4_question_82 (lv_at hl 0 rfl) ?_
          refine lv_goto (tgt := 89) hx hb dX4_question_84 (by decide +kernel) ?_
          rw [← hQ]
          have hP9 := hP.sub (ws' := [(p0, .inr (4, [.ref p1, .ref p2, .ref p3, .ref p4, .ref p5])), (p5, .inl (K 0, 256, .inl (u_494.2.1 0))), (t0, .inr (9, [.ref t1, k_1, .ref t2, k_3, .int n, k_5, k_6, k_7, k_8, .int ho])), (t1, .inl (K 0, 56, .inl f1)), (t2, .inl (K 0, 6, .inl f2))]) [0, 1, 2, 3, 4] rfl
          have hD9 := hD.sub (ws' := [(p0, .inr (4, [.ref p1, .ref p2, .ref p3, .ref p4, .ref p5])), (p5, .inl (K 0, 256, .inl (u_494.2.1 0))), (t0, .inr (9, [.ref t1, k_1, .ref t2, k_3, .int n, k_5, k_6, k_7, k_8, .int ho])), (t1, .inl (K 0, 56, .inl f1)), (t2, .inl (K 0, 6, .inl f2))]) [0, 1, 2, 3, 4] (by decide +kernel) rfl
          exact W.iret (v := v_612) hx hb hr (fun t ht hW => ⟨⟨v_612, ((fun _ => 0, fun i => match i with | _ => (u_494.2.1 0), fun _ => fun _ => 0, fun _ => 0, fun _ => 0, fun _ => fun _ => none) : Su), rfl, ⟨hE.symm, trivial⟩, (⟨by rw [ht]; exact hP9, hD9⟩ : Wd D A _ t)⟩, hS.F ht⟩) hS.2.2 dX4_question_89
        refine lv_icmp_eq (tgt := 82) hx hb dX4_question_75 (by decide +kernel) (fun c_694 => ?_) (fun c_694 => ?_)
        · have c_694i := i_eq (x := v_612.toInt) (y := (-1)) rfl rfl c_694
          replace hE := hE.trans (if_pos c_694)
          exact j_693   hE _ _ hP hD hS ls (lv_sub hl [1] rfl)
        · have c_694i := i_ne (x := v_612.toInt) (y := (-1)) rfl rfl c_694
          replace hE := hE.trans (if_neg c_694)
          refine lv_iload_n hx hb dX4_question_78 rfl (lv_at hl 2 rfl) ?_
          refine lv_if_ne (tgt := 87) hx hb dX4_question_79 (by decide +kernel) (fun c_695 => ?_) (fun c_695 => ?_)
          · have c_695i := i_ne (x := x.toInt) (y := 0) rfl rfl c_695
            replace hE := hE.trans (if_neg c_695)
            refine lv_iload hx hb dX4_question_87 (lv_at hl 0 rfl) ?_
            rw [← hQ]
            have hP9 := hP.sub (ws' := [(p0, .inr (4, [.ref p1, .ref p2, .ref p3, .ref p4, .ref p5])), (p5, .inl (K 0, 256, .inl (u_494.2.1 0))), (t0, .inr (9, [.ref t1, k_1, .ref t2, k_3, .int n, k_5, k_6, k_7, k_8, .int ho])), (t1, .inl (K 0, 56, .inl f1)), (t2, .inl (K 0, 6, .inl f2))]) [0, 1, 2, 3, 4] rfl
            have hD9 := hD.sub (ws' := [(p0, .inr (4, [.ref p1, .ref p2, .ref p3, .ref p4, .ref p5])), (p5, .inl (K 0, 256, .inl (u_494.2.1 0))), (t0, .inr (9, [.ref t1, k_1, .ref t2, k_3, .int n, k_5, k_6, k_7, k_8, .int ho])), (t1, .inl (K 0, 56, .inl f1)), (t2, .inl (K 0, 6, .inl f2))]) [0, 1, 2, 3, 4] (by decide +kernel) rfl
            exact W.iret (v := v_611) hx hb hr (fun t ht hW => ⟨⟨v_611, ((fun _ => 0, fun i => match i with | _ => (u_494.2.1 0), fun _ => fun _ => 0, fun _ => 0, fun _ => 0, fun _ => fun _ => none) : Su), rfl, ⟨hE.symm, trivial⟩, (⟨by rw [ht]; exact hP9, hD9⟩ : Wd D A _ t)⟩, hS.F ht⟩) hS.2.2 dX4_question_89
          · have c_695i := i_eq (x := x.toInt) (y := 0) rfl rfl c_695
            replace hE := hE.trans (if_pos c_695)
            exact j_693   hE _ _ hP hD hS ls (lv_sub hl [1] rfl)
      refine lv_icmp_ge (tgt := 72) hx hb dX4_question_24 (by decide +kernel) (fun c_696 => ?_) (fun c_696 => ?_)
      · have c_696i := i_le (x := n.toInt) (y := v_610.toInt) rfl rfl c_696
        replace hE := hE.trans (if_pos c_696)
        exact j_690   hE _ _ hP hD hS ls (lv_sub hl [1, 2, 6] rfl)
      · have c_696i := i_nle (x := n.toInt) (y := v_610.toInt) rfl rfl c_696
        replace hE := hE.trans (if_neg c_696)
        refine lv_iload_n hx hb dX4_question_27 rfl (lv_at hl 3 rfl) ?_
        refine lv_if_le (tgt := 72) hx hb dX4_question_28 (by decide +kernel) (fun c_697 => ?_) (fun c_697 => ?_)
        · have c_697i := i_le (x := r_493.toInt) (y := 0) rfl rfl c_697
          replace hE := hE.trans (if_pos c_697)
          exact j_690   hE _ _ hP hD hS ls (lv_sub hl [1, 2, 6] rfl)
        · have c_697i := i_nle (x := r_493.toInt) (y := 0) rfl rfl c_697
          replace hE := hE.trans (if_neg c_697)
          refine lv_aload_n hx hb dX4_question_31 rfl (lv_at hl 4 rfl) ?_
          refine lv_aload_n hx hb dX4_question_32 rfl (lv_at hl 5 rfl) ?_
          refine lv_iload hx hb dX4_question_33 (lv_at hl 0 rfl) ?_
          refine pci (va_runV (As := [.ref t0, .int v_610]) (rest := []) ⟨hx, hb, hml, hown, hts⟩ (w_burningSets l D K p0 t0 v_610 p1 p2 p3 p4 p5 (u_494.2.1 0) t1 k_1 t2 k_3 n k_5 k_6 k_7 k_8 ho f1 f2 H.size (by first | omega | decide)) (cwV 2 hts gX4_question_X4_burningSets rfl rfl rfl (by decide +kernel) ⟨Nat.le_of_ble_eq_true rfl, Nat.le_of_ble_eq_true rfl⟩) (mkV hK hN (hP.sub [0, 1, 2, 3, 4] rfl) (hD.sub [0, 1, 2, 3, 4] (by decide +kernel) rfl) (ci := 4) (q0 := 0) rfl rfl) rfl rfl hl.1 rfl (lv_room (Nat.le_of_ble_eq_true rfl)) dX4_question_35 ⟨Nat.le_of_ble_eq_true rfl, Nat.le_of_ble_eq_true rfl⟩) (fun r_698 hw => ?_)
          obtain ⟨k_699, -⟩ := hw
          replace hE := hE.trans (Lt_in k_699)
          refine lv_istore (lv' := [(7, .int r_698), (6, .int v_610), (5, .int v_611), (4, .int v_612), (3, .int r_493), (0, .ref p0), (1, .ref t0), (2, .int x)]) hx hb dX4_question_38 hl (by decide +kernel) rfl (fun ls hl => ?_)
          refine lv_iload hx hb dX4_question_40 (lv_at hl 0 rfl) ?_
          refine lv_iload_n hx hb dX4_question_42 rfl (lv_at hl 4 rfl) ?_
          refine lv_iload hx hb dX4_question_43 (lv_at hl 0 rfl) ?_
          refine lv_isub hx hb dX4_question_45 ?_
          refine lv_topi (fun x_700 ex_700 => ?_)
          replace hE := hE.trans (Lt_in ex_700)
          refine va_mmax hx hb (hml.trans hl.1.symm) hown (hts _ mm_X4_question_755) (hts _ mm_X4_question_418) (hts _ mm_X4_question_157) (hts _ mm_X4_question_419) (Nat.le_of_ble_eq_true rfl) (Nat.le_of_ble_eq_true rfl) (Nat.le_of_ble_eq_true rfl) (Nat.le_of_ble_eq_true rfl) dX4_question_46 ?_
          refine lv_topi (fun x_701 ex_701 => ?_)
          replace hE := hE.trans (Lt_in ex_701)
          have hx_701 : (x_700.toInt ≤ r_698.toInt ∧ x_701.toInt = r_698.toInt) ∨ (r_698.toInt < x_700.toInt ∧ x_701.toInt = x_700.toInt) := by rw [ex_701]; exact i_max rfl rfl
          replace hx_701 : r_698.toInt ≤ x_701.toInt ∧ x_700.toInt ≤ x_701.toInt := by omega
          refine lv_istore (lv' := [(8, .int x_701), (7, .int r_698), (6, .int v_610), (5, .int v_611), (4, .int v_612), (3, .int r_493), (0, .ref p0), (1, .ref t0), (2, .int x)]) hx hb dX4_question_49 hl (by decide +kernel) rfl (fun ls hl => ?_)
          refine lv_iload hx hb dX4_question_51 (lv_at hl 0 rfl) ?_
          refine lv_iload hx hb dX4_question_53 (lv_at hl 3 rfl) ?_
          have j_706 : ∀ (v_703 : Int32) (v_704 : Int32) (hv_704 : (-1) ≤ v_704.toInt) (hE : E_w_question x fs n ho f1 f2 = E_w_question_j66 v_610 rec_670 v_703 v_704) (H : Heap) (locs : List Loc) (hP : va_P D vwCl [(p0, .inr (4, [.ref p1, .ref p2, .ref p3, .ref p4, .ref p5])), (p5, .inl (K 0, 256, .inl (u_494.2.1 0))), (t0, .inr (9, [.ref t1, k_1, .ref t2, k_3, .int n, k_5, k_6, k_7, k_8, .int ho])), (t1, .inl (K 0, 56, .inl f1)), (t2, .inl (K 0, 6, .inl f2))] H) (hD : va_D A [(p0, .inr (4, [.ref p1, .ref p2, .ref p3, .ref p4, .ref p5])), (p5, .inl (K 0, 256, .inl (u_494.2.1 0))), (t0, .inr (9, [.ref t1, k_1, .ref t2, k_3, .int n, k_5, k_6, k_7, k_8, .int ho])), (t1, .inl (K 0, 56, .inl f1)), (t2, .inl (K 0, 6, .inl f2))]) (hS : va_S A s.heap H locs) (ls : Array Slot) (hl : lv_has ls 9 [(6, .int v_610), (5, .int v_703), (4, .int v_704), (3, .int r_493), (0, .ref p0), (1, .ref t0), (2, .int x)]), W p l e ({ frames := 3, cells := 0, slots := 0, locals := 72 }) s m (([.ref p0, .ref t0, .int x] : List Value).toArray) below meth c H locs 0 0 Q (F0 m 66 ls []) := by
            clear hE hP hD hS hl
            intro v_703 v_704 hv_704 hE H locs hP hD hS ls hl
            replace hE := hE.trans (E_w_question_j66.eq_def _ _ _ _)
            obtain ⟨x_707, ex_707⟩ : ∃ y : Int32, y = v_610 + Int32.ofInt 1 := ⟨_, rfl⟩
            replace hE := hE.trans (Lt_in ex_707)
            have hx_707 : x_707.toInt = (v_610.toInt + 1) := by rw [ex_707]; exact i_add rfl (show (Int32.ofInt 1).toInt = 1 from rfl) (by omega)
            refine lv_iinc (v := x_707) (lv' := [(6, .int x_707), (5, .int v_703), (4, .int v_704), (3, .int r_493), (0, .ref p0), (1, .ref t0), (2, .int x)]) hx hb dX4_question_66 hl (k := 0) rfl (by rw [ex_707]) (by decide +kernel) rfl (fun ls hl => ?_)
            refine lv_goto (tgt := 18) hx hb dX4_question_69 (by decide +kernel) ?_
            exact ih_671 x_707 v_703 v_704 (by rw [hx_707]; omega) (by omega) (by omega) (hE.trans (by rw [hrec_670])) _ _ hP hD hS ls (lv_sub hl [0, 1, 2, 3, 4, 5, 6] rfl)
          refine lv_icmp_ge (tgt := 66) hx hb dX4_question_55 (by decide +kernel) (fun c_708 => ?_) (fun c_708 => ?_)
          · have c_708i := i_le (x := v_611.toInt) (y := x_701.toInt) rfl rfl c_708
            replace hE := hE.trans (if_pos c_708)
            exact j_706 v_611 v_612 (by omega) hE _ _ hP hD hS ls (lv_sub hl [2, 3, 4, 5, 6, 7, 8] rfl)
          · have c_708i := i_nle (x := v_611.toInt) (y := x_701.toInt) rfl rfl c_708
            replace hE := hE.trans (if_neg c_708)
            refine lv_iload hx hb dX4_question_58 (lv_at hl 0 rfl) ?_
            refine lv_istore (lv' := [(5, .int x_701), (8, .int x_701), (7, .int r_698), (6, .int v_610), (4, .int v_612), (3, .int r_493), (0, .ref p0), (1, .ref t0), (2, .int x)]) hx hb dX4_question_60 hl (by decide +kernel) rfl (fun ls hl => ?_)
            refine lv_iload hx hb dX4_question_62 (lv_at hl 3 rfl) ?_
            refine lv_istore (lv' := [(4, .int v_610), (5, .int x_701), (8, .int x_701), (7, .int r_698), (6, .int v_610), (3, .int r_493), (0, .ref p0), (1, .ref t0), (2, .int x)]) hx hb dX4_question_64 hl (by decide +kernel) rfl (fun ls hl => ?_)
            exact j_706 x_701 v_610 (by omega) hE _ _ hP hD hS ls (lv_sub hl [4, 1, 0, 5, 6, 7, 8] rfl)
  exact lp_670 ((9 - (0 : Int32).toInt : Int).toNat + 1) 0 x_496 (-1) (by decide +kernel) (by decide +kernel) (Nat.lt_succ_self _) hE _ _ hP hD hS ls (lv_sub hl [0, 1, 2, 3, 4, 5, 6] rfl)
set_option maxRecDepth 100000 in
noncomputable def E_w_muted_j51 (v_535 : Int32) (rec_589 : Int32 → Int64 → (Int64)) (v_603 : Int64) : Int64 :=
  Lt (v_535 + Int32.ofInt 1 : Int32) (fun x_606 => rec_589 x_606 v_603)
set_option maxRecDepth 100000 in
noncomputable def E_w_muted_l6 (x : Int32) (n : Int32) (f1 : Nat → Int32) (f2 : Nat → Int32) (rec_589 : Int32 → Int64 → (Int64)) (v_535 : Int32) (v_536 : Int64) : Int64 :=
  if n ≤ v_535 then ((v_536 : Int64)) else (Lt (E_w_fact v_535 0 f1) (fun r_592 => if r_592 = x then (Lt (E_w_sings v_535 f1 f2) (fun r_608 => if r_608 = 0 then (E_w_muted_j51 v_535 rec_589 v_536) else (Lt (f2 (4 : Int32).toNatClampNeg : Int32) (fun x_612 => Lt ((x_612 : Int32).toInt64 : Int64) (fun x_613 => Lt (v_536 * x_613 : Int64) (fun x_614 => Lt (x_614 / 10 : Int64) (fun x_615 => E_w_muted_j51 v_535 rec_589 x_615))))))) else (E_w_muted_j51 v_535 rec_589 v_536)))
set_option maxRecDepth 100000 in
noncomputable def E_w_muted (x : Int32) (y : Int64) (n : Int32) (ho : Int32) (f1 : Nat → Int32) (f2 : Nat → Int32) : Int64 :=
  Lp (α := Int32 → Int64 → (Int64)) (E_w_muted_l6 x n f1 f2) (fun _ _ => ((0) : Int64)) ((9 - (0 : Int32).toInt : Int).toNat + 1) 0 y
set_option maxHeartbeats 4000000 in
set_option maxRecDepth 100000 in
theorem w_muted (l : Launch) (D : va_G) (K : Nat → ClassId) (t0 : Nat) (x : Int32) (y : Int64) (t1 : Nat) (k_1 : Value) (t2 : Nat) (k_3 : Value) (n : Int32) (k_5 : Value) (k_6 : Value) (k_7 : Value) (k_8 : Value) (ho : Int32) (f1 : Nat → Int32) (f2 : Nat → Int32) (sz : Nat) (zn : 0 ≤ n.toInt ∧ n.toInt ≤ 8) : Met l yX4_muted wsX4_muted ({ frames := 2, cells := 0, slots := 0, locals := 44 }) (va_Pc [.ref t0, .int x, .long y] (Pre D K [(t0, .inr (9, [.ref t1, k_1, .ref t2, k_3, .int n, k_5, k_6, k_7, k_8, .int ho])), (t1, .inl (K 0, 56, .inl f1)), (t2, .inl (K 0, 6, .inl f2))] sz)) (vp_Sl (fun r : Int64 => (r = E_w_muted x y n ho f1 f2) ∧ True)) 0 0 (fun _ => False) := by
  refine Met.ofW (cc := cX4_muted) (maxL := 7) (ret := (some .long)) (by decide +kernel) rfl ?_
  intro p e s m args below meth c s₁ B hml hv
  obtain ⟨rfl, hsz, hP, hK, hD0, hN⟩ := hv
  have hx := B.exec
  have hb := B.bytes
  have hr := B.returns
  have hts := atoms_spec (ws := wsX4_muted) B.pre
  have hown : s.vm.findClass RX4 = some m.cls := findClass_of_methodNamed B.named
  have hlocks := B.notSynchronized
  subst hsz
  have hD := hD0
  replace hP : va_P D vwCl [(t0, .inr (9, [.ref t1, k_1, .ref t2, k_3, .int n, k_5, k_6, k_7, k_8, .int ho])), (t1, .inl (K 0, 56, .inl f1)), (t2, .inl (K 0, 6, .inl f2))] s.heap := hP
  have hl := lv_entry [.ref t0, .int x, .long y] (n := 7) (Nat.le_of_ble_eq_true rfl)
  rw [lg_entry_eq]
  generalize (lg_sl [.ref t0, .int x, .long y] ++ List.replicate (7 - (lg_sl [.ref t0, .int x, .long y]).length) Slot.unset).toArray = ls at hl ⊢
  have hl : lv_has ls 7 [(0, .ref t0), (1, .int x), (2, .long y)] := hl
  have hw9 : ∀ w ∈ wsX90, w ∈ wsX4_muted := fun w h => (List.mem_cons_of_mem _ (List.mem_append_right _ h))
  generalize hQ : MQ below _ _ s _ _ _ = Q
  have hE := E_w_muted.eq_def x y n ho f1 f2
  refine lv_lload_n hx hb dX4_muted_0 rfl (lv_at hl 2 rfl) ?_
  refine lv_lstore (lv' := [(4, .long y), (0, .ref t0), (1, .int x), (2, .long y)]) hx hb dX4_muted_1 hl (by decide +kernel) rfl (fun ls hl => ?_)
  refine lv_iconst (v := 0) hx hb dX4_muted_3 (by decide +kernel) ?_
  refine lv_istore (lv' := [(6, .int 0), (4, .long y), (0, .ref t0), (1, .int x), (2, .long y)]) hx hb dX4_muted_4 hl (by decide +kernel) rfl (fun ls hl => ?_)
  have lp_589 : ∀ (nn_ : Nat) (v_535 : Int32) (v_536 : Int64) (hv_535 : 0 ≤ v_535.toInt ∧ v_535.toInt ≤ 8) (hn : (9 - v_535.toInt : Int).toNat < nn_) (hE : E_w_muted x y n ho f1 f2 = Lp (α := Int32 → Int64 → (Int64)) (E_w_muted_l6 x n f1 f2) (fun _ _ => ((0) : Int64)) nn_ v_535 v_536) (ls : Array Slot) (hl : lv_has ls 7 [(6, .int v_535), (4, .long v_536), (0, .ref t0), (1, .int x)]), W p l e ({ frames := 2, cells := 0, slots := 0, locals := 44 }) s m (([.ref t0, .int x, .long y] : List Value).toArray) below meth c s.heap [] 0 0 Q (F0 m 6 ls []) := by
    clear hE hl
    intro nn_
    induction nn_ with
    | zero =>
      intro v_535 v_536 hv_535 hn hE ls hl
      exact absurd hn (Nat.not_lt_zero _)
    | succ nn_ ih_590 =>
      intro v_535 v_536 hv_535 hn hE ls hl
      replace hE : E_w_muted x y n ho f1 f2 = E_w_muted_l6 x n f1 f2 (Lp (α := Int32 → Int64 → (Int64)) (E_w_muted_l6 x n f1 f2) (fun _ _ => ((0) : Int64)) nn_) v_535 v_536 := hE
      obtain ⟨rec_589, hrec_589⟩ : ∃ z9, z9 = Lp (α := Int32 → Int64 → (Int64)) (E_w_muted_l6 x n f1 f2) (fun _ _ => ((0) : Int64)) nn_ := ⟨_, rfl⟩
      rw [← hrec_589] at hE
      replace hE := hE.trans (E_w_muted_l6.eq_def _ _ _ _ _ _ _)
      refine lv_iload hx hb dX4_muted_6 (lv_at hl 0 rfl) ?_
      refine lv_aload_n hx hb dX4_muted_8 rfl (lv_at hl 2 rfl) ?_
      refine va_getN (ci := 9) (v := .int n) (C := RX9) (T := TX9) (N := 10) hx hb hts hw9 hown hK hP 0 rfl rfl 4 (by decide +kernel) (nst_use hN 106 rfl) (fun _ h9 => h9) rfl dX4_muted_9 ?_
      refine lv_icmp_ge (tgt := 57) hx hb dX4_muted_12 (by decide +kernel) (fun c_591 => ?_) (fun c_591 => ?_)
      · have c_591i := i_le (x := n.toInt) (y := v_535.toInt) rfl rfl c_591
        replace hE := hE.trans (if_pos c_591)
        refine lv_lload hx hb dX4_muted_57 (lv_at hl 1 rfl) ?_
        rw [← hQ]
        exact W.lret (v := v_536) hx hb hr (fun t ht hW => ⟨_, rfl, ⟨hE.symm, trivial⟩, ht⟩) (fun q hq => by cases hq) dX4_muted_59
      · have c_591i := i_nle (x := n.toInt) (y := v_535.toInt) rfl rfl c_591
        replace hE := hE.trans (if_neg c_591)
        refine lv_aload_n hx hb dX4_muted_15 rfl (lv_at hl 2 rfl) ?_
        refine lv_iload hx hb dX4_muted_16 (lv_at hl 0 rfl) ?_
        refine lv_iconst (v := 0) hx hb dX4_muted_18 (by decide +kernel) ?_
        refine pci (va_runVN (As := [.int v_535, .int 0]) (rest := []) ⟨hx, hb, hml, hown, hts⟩ (w_fact l D K t0 v_535 0 t1 k_1 (.ref t2) k_3 (.int n) k_5 k_6 k_7 k_8 (.int ho) f1 s.heap.size) ⟨va_cnB 2 hts gX4_muted_X9_fact_n45 rfl rfl rfl (nst_at hN 84 rfl) (hts _ mm_X4_muted_145) (by decide +kernel) ⟨Nat.le_of_ble_eq_true rfl, Nat.le_of_ble_eq_true rfl⟩, (hts _ mm_X4_muted_381), (hts _ mm_X4_muted_2)⟩ (mkV hK hN (hP.sub [0, 1] rfl) (hD.sub [0, 1] (by decide +kernel) rfl) (ci := 9) (q0 := 0) rfl rfl) rfl rfl hl.1 rfl (lv_room (Nat.le_of_ble_eq_true rfl)) dX4_muted_19 ⟨Nat.le_of_ble_eq_true rfl, Nat.le_of_ble_eq_true rfl⟩) (fun r_592 hw => ?_)
        obtain ⟨k_593, -⟩ := hw
        replace hE := hE.trans (Lt_in k_593)
        refine lv_iload_n hx hb dX4_muted_22 rfl (lv_at hl 3 rfl) ?_
        have j_605 : ∀ (v_603 : Int64) (hE : E_w_muted x y n ho f1 f2 = E_w_muted_j51 v_535 rec_589 v_603) (ls : Array Slot) (hl : lv_has ls 7 [(6, .int v_535), (4, .long v_603), (0, .ref t0), (1, .int x)]), W p l e ({ frames := 2, cells := 0, slots := 0, locals := 44 }) s m (([.ref t0, .int x, .long y] : List Value).toArray) below meth c s.heap [] 0 0 Q (F0 m 51 ls []) := by
          clear hE hl
          intro v_603 hE ls hl
          replace hE := hE.trans (E_w_muted_j51.eq_def _ _ _)
          obtain ⟨x_606, ex_606⟩ : ∃ y : Int32, y = v_535 + Int32.ofInt 1 := ⟨_, rfl⟩
          replace hE := hE.trans (Lt_in ex_606)
          have hx_606 : x_606.toInt = (v_535.toInt + 1) := by rw [ex_606]; exact i_add rfl (show (Int32.ofInt 1).toInt = 1 from rfl) (by omega)
          refine lv_iinc (v := x_606) (lv' := [(6, .int x_606), (4, .long v_603), (0, .ref t0), (1, .int x)]) hx hb dX4_muted_51 hl (k := 0) rfl (by rw [ex_606]) (by decide +kernel) rfl (fun ls hl => ?_)
          refine lv_goto (tgt := 6) hx hb dX4_muted_54 (by decide +kernel) ?_
          exact ih_590 x_606 v_603 (by rw [hx_606]; omega) (by omega) (hE.trans (by rw [hrec_589])) ls (lv_sub hl [0, 1, 2, 3] rfl)
        refine lv_icmp_ne (tgt := 51) hx hb dX4_muted_23 (by decide +kernel) (fun c_607 => ?_) (fun c_607 => ?_)
        · have c_607i := i_ne (x := r_592.toInt) (y := x.toInt) rfl rfl c_607
          replace hE := hE.trans (if_neg c_607)
          exact j_605 v_536  hE ls (lv_sub hl [0, 1, 2, 3] rfl)
        · have c_607i := i_eq (x := r_592.toInt) (y := x.toInt) rfl rfl c_607
          replace hE := hE.trans (if_pos c_607)
          refine lv_aload_n hx hb dX4_muted_26 rfl (lv_at hl 2 rfl) ?_
          refine lv_iload hx hb dX4_muted_27 (lv_at hl 0 rfl) ?_
          refine pci (va_runVN (As := [.int v_535]) (rest := []) ⟨hx, hb, hml, hown, hts⟩ (w_sings l D K t0 v_535 t1 k_1 t2 k_3 (.int n) k_5 k_6 k_7 k_8 (.int ho) f1 f2 s.heap.size) ⟨va_cnB 1 hts gX4_muted_X9_sings_n99 rfl rfl rfl (nst_at hN 91 rfl) (hts _ mm_X4_muted_145) (by decide +kernel) ⟨Nat.le_of_ble_eq_true rfl, Nat.le_of_ble_eq_true rfl⟩, (hts _ mm_X4_muted_399), (hts _ mm_X4_muted_8)⟩ (mkV hK hN (hP.sub [0, 1, 2] rfl) (hD.sub [0, 1, 2] (by decide +kernel) rfl) (ci := 9) (q0 := 0) rfl rfl) rfl rfl hl.1 rfl (lv_room (Nat.le_of_ble_eq_true rfl)) dX4_muted_29 ⟨Nat.le_of_ble_eq_true rfl, Nat.le_of_ble_eq_true rfl⟩) (fun r_608 hw => ?_)
          obtain ⟨h_610, k_609, -⟩ := hw
          replace hE := hE.trans (Lt_in k_609)
          refine lv_if_eq (tgt := 51) hx hb dX4_muted_32 (by decide +kernel) (fun c_611 => ?_) (fun c_611 => ?_)
          · have c_611i := i_eq (x := r_608.toInt) (y := 0) rfl rfl c_611
            replace hE := hE.trans (if_pos c_611)
            exact j_605 v_536  hE ls (lv_sub hl [0, 1, 2, 3] rfl)
          · have c_611i := i_ne (x := r_608.toInt) (y := 0) rfl rfl c_611
            replace hE := hE.trans (if_neg c_611)
            refine lv_lload hx hb dX4_muted_35 (lv_at hl 1 rfl) ?_
            refine lv_aload_n hx hb dX4_muted_37 rfl (lv_at hl 2 rfl) ?_
            refine va_getN (ci := 9) (v := .ref t2) (C := RX9) (T := TX9) (N := 10) hx hb hts hw9 hown hK hP 0 rfl rfl 2 (by decide +kernel) (nst_use hN 105 rfl) (fun _ h9 => h9) rfl dX4_muted_38 ?_
            refine lv_iconst (v := 4) hx hb dX4_muted_41 (by decide +kernel) ?_
            refine va_iald hx hb hK hP 2 0 rfl rfl (i_in (x := 4) rfl (by omega)) dX4_muted_42 ?_
            refine lv_topi (fun x_612 ex_612 => ?_)
            replace hE := hE.trans (Lt_in ex_612)
            refine lv_i2l hx hb dX4_muted_43 rfl ?_
            refine lv_topl (fun x_613 ex_613 => ?_)
            replace hE := hE.trans (Lt_in ex_613)
            have hx_613 : x_613.toInt = x_612.toInt := by rw [ex_613]; exact i_wide rfl
            have hbx_613 := i_rng (a := x_612) rfl
            refine lv_lmul hx hb dX4_muted_44 ?_
            refine lv_topl (fun x_614 ex_614 => ?_)
            replace hE := hE.trans (Lt_in ex_614)
            refine lv_ldc2 (v := 10) hx hb hown (hts _ mm_X4_muted_766) dX4_muted_45 ?_
            refine lv_ldiv hx hb dX4_muted_48 (by decide +kernel) ?_
            refine lv_topl (fun x_615 ex_615 => ?_)
            replace hE := hE.trans (Lt_in ex_615)
            refine lv_lstore (lv' := [(4, .long x_615), (6, .int v_535), (0, .ref t0), (1, .int x)]) hx hb dX4_muted_49 hl (by decide +kernel) rfl (fun ls hl => ?_)
            exact j_605 x_615  hE ls (lv_sub hl [1, 0, 2, 3] rfl)
  exact lp_589 ((9 - (0 : Int32).toInt : Int).toNat + 1) 0 y (by decide +kernel) (Nat.lt_succ_self _) hE ls (lv_sub hl [0, 1, 2, 3] rfl)
set_option maxRecDepth 100000 in
noncomputable def E_w_odds_j34 (v_355 : Int32) (rec_389 : Int32 → Int64 → (Int64)) (v_398 : Int64) : Int64 :=
  Lt (v_355 + Int32.ofInt 1 : Int32) (fun x_401 => rec_389 x_401 v_398)
set_option maxRecDepth 100000 in
noncomputable def E_w_odds_l7 (x : Int32) (n : Int32) (ho : Int32) (f1 : Nat → Int32) (f2 : Nat → Int32) (rec_389 : Int32 → Int64 → (Int64)) (v_355 : Int32) (v_356 : Int64) : Int64 :=
  if 7 ≤ v_355 then ((v_356 : Int64)) else (Lt (x >>> (v_355 &&& 31) : Int32) (fun x_392 => Lt (x_392 &&& 1 : Int32) (fun x_393 => if x_393 = 1 then (Lt (E_w_muted v_355 v_356 n ho f1 f2) (fun r_403 => Lt (v_356 - r_403 : Int64) (fun x_405 => E_w_odds_j34 v_355 rec_389 x_405))) else (E_w_odds_j34 v_355 rec_389 v_356))))
set_option maxRecDepth 100000 in
noncomputable def E_w_odds (x : Int32) (n : Int32) (ho : Int32) (f1 : Nat → Int32) (f2 : Nat → Int32) : Int64 :=
  Lp (α := Int32 → Int64 → (Int64)) (E_w_odds_l7 x n ho f1 f2) (fun _ _ => ((0) : Int64)) ((8 - (0 : Int32).toInt : Int).toNat + 1) 0 1000000000000
set_option maxHeartbeats 4000000 in
set_option maxRecDepth 100000 in
theorem w_odds (l : Launch) (D : va_G) (K : Nat → ClassId) (p0 : Nat) (t0 : Nat) (x : Int32) (p1 : Nat) (p2 : Nat) (p3 : Nat) (p4 : Nat) (p5 : Nat) (t1 : Nat) (k_1 : Value) (t2 : Nat) (k_3 : Value) (n : Int32) (k_5 : Value) (k_6 : Value) (k_7 : Value) (k_8 : Value) (ho : Int32) (f1 : Nat → Int32) (f2 : Nat → Int32) (sz : Nat) (zn : 0 ≤ n.toInt ∧ n.toInt ≤ 8) : Met l yX4_odds wsX4_odds ({ frames := 3, cells := 0, slots := 0, locals := 70 }) (va_Pc [.ref p0, .ref t0, .int x] (Pre D K [(p0, .inr (4, [.ref p1, .ref p2, .ref p3, .ref p4, .ref p5])), (t0, .inr (9, [.ref t1, k_1, .ref t2, k_3, .int n, k_5, k_6, k_7, k_8, .int ho])), (t1, .inl (K 0, 56, .inl f1)), (t2, .inl (K 0, 6, .inl f2))] sz)) (vp_Sl (fun r : Int64 => (r = E_w_odds x n ho f1 f2) ∧ True)) 0 0 (fun _ => False) := by
  refine Met.ofW (cc := cX4_odds) (maxL := 6) (ret := (some .long)) (by decide +kernel) rfl ?_
  intro p e s m args below meth c s₁ B hml hv
  obtain ⟨rfl, hsz, hP, hK, hD0, hN⟩ := hv
  have hx := B.exec
  have hb := B.bytes
  have hr := B.returns
  have hts := atoms_spec (ws := wsX4_odds) B.pre
  have hown : s.vm.findClass RX4 = some m.cls := findClass_of_methodNamed B.named
  have hlocks := B.notSynchronized
  subst hsz
  have hD := hD0
  replace hP : va_P D vwCl [(p0, .inr (4, [.ref p1, .ref p2, .ref p3, .ref p4, .ref p5])), (t0, .inr (9, [.ref t1, k_1, .ref t2, k_3, .int n, k_5, k_6, k_7, k_8, .int ho])), (t1, .inl (K 0, 56, .inl f1)), (t2, .inl (K 0, 6, .inl f2))] s.heap := hP
  have hl := lv_entry [.ref p0, .ref t0, .int x] (n := 6) (Nat.le_of_ble_eq_true rfl)
  rw [lg_entry_eq]
  generalize (lg_sl [.ref p0, .ref t0, .int x] ++ List.replicate (6 - (lg_sl [.ref p0, .ref t0, .int x]).length) Slot.unset).toArray = ls at hl ⊢
  have hl : lv_has ls 6 [(0, .ref p0), (1, .ref t0), (2, .int x)] := hl
  have hw9 : ∀ w ∈ wsX90, w ∈ wsX4_odds := fun w h => (List.mem_cons_of_mem _ (List.mem_append_right _ h))
  generalize hQ : MQ below _ _ s _ _ _ = Q
  have hE := E_w_odds.eq_def x n ho f1 f2
  refine lv_ldc2 (v := 1000000000000) hx hb hown (hts _ mm_X4_odds_762) dX4_odds_0 ?_
  refine lv_lstore_n (lv' := [(3, .long 1000000000000), (0, .ref p0), (1, .ref t0), (2, .int x)]) hx hb dX4_odds_3 rfl hl (by decide +kernel) rfl (fun ls hl => ?_)
  refine lv_iconst (v := 0) hx hb dX4_odds_4 (by decide +kernel) ?_
  refine lv_istore (lv' := [(5, .int 0), (3, .long 1000000000000), (0, .ref p0), (1, .ref t0), (2, .int x)]) hx hb dX4_odds_5 hl (by decide +kernel) rfl (fun ls hl => ?_)
  have lp_389 : ∀ (nn_ : Nat) (v_355 : Int32) (v_356 : Int64) (hv_355 : 0 ≤ v_355.toInt ∧ v_355.toInt ≤ 7) (hn : (8 - v_355.toInt : Int).toNat < nn_) (hE : E_w_odds x n ho f1 f2 = Lp (α := Int32 → Int64 → (Int64)) (E_w_odds_l7 x n ho f1 f2) (fun _ _ => ((0) : Int64)) nn_ v_355 v_356) (ls : Array Slot) (hl : lv_has ls 6 [(5, .int v_355), (3, .long v_356), (1, .ref t0), (2, .int x)]), W p l e ({ frames := 3, cells := 0, slots := 0, locals := 70 }) s m (([.ref p0, .ref t0, .int x] : List Value).toArray) below meth c s.heap [] 0 0 Q (F0 m 7 ls []) := by
    clear hE hl
    intro nn_
    induction nn_ with
    | zero =>
      intro v_355 v_356 hv_355 hn hE ls hl
      exact absurd hn (Nat.not_lt_zero _)
    | succ nn_ ih_390 =>
      intro v_355 v_356 hv_355 hn hE ls hl
      replace hE : E_w_odds x n ho f1 f2 = E_w_odds_l7 x n ho f1 f2 (Lp (α := Int32 → Int64 → (Int64)) (E_w_odds_l7 x n ho f1 f2) (fun _ _ => ((0) : Int64)) nn_) v_355 v_356 := hE
      obtain ⟨rec_389, hrec_389⟩ : ∃ z9, z9 = Lp (α := Int32 → Int64 → (Int64)) (E_w_odds_l7 x n ho f1 f2) (fun _ _ => ((0) : Int64)) nn_ := ⟨_, rfl⟩
      rw [← hrec_389] at hE
      replace hE := hE.trans (E_w_odds_l7.eq_def _ _ _ _ _ _ _ _)
      refine lv_iload hx hb dX4_odds_7 (lv_at hl 0 rfl) ?_
      refine lv_bipush (v := 7) hx hb dX4_odds_9 (by decide +kernel) ?_
      refine lv_icmp_ge (tgt := 40) hx hb dX4_odds_11 (by decide +kernel) (fun c_391 => ?_) (fun c_391 => ?_)
      · have c_391i := i_le (x := 7) (y := v_355.toInt) rfl rfl c_391
        replace hE := hE.trans (if_pos c_391)
        refine lv_lload_n hx hb dX4_odds_40 rfl (lv_at hl 1 rfl) ?_
        rw [← hQ]
        exact W.lret (v := v_356) hx hb hr (fun t ht hW => ⟨_, rfl, ⟨hE.symm, trivial⟩, ht⟩) (fun q hq => by cases hq) dX4_odds_41
      · have c_391i := i_nle (x := 7) (y := v_355.toInt) rfl rfl c_391
        replace hE := hE.trans (if_neg c_391)
        refine lv_iload_n hx hb dX4_odds_14 rfl (lv_at hl 3 rfl) ?_
        refine lv_iload hx hb dX4_odds_15 (lv_at hl 0 rfl) ?_
        refine lv_ishr hx hb dX4_odds_17 ?_
        refine lv_topi (fun x_392 ex_392 => ?_)
        replace hE := hE.trans (Lt_in ex_392)
        refine lv_iconst (v := 1) hx hb dX4_odds_18 (by decide +kernel) ?_
        refine lv_iand hx hb dX4_odds_19 ?_
        refine lv_topi (fun x_393 ex_393 => ?_)
        replace hE := hE.trans (Lt_in ex_393)
        have hx_393 : 0 ≤ x_393.toInt ∧ x_393.toInt ≤ 1 := by rw [ex_393]; exact i_mask x_392 1 rfl (by decide +kernel)
        refine lv_iconst (v := 1) hx hb dX4_odds_20 (by decide +kernel) ?_
        have j_400 : ∀ (v_398 : Int64) (hE : E_w_odds x n ho f1 f2 = E_w_odds_j34 v_355 rec_389 v_398) (ls : Array Slot) (hl : lv_has ls 6 [(5, .int v_355), (3, .long v_398), (1, .ref t0), (2, .int x)]), W p l e ({ frames := 3, cells := 0, slots := 0, locals := 70 }) s m (([.ref p0, .ref t0, .int x] : List Value).toArray) below meth c s.heap [] 0 0 Q (F0 m 34 ls []) := by
          clear hE hl
          intro v_398 hE ls hl
          replace hE := hE.trans (E_w_odds_j34.eq_def _ _ _)
          obtain ⟨x_401, ex_401⟩ : ∃ y : Int32, y = v_355 + Int32.ofInt 1 := ⟨_, rfl⟩
          replace hE := hE.trans (Lt_in ex_401)
          have hx_401 : x_401.toInt = (v_355.toInt + 1) := by rw [ex_401]; exact i_add rfl (show (Int32.ofInt 1).toInt = 1 from rfl) (by omega)
          refine lv_iinc (v := x_401) (lv' := [(5, .int x_401), (3, .long v_398), (1, .ref t0), (2, .int x)]) hx hb dX4_odds_34 hl (k := 0) rfl (by rw [ex_401]) (by decide +kernel) rfl (fun ls hl => ?_)
          refine lv_goto (tgt := 7) hx hb dX4_odds_37 (by decide +kernel) ?_
          exact ih_390 x_401 v_398 (by rw [hx_401]; omega) (by omega) (hE.trans (by rw [hrec_389])) ls (lv_sub hl [0, 1, 2, 3] rfl)
        refine lv_icmp_ne (tgt := 34) hx hb dX4_odds_21 (by decide +kernel) (fun c_402 => ?_) (fun c_402 => ?_)
        · have c_402i := i_ne (x := x_393.toInt) (y := 1) rfl rfl c_402
          replace hE := hE.trans (if_neg c_402)
          exact j_400 v_356  hE ls (lv_sub hl [0, 1, 2, 3] rfl)
        · have c_402i := i_eq (x := x_393.toInt) (y := 1) rfl rfl c_402
          replace hE := hE.trans (if_pos c_402)
          refine lv_lload_n hx hb dX4_odds_24 rfl (lv_at hl 1 rfl) ?_
          refine lv_aload_n hx hb dX4_odds_25 rfl (lv_at hl 2 rfl) ?_
          refine lv_iload hx hb dX4_odds_26 (lv_at hl 0 rfl) ?_
          refine lv_lload_n hx hb dX4_odds_28 rfl (lv_at hl 1 rfl) ?_
          refine pcl (va_runS (As := [.ref t0, .int v_355, .long v_356]) (rest := [.long v_356]) ⟨hx, hb, hml, hown, hts⟩ (w_muted l D K t0 v_355 v_356 t1 k_1 t2 k_3 n k_5 k_6 k_7 k_8 ho f1 f2 s.heap.size (by first | omega | decide)) (va_cwS 3 hts gX4_odds_X4_muted rfl rfl rfl (by decide +kernel) ⟨Nat.le_of_ble_eq_true rfl, Nat.le_of_ble_eq_true rfl⟩) (mkS hK hN (hP.sub [1, 2, 3] rfl) (hD.sub [1, 2, 3] (by decide +kernel) rfl)) rfl rfl hl.1 rfl (lv_room (Nat.le_of_ble_eq_true rfl)) dX4_odds_29 ⟨Nat.le_of_ble_eq_true rfl, Nat.le_of_ble_eq_true rfl⟩) (fun r_403 hw => ?_)
          obtain ⟨k_404, -⟩ := hw
          replace hE := hE.trans (Lt_in k_404)
          refine lv_lsub hx hb dX4_odds_32 ?_
          refine lv_topl (fun x_405 ex_405 => ?_)
          replace hE := hE.trans (Lt_in ex_405)
          refine lv_lstore_n (lv' := [(3, .long x_405), (5, .int v_355), (1, .ref t0), (2, .int x)]) hx hb dX4_odds_33 rfl hl (by decide +kernel) rfl (fun ls hl => ?_)
          exact j_400 x_405  hE ls (lv_sub hl [1, 0, 2, 3] rfl)
  exact lp_389 ((8 - (0 : Int32).toInt : Int).toNat + 1) 0 1000000000000 (by decide +kernel) (Nat.lt_succ_self _) hE ls (lv_sub hl [0, 1, 3, 4] rfl)
