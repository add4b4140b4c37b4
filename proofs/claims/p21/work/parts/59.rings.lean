theorem BX12_pointsTo_0 : bsegs (ByteArray.data cX12_pointsTo |>.toList.drop 0) 0 [(0, [2]), (1, [62]), (2, [3]), (3, [54, 4]), (5, [21, 4]), (7, [42]), (8, [180, 0, 13]), (11, [3]), (12, [46]), (13, [162, 0, 107]), (16, [28]), (17, [21, 4]), (19, [184, 1, 180]), (22, [153, 0, 92]), (25, [16, 8]), (27, [42]), (28, [180, 0, 13]), (31, [16, 51]), (33, [21, 4]), (35, [96]), (36, [46]), (37, [42]), (38, [180, 0, 13]), (41, [16, 59])] = true := by decide +kernel
theorem dX12_pointsTo_0 : decode cX12_pointsTo 0 = .ok (.iconst (-1), 1) := dk_2 (bs_at BX12_pointsTo_0 0 rfl)
theorem dX12_pointsTo_1 : decode cX12_pointsTo 1 = .ok (.istore_n 3, 1) := dk_62 (bs_at BX12_pointsTo_0 1 rfl)
theorem dX12_pointsTo_2 : decode cX12_pointsTo 2 = .ok (.iconst 0, 1) := dk_3 (bs_at BX12_pointsTo_0 2 rfl)
theorem dX12_pointsTo_3 : decode cX12_pointsTo 3 = .ok (.istore 4, 2) := dk_54 4 (bs_at BX12_pointsTo_0 3 rfl)
theorem dX12_pointsTo_5 : decode cX12_pointsTo 5 = .ok (.iload 4, 2) := dk_21 4 (bs_at BX12_pointsTo_0 4 rfl)
theorem dX12_pointsTo_7 : decode cX12_pointsTo 7 = .ok (.aload_n 0, 1) := dk_42 (bs_at BX12_pointsTo_0 5 rfl)
theorem dX12_pointsTo_8 : decode cX12_pointsTo 8 = .ok (.getfield 13, 3) := dk_180 0 13 (bs_at BX12_pointsTo_0 6 rfl) rfl
theorem dX12_pointsTo_11 : decode cX12_pointsTo 11 = .ok (.iconst 0, 1) := dk_3 (bs_at BX12_pointsTo_0 7 rfl)
theorem dX12_pointsTo_12 : decode cX12_pointsTo 12 = .ok (.iaload, 1) := dk_46 (bs_at BX12_pointsTo_0 8 rfl)
theorem dX12_pointsTo_13 : decode cX12_pointsTo 13 = .ok (.if_icmp .ge 107, 3) := dk_162 0 107 (bs_at BX12_pointsTo_0 9 rfl) rfl
theorem dX12_pointsTo_16 : decode cX12_pointsTo 16 = .ok (.iload_n 2, 1) := dk_28 (bs_at BX12_pointsTo_0 10 rfl)
theorem dX12_pointsTo_17 : decode cX12_pointsTo 17 = .ok (.iload 4, 2) := dk_21 4 (bs_at BX12_pointsTo_0 11 rfl)
theorem dX12_pointsTo_19 : decode cX12_pointsTo 19 = .ok (.invokestatic 436, 3) := dk_184 1 180 (bs_at BX12_pointsTo_0 12 rfl) rfl
theorem dX12_pointsTo_22 : decode cX12_pointsTo 22 = .ok (.ifCond .eq 92, 3) := dk_153 0 92 (bs_at BX12_pointsTo_0 13 rfl) rfl
theorem dX12_pointsTo_25 : decode cX12_pointsTo 25 = .ok (.bipush 8, 2) := dk_16 8 (bs_at BX12_pointsTo_0 14 rfl) rfl
theorem dX12_pointsTo_27 : decode cX12_pointsTo 27 = .ok (.aload_n 0, 1) := dk_42 (bs_at BX12_pointsTo_0 15 rfl)
theorem dX12_pointsTo_28 : decode cX12_pointsTo 28 = .ok (.getfield 13, 3) := dk_180 0 13 (bs_at BX12_pointsTo_0 16 rfl) rfl
theorem dX12_pointsTo_31 : decode cX12_pointsTo 31 = .ok (.bipush 51, 2) := dk_16 51 (bs_at BX12_pointsTo_0 17 rfl) rfl
theorem dX12_pointsTo_33 : decode cX12_pointsTo 33 = .ok (.iload 4, 2) := dk_21 4 (bs_at BX12_pointsTo_0 18 rfl)
theorem dX12_pointsTo_35 : decode cX12_pointsTo 35 = .ok (.iadd, 1) := dk_96 (bs_at BX12_pointsTo_0 19 rfl)
theorem dX12_pointsTo_36 : decode cX12_pointsTo 36 = .ok (.iaload, 1) := dk_46 (bs_at BX12_pointsTo_0 20 rfl)
theorem dX12_pointsTo_37 : decode cX12_pointsTo 37 = .ok (.aload_n 0, 1) := dk_42 (bs_at BX12_pointsTo_0 21 rfl)
theorem dX12_pointsTo_38 : decode cX12_pointsTo 38 = .ok (.getfield 13, 3) := dk_180 0 13 (bs_at BX12_pointsTo_0 22 rfl) rfl
theorem dX12_pointsTo_41 : decode cX12_pointsTo 41 = .ok (.bipush 59, 2) := dk_16 59 (bs_at BX12_pointsTo_0 23 rfl) rfl
theorem BX12_pointsTo_43 : bsegs (ByteArray.data cX12_pointsTo |>.toList.drop 43) 43 [(43, [27]), (44, [96]), (45, [46]), (46, [184, 1, 238]), (49, [104]), (50, [42]), (51, [180, 0, 13]), (54, [16, 51]), (56, [21, 4]), (58, [96]), (59, [46]), (60, [96]), (61, [54, 5]), (63, [29]), (64, [2]), (65, [159, 0, 42]), (68, [21, 5]), (70, [16, 8]), (72, [42]), (73, [180, 0, 13]), (76, [16, 51]), (78, [29]), (79, [96]), (80, [46])] = true := by decide +kernel
theorem dX12_pointsTo_43 : decode cX12_pointsTo 43 = .ok (.iload_n 1, 1) := dk_27 (bs_at BX12_pointsTo_43 0 rfl)
theorem dX12_pointsTo_44 : decode cX12_pointsTo 44 = .ok (.iadd, 1) := dk_96 (bs_at BX12_pointsTo_43 1 rfl)
theorem dX12_pointsTo_45 : decode cX12_pointsTo 45 = .ok (.iaload, 1) := dk_46 (bs_at BX12_pointsTo_43 2 rfl)
theorem dX12_pointsTo_46 : decode cX12_pointsTo 46 = .ok (.invokestatic 494, 3) := dk_184 1 238 (bs_at BX12_pointsTo_43 3 rfl) rfl
theorem dX12_pointsTo_49 : decode cX12_pointsTo 49 = .ok (.imul, 1) := dk_104 (bs_at BX12_pointsTo_43 4 rfl)
theorem dX12_pointsTo_50 : decode cX12_pointsTo 50 = .ok (.aload_n 0, 1) := dk_42 (bs_at BX12_pointsTo_43 5 rfl)
theorem dX12_pointsTo_51 : decode cX12_pointsTo 51 = .ok (.getfield 13, 3) := dk_180 0 13 (bs_at BX12_pointsTo_43 6 rfl) rfl
theorem dX12_pointsTo_54 : decode cX12_pointsTo 54 = .ok (.bipush 51, 2) := dk_16 51 (bs_at BX12_pointsTo_43 7 rfl) rfl
theorem dX12_pointsTo_56 : decode cX12_pointsTo 56 = .ok (.iload 4, 2) := dk_21 4 (bs_at BX12_pointsTo_43 8 rfl)
theorem dX12_pointsTo_58 : decode cX12_pointsTo 58 = .ok (.iadd, 1) := dk_96 (bs_at BX12_pointsTo_43 9 rfl)
theorem dX12_pointsTo_59 : decode cX12_pointsTo 59 = .ok (.iaload, 1) := dk_46 (bs_at BX12_pointsTo_43 10 rfl)
theorem dX12_pointsTo_60 : decode cX12_pointsTo 60 = .ok (.iadd, 1) := dk_96 (bs_at BX12_pointsTo_43 11 rfl)
theorem dX12_pointsTo_61 : decode cX12_pointsTo 61 = .ok (.istore 5, 2) := dk_54 5 (bs_at BX12_pointsTo_43 12 rfl)
theorem dX12_pointsTo_63 : decode cX12_pointsTo 63 = .ok (.iload_n 3, 1) := dk_29 (bs_at BX12_pointsTo_43 13 rfl)
theorem dX12_pointsTo_64 : decode cX12_pointsTo 64 = .ok (.iconst (-1), 1) := dk_2 (bs_at BX12_pointsTo_43 14 rfl)
theorem dX12_pointsTo_65 : decode cX12_pointsTo 65 = .ok (.if_icmp .eq 42, 3) := dk_159 0 42 (bs_at BX12_pointsTo_43 15 rfl) rfl
theorem dX12_pointsTo_68 : decode cX12_pointsTo 68 = .ok (.iload 5, 2) := dk_21 5 (bs_at BX12_pointsTo_43 16 rfl)
theorem dX12_pointsTo_70 : decode cX12_pointsTo 70 = .ok (.bipush 8, 2) := dk_16 8 (bs_at BX12_pointsTo_43 17 rfl) rfl
theorem dX12_pointsTo_72 : decode cX12_pointsTo 72 = .ok (.aload_n 0, 1) := dk_42 (bs_at BX12_pointsTo_43 18 rfl)
theorem dX12_pointsTo_73 : decode cX12_pointsTo 73 = .ok (.getfield 13, 3) := dk_180 0 13 (bs_at BX12_pointsTo_43 19 rfl) rfl
theorem dX12_pointsTo_76 : decode cX12_pointsTo 76 = .ok (.bipush 51, 2) := dk_16 51 (bs_at BX12_pointsTo_43 20 rfl) rfl
theorem dX12_pointsTo_78 : decode cX12_pointsTo 78 = .ok (.iload_n 3, 1) := dk_29 (bs_at BX12_pointsTo_43 21 rfl)
theorem dX12_pointsTo_79 : decode cX12_pointsTo 79 = .ok (.iadd, 1) := dk_96 (bs_at BX12_pointsTo_43 22 rfl)
theorem dX12_pointsTo_80 : decode cX12_pointsTo 80 = .ok (.iaload, 1) := dk_46 (bs_at BX12_pointsTo_43 23 rfl)
theorem BX12_pointsTo_81 : bsegs (ByteArray.data cX12_pointsTo |>.toList.drop 81) 81 [(81, [42]), (82, [180, 0, 13]), (85, [16, 59]), (87, [27]), (88, [96]), (89, [46]), (90, [184, 1, 238]), (93, [104]), (94, [42]), (95, [180, 0, 13]), (98, [16, 51]), (100, [29]), (101, [96]), (102, [46]), (103, [96]), (104, [162, 0, 8]), (107, [21, 4]), (109, [167, 0, 4]), (112, [29]), (113, [62]), (114, [132, 4, 1]), (117, [167, 255, 144]), (120, [29]), (121, [172])] = true := by decide +kernel
theorem dX12_pointsTo_81 : decode cX12_pointsTo 81 = .ok (.aload_n 0, 1) := dk_42 (bs_at BX12_pointsTo_81 0 rfl)
theorem dX12_pointsTo_82 : decode cX12_pointsTo 82 = .ok (.getfield 13, 3) := dk_180 0 13 (bs_at BX12_pointsTo_81 1 rfl) rfl
theorem dX12_pointsTo_85 : decode cX12_pointsTo 85 = .ok (.bipush 59, 2) := dk_16 59 (bs_at BX12_pointsTo_81 2 rfl) rfl
theorem dX12_pointsTo_87 : decode cX12_pointsTo 87 = .ok (.iload_n 1, 1) := dk_27 (bs_at BX12_pointsTo_81 3 rfl)
theorem dX12_pointsTo_88 : decode cX12_pointsTo 88 = .ok (.iadd, 1) := dk_96 (bs_at BX12_pointsTo_81 4 rfl)
theorem dX12_pointsTo_89 : decode cX12_pointsTo 89 = .ok (.iaload, 1) := dk_46 (bs_at BX12_pointsTo_81 5 rfl)
theorem dX12_pointsTo_90 : decode cX12_pointsTo 90 = .ok (.invokestatic 494, 3) := dk_184 1 238 (bs_at BX12_pointsTo_81 6 rfl) rfl
theorem dX12_pointsTo_93 : decode cX12_pointsTo 93 = .ok (.imul, 1) := dk_104 (bs_at BX12_pointsTo_81 7 rfl)
theorem dX12_pointsTo_94 : decode cX12_pointsTo 94 = .ok (.aload_n 0, 1) := dk_42 (bs_at BX12_pointsTo_81 8 rfl)
theorem dX12_pointsTo_95 : decode cX12_pointsTo 95 = .ok (.getfield 13, 3) := dk_180 0 13 (bs_at BX12_pointsTo_81 9 rfl) rfl
theorem dX12_pointsTo_98 : decode cX12_pointsTo 98 = .ok (.bipush 51, 2) := dk_16 51 (bs_at BX12_pointsTo_81 10 rfl) rfl
theorem dX12_pointsTo_100 : decode cX12_pointsTo 100 = .ok (.iload_n 3, 1) := dk_29 (bs_at BX12_pointsTo_81 11 rfl)
theorem dX12_pointsTo_101 : decode cX12_pointsTo 101 = .ok (.iadd, 1) := dk_96 (bs_at BX12_pointsTo_81 12 rfl)
theorem dX12_pointsTo_102 : decode cX12_pointsTo 102 = .ok (.iaload, 1) := dk_46 (bs_at BX12_pointsTo_81 13 rfl)
theorem dX12_pointsTo_103 : decode cX12_pointsTo 103 = .ok (.iadd, 1) := dk_96 (bs_at BX12_pointsTo_81 14 rfl)
theorem dX12_pointsTo_104 : decode cX12_pointsTo 104 = .ok (.if_icmp .ge 8, 3) := dk_162 0 8 (bs_at BX12_pointsTo_81 15 rfl) rfl
theorem dX12_pointsTo_107 : decode cX12_pointsTo 107 = .ok (.iload 4, 2) := dk_21 4 (bs_at BX12_pointsTo_81 16 rfl)
theorem dX12_pointsTo_109 : decode cX12_pointsTo 109 = .ok (.goto 4, 3) := dk_167 0 4 (bs_at BX12_pointsTo_81 17 rfl) rfl
theorem dX12_pointsTo_112 : decode cX12_pointsTo 112 = .ok (.iload_n 3, 1) := dk_29 (bs_at BX12_pointsTo_81 18 rfl)
theorem dX12_pointsTo_113 : decode cX12_pointsTo 113 = .ok (.istore_n 3, 1) := dk_62 (bs_at BX12_pointsTo_81 19 rfl)
theorem dX12_pointsTo_114 : decode cX12_pointsTo 114 = .ok (.iinc 4 1, 3) := dk_132 4 1 (bs_at BX12_pointsTo_81 20 rfl) rfl
theorem dX12_pointsTo_117 : decode cX12_pointsTo 117 = .ok (.goto (-112), 3) := dk_167 255 144 (bs_at BX12_pointsTo_81 21 rfl) rfl
theorem dX12_pointsTo_120 : decode cX12_pointsTo 120 = .ok (.iload_n 3, 1) := dk_29 (bs_at BX12_pointsTo_81 22 rfl)
theorem dX12_pointsTo_121 : decode cX12_pointsTo 121 = .ok (.ireturn, 1) := dk_172 (bs_at BX12_pointsTo_81 23 rfl)
theorem BX12_findRings_0 : bsegs (ByteArray.data cX12_findRings |>.toList.drop 0) 0 [(0, [4]), (1, [42]), (2, [180, 0, 13]), (5, [3]), (6, [46]), (7, [120]), (8, [4]), (9, [100]), (10, [60]), (11, [27]), (12, [153, 0, 153]), (15, [3]), (16, [61]), (17, [28]), (18, [42]), (19, [180, 0, 13]), (22, [3]), (23, [46]), (24, [162, 0, 33]), (27, [42]), (28, [180, 0, 123]), (31, [28]), (32, [27]), (33, [28])] = true := by decide +kernel
theorem dX12_findRings_0 : decode cX12_findRings 0 = .ok (.iconst 1, 1) := dk_4 (bs_at BX12_findRings_0 0 rfl)
theorem dX12_findRings_1 : decode cX12_findRings 1 = .ok (.aload_n 0, 1) := dk_42 (bs_at BX12_findRings_0 1 rfl)
theorem dX12_findRings_2 : decode cX12_findRings 2 = .ok (.getfield 13, 3) := dk_180 0 13 (bs_at BX12_findRings_0 2 rfl) rfl
theorem dX12_findRings_5 : decode cX12_findRings 5 = .ok (.iconst 0, 1) := dk_3 (bs_at BX12_findRings_0 3 rfl)
theorem dX12_findRings_6 : decode cX12_findRings 6 = .ok (.iaload, 1) := dk_46 (bs_at BX12_findRings_0 4 rfl)
theorem dX12_findRings_7 : decode cX12_findRings 7 = .ok (.ishl, 1) := dk_120 (bs_at BX12_findRings_0 5 rfl)
theorem dX12_findRings_8 : decode cX12_findRings 8 = .ok (.iconst 1, 1) := dk_4 (bs_at BX12_findRings_0 6 rfl)
theorem dX12_findRings_9 : decode cX12_findRings 9 = .ok (.isub, 1) := dk_100 (bs_at BX12_findRings_0 7 rfl)
theorem dX12_findRings_10 : decode cX12_findRings 10 = .ok (.istore_n 1, 1) := dk_60 (bs_at BX12_findRings_0 8 rfl)
theorem dX12_findRings_11 : decode cX12_findRings 11 = .ok (.iload_n 1, 1) := dk_27 (bs_at BX12_findRings_0 9 rfl)
theorem dX12_findRings_12 : decode cX12_findRings 12 = .ok (.ifCond .eq 153, 3) := dk_153 0 153 (bs_at BX12_findRings_0 10 rfl) rfl
theorem dX12_findRings_15 : decode cX12_findRings 15 = .ok (.iconst 0, 1) := dk_3 (bs_at BX12_findRings_0 11 rfl)
theorem dX12_findRings_16 : decode cX12_findRings 16 = .ok (.istore_n 2, 1) := dk_61 (bs_at BX12_findRings_0 12 rfl)
theorem dX12_findRings_17 : decode cX12_findRings 17 = .ok (.iload_n 2, 1) := dk_28 (bs_at BX12_findRings_0 13 rfl)
theorem dX12_findRings_18 : decode cX12_findRings 18 = .ok (.aload_n 0, 1) := dk_42 (bs_at BX12_findRings_0 14 rfl)
theorem dX12_findRings_19 : decode cX12_findRings 19 = .ok (.getfield 13, 3) := dk_180 0 13 (bs_at BX12_findRings_0 15 rfl) rfl
theorem dX12_findRings_22 : decode cX12_findRings 22 = .ok (.iconst 0, 1) := dk_3 (bs_at BX12_findRings_0 16 rfl)
theorem dX12_findRings_23 : decode cX12_findRings 23 = .ok (.iaload, 1) := dk_46 (bs_at BX12_findRings_0 17 rfl)
theorem dX12_findRings_24 : decode cX12_findRings 24 = .ok (.if_icmp .ge 33, 3) := dk_162 0 33 (bs_at BX12_findRings_0 18 rfl) rfl
theorem dX12_findRings_27 : decode cX12_findRings 27 = .ok (.aload_n 0, 1) := dk_42 (bs_at BX12_findRings_0 19 rfl)
theorem dX12_findRings_28 : decode cX12_findRings 28 = .ok (.getfield 123, 3) := dk_180 0 123 (bs_at BX12_findRings_0 20 rfl) rfl
theorem dX12_findRings_31 : decode cX12_findRings 31 = .ok (.iload_n 2, 1) := dk_28 (bs_at BX12_findRings_0 21 rfl)
theorem dX12_findRings_32 : decode cX12_findRings 32 = .ok (.iload_n 1, 1) := dk_27 (bs_at BX12_findRings_0 22 rfl)
theorem dX12_findRings_33 : decode cX12_findRings 33 = .ok (.iload_n 2, 1) := dk_28 (bs_at BX12_findRings_0 23 rfl)
theorem BX12_findRings_34 : bsegs (ByteArray.data cX12_findRings |>.toList.drop 34) 34 [(34, [184, 1, 180]), (37, [153, 0, 12]), (40, [42]), (41, [28]), (42, [27]), (43, [182, 1, 241]), (46, [167, 0, 4]), (49, [2]), (50, [79]), (51, [132, 2, 1]), (54, [167, 255, 219]), (57, [3]), (58, [61]), (59, [3]), (60, [62]), (61, [29]), (62, [42]), (63, [180, 0, 13]), (66, [3]), (67, [46]), (68, [162, 0, 88]), (71, [27]), (72, [29]), (73, [184, 1, 180])] = true := by decide +kernel
theorem dX12_findRings_34 : decode cX12_findRings 34 = .ok (.invokestatic 436, 3) := dk_184 1 180 (bs_at BX12_findRings_34 0 rfl) rfl
theorem dX12_findRings_37 : decode cX12_findRings 37 = .ok (.ifCond .eq 12, 3) := dk_153 0 12 (bs_at BX12_findRings_34 1 rfl) rfl
theorem dX12_findRings_40 : decode cX12_findRings 40 = .ok (.aload_n 0, 1) := dk_42 (bs_at BX12_findRings_34 2 rfl)
theorem dX12_findRings_41 : decode cX12_findRings 41 = .ok (.iload_n 2, 1) := dk_28 (bs_at BX12_findRings_34 3 rfl)
theorem dX12_findRings_42 : decode cX12_findRings 42 = .ok (.iload_n 1, 1) := dk_27 (bs_at BX12_findRings_34 4 rfl)
theorem dX12_findRings_43 : decode cX12_findRings 43 = .ok (.invokevirtual 497, 3) := dk_182 1 241 (bs_at BX12_findRings_34 5 rfl) rfl
theorem dX12_findRings_46 : decode cX12_findRings 46 = .ok (.goto 4, 3) := dk_167 0 4 (bs_at BX12_findRings_34 6 rfl) rfl
theorem dX12_findRings_49 : decode cX12_findRings 49 = .ok (.iconst (-1), 1) := dk_2 (bs_at BX12_findRings_34 7 rfl)
theorem dX12_findRings_50 : decode cX12_findRings 50 = .ok (.iastore, 1) := dk_79 (bs_at BX12_findRings_34 8 rfl)
theorem dX12_findRings_51 : decode cX12_findRings 51 = .ok (.iinc 2 1, 3) := dk_132 2 1 (bs_at BX12_findRings_34 9 rfl) rfl
theorem dX12_findRings_54 : decode cX12_findRings 54 = .ok (.goto (-37), 3) := dk_167 255 219 (bs_at BX12_findRings_34 10 rfl) rfl
theorem dX12_findRings_57 : decode cX12_findRings 57 = .ok (.iconst 0, 1) := dk_3 (bs_at BX12_findRings_34 11 rfl)
theorem dX12_findRings_58 : decode cX12_findRings 58 = .ok (.istore_n 2, 1) := dk_61 (bs_at BX12_findRings_34 12 rfl)
theorem dX12_findRings_59 : decode cX12_findRings 59 = .ok (.iconst 0, 1) := dk_3 (bs_at BX12_findRings_34 13 rfl)
theorem dX12_findRings_60 : decode cX12_findRings 60 = .ok (.istore_n 3, 1) := dk_62 (bs_at BX12_findRings_34 14 rfl)
theorem dX12_findRings_61 : decode cX12_findRings 61 = .ok (.iload_n 3, 1) := dk_29 (bs_at BX12_findRings_34 15 rfl)
theorem dX12_findRings_62 : decode cX12_findRings 62 = .ok (.aload_n 0, 1) := dk_42 (bs_at BX12_findRings_34 16 rfl)
theorem dX12_findRings_63 : decode cX12_findRings 63 = .ok (.getfield 13, 3) := dk_180 0 13 (bs_at BX12_findRings_34 17 rfl) rfl
theorem dX12_findRings_66 : decode cX12_findRings 66 = .ok (.iconst 0, 1) := dk_3 (bs_at BX12_findRings_34 18 rfl)
theorem dX12_findRings_67 : decode cX12_findRings 67 = .ok (.iaload, 1) := dk_46 (bs_at BX12_findRings_34 19 rfl)
theorem dX12_findRings_68 : decode cX12_findRings 68 = .ok (.if_icmp .ge 88, 3) := dk_162 0 88 (bs_at BX12_findRings_34 20 rfl) rfl
theorem dX12_findRings_71 : decode cX12_findRings 71 = .ok (.iload_n 1, 1) := dk_27 (bs_at BX12_findRings_34 21 rfl)
theorem dX12_findRings_72 : decode cX12_findRings 72 = .ok (.iload_n 3, 1) := dk_29 (bs_at BX12_findRings_34 22 rfl)
theorem dX12_findRings_73 : decode cX12_findRings 73 = .ok (.invokestatic 436, 3) := dk_184 1 180 (bs_at BX12_findRings_34 23 rfl) rfl
theorem BX12_findRings_76 : bsegs (ByteArray.data cX12_findRings |>.toList.drop 76) 76 [(76, [153, 0, 74]), (79, [42]), (80, [180, 0, 123]), (83, [29]), (84, [46]), (85, [54, 4]), (87, [3]), (88, [54, 5]), (90, [21, 5]), (92, [16, 8]), (94, [162, 0, 24]), (97, [21, 4]), (99, [29]), (100, [159, 0, 18]), (103, [42]), (104, [180, 0, 123]), (107, [21, 4]), (109, [46]), (110, [54, 4]), (112, [132, 5, 1]), (115, [167, 255, 231]), (118, [21, 4]), (120, [29]), (121, [160, 0, 29])] = true := by decide +kernel
theorem dX12_findRings_76 : decode cX12_findRings 76 = .ok (.ifCond .eq 74, 3) := dk_153 0 74 (bs_at BX12_findRings_76 0 rfl) rfl
theorem dX12_findRings_79 : decode cX12_findRings 79 = .ok (.aload_n 0, 1) := dk_42 (bs_at BX12_findRings_76 1 rfl)
theorem dX12_findRings_80 : decode cX12_findRings 80 = .ok (.getfield 123, 3) := dk_180 0 123 (bs_at BX12_findRings_76 2 rfl) rfl
theorem dX12_findRings_83 : decode cX12_findRings 83 = .ok (.iload_n 3, 1) := dk_29 (bs_at BX12_findRings_76 3 rfl)
theorem dX12_findRings_84 : decode cX12_findRings 84 = .ok (.iaload, 1) := dk_46 (bs_at BX12_findRings_76 4 rfl)
theorem dX12_findRings_85 : decode cX12_findRings 85 = .ok (.istore 4, 2) := dk_54 4 (bs_at BX12_findRings_76 5 rfl)
theorem dX12_findRings_87 : decode cX12_findRings 87 = .ok (.iconst 0, 1) := dk_3 (bs_at BX12_findRings_76 6 rfl)
theorem dX12_findRings_88 : decode cX12_findRings 88 = .ok (.istore 5, 2) := dk_54 5 (bs_at BX12_findRings_76 7 rfl)
theorem dX12_findRings_90 : decode cX12_findRings 90 = .ok (.iload 5, 2) := dk_21 5 (bs_at BX12_findRings_76 8 rfl)
theorem dX12_findRings_92 : decode cX12_findRings 92 = .ok (.bipush 8, 2) := dk_16 8 (bs_at BX12_findRings_76 9 rfl) rfl
theorem dX12_findRings_94 : decode cX12_findRings 94 = .ok (.if_icmp .ge 24, 3) := dk_162 0 24 (bs_at BX12_findRings_76 10 rfl) rfl
theorem dX12_findRings_97 : decode cX12_findRings 97 = .ok (.iload 4, 2) := dk_21 4 (bs_at BX12_findRings_76 11 rfl)
theorem dX12_findRings_99 : decode cX12_findRings 99 = .ok (.iload_n 3, 1) := dk_29 (bs_at BX12_findRings_76 12 rfl)
theorem dX12_findRings_100 : decode cX12_findRings 100 = .ok (.if_icmp .eq 18, 3) := dk_159 0 18 (bs_at BX12_findRings_76 13 rfl) rfl
theorem dX12_findRings_103 : decode cX12_findRings 103 = .ok (.aload_n 0, 1) := dk_42 (bs_at BX12_findRings_76 14 rfl)
theorem dX12_findRings_104 : decode cX12_findRings 104 = .ok (.getfield 123, 3) := dk_180 0 123 (bs_at BX12_findRings_76 15 rfl) rfl
theorem dX12_findRings_107 : decode cX12_findRings 107 = .ok (.iload 4, 2) := dk_21 4 (bs_at BX12_findRings_76 16 rfl)
theorem dX12_findRings_109 : decode cX12_findRings 109 = .ok (.iaload, 1) := dk_46 (bs_at BX12_findRings_76 17 rfl)
theorem dX12_findRings_110 : decode cX12_findRings 110 = .ok (.istore 4, 2) := dk_54 4 (bs_at BX12_findRings_76 18 rfl)
theorem dX12_findRings_112 : decode cX12_findRings 112 = .ok (.iinc 5 1, 3) := dk_132 5 1 (bs_at BX12_findRings_76 19 rfl) rfl
theorem dX12_findRings_115 : decode cX12_findRings 115 = .ok (.goto (-25), 3) := dk_167 255 231 (bs_at BX12_findRings_76 20 rfl) rfl
theorem dX12_findRings_118 : decode cX12_findRings 118 = .ok (.iload 4, 2) := dk_21 4 (bs_at BX12_findRings_76 21 rfl)
theorem dX12_findRings_120 : decode cX12_findRings 120 = .ok (.iload_n 3, 1) := dk_29 (bs_at BX12_findRings_76 22 rfl)
theorem dX12_findRings_121 : decode cX12_findRings 121 = .ok (.if_icmp .ne 29, 3) := dk_160 0 29 (bs_at BX12_findRings_76 23 rfl) rfl
theorem BX12_findRings_124 : bsegs (ByteArray.data cX12_findRings |>.toList.drop 124) 124 [(124, [42]), (125, [180, 0, 120]), (128, [29]), (129, [42]), (130, [180, 0, 13]), (133, [16, 51]), (135, [42]), (136, [180, 0, 123]), (139, [29]), (140, [46]), (141, [96]), (142, [46]), (143, [79]), (144, [28]), (145, [4]), (146, [29]), (147, [120]), (148, [128]), (149, [61]), (150, [132, 3, 1]), (153, [167, 255, 164]), (156, [27]), (157, [28]), (158, [2])] = true := by decide +kernel
theorem dX12_findRings_124 : decode cX12_findRings 124 = .ok (.aload_n 0, 1) := dk_42 (bs_at BX12_findRings_124 0 rfl)
theorem dX12_findRings_125 : decode cX12_findRings 125 = .ok (.getfield 120, 3) := dk_180 0 120 (bs_at BX12_findRings_124 1 rfl) rfl
theorem dX12_findRings_128 : decode cX12_findRings 128 = .ok (.iload_n 3, 1) := dk_29 (bs_at BX12_findRings_124 2 rfl)
theorem dX12_findRings_129 : decode cX12_findRings 129 = .ok (.aload_n 0, 1) := dk_42 (bs_at BX12_findRings_124 3 rfl)
theorem dX12_findRings_130 : decode cX12_findRings 130 = .ok (.getfield 13, 3) := dk_180 0 13 (bs_at BX12_findRings_124 4 rfl) rfl
theorem dX12_findRings_133 : decode cX12_findRings 133 = .ok (.bipush 51, 2) := dk_16 51 (bs_at BX12_findRings_124 5 rfl) rfl
theorem dX12_findRings_135 : decode cX12_findRings 135 = .ok (.aload_n 0, 1) := dk_42 (bs_at BX12_findRings_124 6 rfl)
theorem dX12_findRings_136 : decode cX12_findRings 136 = .ok (.getfield 123, 3) := dk_180 0 123 (bs_at BX12_findRings_124 7 rfl) rfl
theorem dX12_findRings_139 : decode cX12_findRings 139 = .ok (.iload_n 3, 1) := dk_29 (bs_at BX12_findRings_124 8 rfl)
theorem dX12_findRings_140 : decode cX12_findRings 140 = .ok (.iaload, 1) := dk_46 (bs_at BX12_findRings_124 9 rfl)
theorem dX12_findRings_141 : decode cX12_findRings 141 = .ok (.iadd, 1) := dk_96 (bs_at BX12_findRings_124 10 rfl)
theorem dX12_findRings_142 : decode cX12_findRings 142 = .ok (.iaload, 1) := dk_46 (bs_at BX12_findRings_124 11 rfl)
theorem dX12_findRings_143 : decode cX12_findRings 143 = .ok (.iastore, 1) := dk_79 (bs_at BX12_findRings_124 12 rfl)
theorem dX12_findRings_144 : decode cX12_findRings 144 = .ok (.iload_n 2, 1) := dk_28 (bs_at BX12_findRings_124 13 rfl)
theorem dX12_findRings_145 : decode cX12_findRings 145 = .ok (.iconst 1, 1) := dk_4 (bs_at BX12_findRings_124 14 rfl)
theorem dX12_findRings_146 : decode cX12_findRings 146 = .ok (.iload_n 3, 1) := dk_29 (bs_at BX12_findRings_124 15 rfl)
theorem dX12_findRings_147 : decode cX12_findRings 147 = .ok (.ishl, 1) := dk_120 (bs_at BX12_findRings_124 16 rfl)
theorem dX12_findRings_148 : decode cX12_findRings 148 = .ok (.ior, 1) := dk_128 (bs_at BX12_findRings_124 17 rfl)
theorem dX12_findRings_149 : decode cX12_findRings 149 = .ok (.istore_n 2, 1) := dk_61 (bs_at BX12_findRings_124 18 rfl)
theorem dX12_findRings_150 : decode cX12_findRings 150 = .ok (.iinc 3 1, 3) := dk_132 3 1 (bs_at BX12_findRings_124 19 rfl) rfl
theorem dX12_findRings_153 : decode cX12_findRings 153 = .ok (.goto (-92), 3) := dk_167 255 164 (bs_at BX12_findRings_124 20 rfl) rfl
theorem dX12_findRings_156 : decode cX12_findRings 156 = .ok (.iload_n 1, 1) := dk_27 (bs_at BX12_findRings_124 21 rfl)
theorem dX12_findRings_157 : decode cX12_findRings 157 = .ok (.iload_n 2, 1) := dk_28 (bs_at BX12_findRings_124 22 rfl)
theorem dX12_findRings_158 : decode cX12_findRings 158 = .ok (.iconst (-1), 1) := dk_2 (bs_at BX12_findRings_124 23 rfl)
theorem BX12_findRings_159 : bsegs (ByteArray.data cX12_findRings |>.toList.drop 159) 159 [(159, [130]), (160, [126]), (161, [60]), (162, [167, 255, 105]), (165, [177])] = true := by decide +kernel
theorem dX12_findRings_159 : decode cX12_findRings 159 = .ok (.ixor, 1) := dk_130 (bs_at BX12_findRings_159 0 rfl)
theorem dX12_findRings_160 : decode cX12_findRings 160 = .ok (.iand, 1) := dk_126 (bs_at BX12_findRings_159 1 rfl)
theorem dX12_findRings_161 : decode cX12_findRings 161 = .ok (.istore_n 1, 1) := dk_60 (bs_at BX12_findRings_159 2 rfl)
theorem dX12_findRings_162 : decode cX12_findRings 162 = .ok (.goto (-151), 3) := dk_167 255 105 (bs_at BX12_findRings_159 3 rfl) rfl
theorem dX12_findRings_165 : decode cX12_findRings 165 = .ok (.return_, 1) := dk_177 (bs_at BX12_findRings_159 4 rfl)
theorem BX12_rings_0 : bsegs (ByteArray.data cX12_rings |>.toList.drop 0) 0 [(0, [42]), (1, [3]), (2, [181, 0, 158]), (5, [42]), (6, [27]), (7, [182, 0, 197]), (10, [154, 0, 5]), (13, [2]), (14, [172]), (15, [42]), (16, [182, 1, 244]), (19, [42]), (20, [180, 0, 120]), (23, [27]), (24, [46]), (25, [172])] = true := by decide +kernel
theorem dX12_rings_0 : decode cX12_rings 0 = .ok (.aload_n 0, 1) := dk_42 (bs_at BX12_rings_0 0 rfl)
theorem dX12_rings_1 : decode cX12_rings 1 = .ok (.iconst 0, 1) := dk_3 (bs_at BX12_rings_0 1 rfl)
theorem dX12_rings_2 : decode cX12_rings 2 = .ok (.putfield 158, 3) := dk_181 0 158 (bs_at BX12_rings_0 2 rfl) rfl
theorem dX12_rings_5 : decode cX12_rings 5 = .ok (.aload_n 0, 1) := dk_42 (bs_at BX12_rings_0 3 rfl)
theorem dX12_rings_6 : decode cX12_rings 6 = .ok (.iload_n 1, 1) := dk_27 (bs_at BX12_rings_0 4 rfl)
theorem dX12_rings_7 : decode cX12_rings 7 = .ok (.invokevirtual 197, 3) := dk_182 0 197 (bs_at BX12_rings_0 5 rfl) rfl
theorem dX12_rings_10 : decode cX12_rings 10 = .ok (.ifCond .ne 5, 3) := dk_154 0 5 (bs_at BX12_rings_0 6 rfl) rfl
theorem dX12_rings_13 : decode cX12_rings 13 = .ok (.iconst (-1), 1) := dk_2 (bs_at BX12_rings_0 7 rfl)
theorem dX12_rings_14 : decode cX12_rings 14 = .ok (.ireturn, 1) := dk_172 (bs_at BX12_rings_0 8 rfl)
theorem dX12_rings_15 : decode cX12_rings 15 = .ok (.aload_n 0, 1) := dk_42 (bs_at BX12_rings_0 9 rfl)
theorem dX12_rings_16 : decode cX12_rings 16 = .ok (.invokevirtual 500, 3) := dk_182 1 244 (bs_at BX12_rings_0 10 rfl) rfl
theorem dX12_rings_19 : decode cX12_rings 19 = .ok (.aload_n 0, 1) := dk_42 (bs_at BX12_rings_0 11 rfl)
theorem dX12_rings_20 : decode cX12_rings 20 = .ok (.getfield 120, 3) := dk_180 0 120 (bs_at BX12_rings_0 12 rfl) rfl
theorem dX12_rings_23 : decode cX12_rings 23 = .ok (.iload_n 1, 1) := dk_27 (bs_at BX12_rings_0 13 rfl)
theorem dX12_rings_24 : decode cX12_rings 24 = .ok (.iaload, 1) := dk_46 (bs_at BX12_rings_0 14 rfl)
theorem dX12_rings_25 : decode cX12_rings 25 = .ok (.ireturn, 1) := dk_172 (bs_at BX12_rings_0 15 rfl)
theorem ggX12_pointsTo_X12_is : GoodIn wsX12_pointsTo wsX12_is := gi_ch ch_X12_pointsTo ch_X12_is (by decide +kernel)
theorem gX12_pointsTo_X12_is : GoodIn wsX12_pointsTo (va_wsS RX12 436 yX12_is wsX12_is) := gi_ch ch_X12_pointsTo (ch_s [1189, 1190, 156] rfl ch_X12_is) (by decide +kernel)
theorem ggX12_pointsTo_X12_apart : GoodIn wsX12_pointsTo wsX12_apart := gi_ch ch_X12_pointsTo ch_X12_apart (by decide +kernel)
theorem gX12_pointsTo_X12_apart : GoodIn wsX12_pointsTo (va_wsS RX12 494 yX12_apart wsX12_apart) := gi_ch ch_X12_pointsTo (ch_s [1276, 1277, 156] rfl ch_X12_apart) (by decide +kernel)
theorem ggX12_findRings_X12_is : GoodIn wsX12_findRings wsX12_is := gi_ch ch_X12_findRings ch_X12_is (by decide +kernel)
theorem gX12_findRings_X12_is : GoodIn wsX12_findRings (va_wsS RX12 436 yX12_is wsX12_is) := gi_ch ch_X12_findRings (ch_s [1189, 1190, 156] rfl ch_X12_is) (by decide +kernel)
theorem ggX12_findRings_X12_pointsTo : GoodIn wsX12_findRings wsX12_pointsTo := gi_ch ch_X12_findRings ch_X12_pointsTo (by decide +kernel)
theorem gX12_findRings_X12_pointsTo : GoodIn wsX12_findRings (wsV RX12 497 RX12 yX12_pointsTo wsX12_pointsTo) := gi_ch ch_X12_findRings (ch_v [1273, 1274, 133, 156] rfl ch_X12_pointsTo) (by decide +kernel)
theorem ggX12_rings_X12_isHouse : GoodIn wsX12_rings wsX12_isHouse := gi_ch ch_X12_rings ch_X12_isHouse (by decide +kernel)
theorem gX12_rings_X12_isHouse : GoodIn wsX12_rings (wsV RX12 197 RX12 yX12_isHouse wsX12_isHouse) := gi_ch ch_X12_rings (ch_v [984, 985, 76, 156] rfl ch_X12_isHouse) (by decide +kernel)
theorem ggX12_rings_X12_findRings : GoodIn wsX12_rings wsX12_findRings := gi_ch ch_X12_rings ch_X12_findRings (by decide +kernel)
theorem gX12_rings_X12_findRings : GoodIn wsX12_rings (wsV RX12 500 RX12 yX12_findRings wsX12_findRings) := gi_ch ch_X12_rings (ch_v [1270, 1271, 132, 156] rfl ch_X12_findRings) (by decide +kernel)
noncomputable def bt (x : Int32) (i : Nat) : Bool := x.toBitVec.getLsbD i
theorem b_ext {x y : Int32} (h : ∀ i, i < 32 → bt x i = bt y i) : x = y := Int32.toBitVec_inj.mp (BitVec.eq_of_getLsbD_eq (fun i hi => h i hi))
theorem b_or (x y : Int32) (i : Nat) : bt (x ||| y) i = (bt x i || bt y i) := by unfold bt; rw [Int32.toBitVec_or, BitVec.getLsbD_or]
theorem b_and (x y : Int32) (i : Nat) : bt (x &&& y) i = (bt x i && bt y i) := by unfold bt; rw [Int32.toBitVec_and, BitVec.getLsbD_and]
theorem b_xor (x y : Int32) (i : Nat) : bt (x ^^^ y) i = (bt x i ^^ bt y i) := by unfold bt; rw [Int32.toBitVec_xor, BitVec.getLsbD_xor]
theorem b_big {x : Int32} {i : Nat} (h : 32 ≤ i) : bt x i = false := BitVec.getLsbD_of_ge _ _ h
theorem b_255 (i : Nat) : bt 255 i = decide (i < 8) := by
  rcases Nat.lt_or_ge i 32 with h | h
  · exact (by decide +kernel : ∀ i, i < 32 → bt 255 i = decide (i < 8)) i h
  · rw [b_big h, decide_eq_false (by omega)]
theorem b_65535 (i : Nat) : bt 65535 i = decide (i < 16) := by
  rcases Nat.lt_or_ge i 32 with h | h
  · exact (by decide +kernel : ∀ i, i < 32 → bt 65535 i = decide (i < 16)) i h
  · rw [b_big h, decide_eq_false (by omega)]
theorem b_m1 : ∀ i, i < 32 → bt (-1) i = true := by decide +kernel
theorem b_0 (i : Nat) : bt 0 i = false := BitVec.getLsbD_zero
theorem s_l : ∀ n, n < 32 → ((nI n &&& 31).toBitVec.smod 32).toNat = n := by decide +kernel
theorem s_u : ∀ n, n < 32 → (((nI n).toUInt32 &&& Int32.toUInt32 31).toBitVec % 32).toNat = n := by decide +kernel
theorem b_shl (n : Nat) (hn : n < 32) (x : Int32) {i : Nat} (hi : i < 32) : bt (x <<< (nI n &&& 31)) i = (decide (n ≤ i) && bt x (i - n)) := by
  unfold bt
  rw [Int32.toBitVec_shiftLeft]
  show (x.toBitVec <<< ((nI n &&& 31).toBitVec.smod 32).toNat).getLsbD i = _
  rw [s_l n hn, BitVec.getLsbD_shiftLeft]
  rcases Nat.lt_or_ge i n with h | h
  · simp [h, Nat.not_le.mpr h]
  · simp [hi, h, Nat.not_lt.mpr h]
theorem b_ushr (n : Nat) (hn : n < 32) (x : Int32) (i : Nat) : bt ((x.toUInt32 >>> ((nI n).toUInt32 &&& Int32.toUInt32 31)).toInt32) i = bt x (n + i) := by
  show (x.toUInt32 >>> ((nI n).toUInt32 &&& Int32.toUInt32 31)).toBitVec.getLsbD i = x.toUInt32.toBitVec.getLsbD (n + i)
  rw [UInt32.toBitVec_shiftRight]
  show (x.toUInt32.toBitVec >>> (((nI n).toUInt32 &&& Int32.toUInt32 31).toBitVec % 32).toNat).getLsbD i = _
  rw [s_u n hn, BitVec.getLsbD_ushiftRight]
theorem b_sshr (n : Nat) (hn : n < 32) (x : Int32) {i : Nat} (hi : i < 32) : bt (x >>> (nI n &&& 31)) i = if n + i < 32 then bt x (n + i) else bt x 31 := by
  unfold bt
  rw [Int32.toBitVec_shiftRight]
  show (x.toBitVec.sshiftRight ((nI n &&& 31).toBitVec.smod 32).toNat).getLsbD i = _
  rw [s_l n hn, BitVec.getLsbD_sshiftRight, BitVec.msb_eq_getLsbD_last]
  simp [hi]
theorem b_shl8 (x : Int32) {i : Nat} (hi : i < 32) : bt (x <<< ((8 : Int32) &&& 31)) i = (decide (8 ≤ i) && bt x (i - 8)) := b_shl 8 (by omega) x hi
theorem b_shl16 (x : Int32) {i : Nat} (hi : i < 32) : bt (x <<< ((16 : Int32) &&& 31)) i = (decide (16 ≤ i) && bt x (i - 16)) := b_shl 16 (by omega) x hi
theorem b_shl24 (x : Int32) {i : Nat} (hi : i < 32) : bt (x <<< ((24 : Int32) &&& 31)) i = (decide (24 ≤ i) && bt x (i - 24)) := b_shl 24 (by omega) x hi
theorem b_sshr8 (x : Int32) {i : Nat} (hi : i < 32) : bt (x >>> ((8 : Int32) &&& 31)) i = if 8 + i < 32 then bt x (8 + i) else bt x 31 := b_sshr 8 (by omega) x hi
theorem b_1 : ∀ i, i < 32 → bt 1 i = decide (i = 0) := by decide +kernel
theorem and_1 (y : Int32) : y &&& 1 = if bt y 0 = true then 1 else 0 := by
  by_cases h : bt y 0 = true
  · rw [if_pos h]
    refine b_ext (fun i hi => ?_)
    rw [b_and, b_1 i hi]
    by_cases e : i = 0
    · subst e; rw [h]; rfl
    · simp [e]
  · rw [if_neg h]
    refine b_ext (fun i hi => ?_)
    rw [b_and, b_1 i hi, b_0]
    by_cases e : i = 0
    · subst e; simp [h]
    · simp [e]
theorem isb_bt (x : Int32) {h : Nat} (hh : h < 32) : ((x >>> (nI h &&& 31)) &&& 1).toInt = 1 ↔ bt x h = true := by
  have e0 : bt (x >>> (nI h &&& 31)) 0 = bt x h := by
    rw [b_sshr h hh x (by decide), if_pos (show h + 0 < 32 by omega), Nat.add_zero]
  rw [and_1, e0]
  by_cases q : bt x h = true
  · rw [if_pos q]; exact ⟨fun _ => q, fun _ => rfl⟩
  · rw [if_neg q]; exact ⟨fun e => absurd e (by decide), fun e => absurd e q⟩
theorem is_yes {x y : Int32} (hy : 0 ≤ y.toInt ∧ y.toInt ≤ 7) (h : ((x >>> (y &&& 31)) &&& 1).toInt = 1) : bt x y.toInt.toNat = true := by
  rw [i_ofN (a := y) rfl hy.1] at h
  exact (isb_bt x (by omega)).mp h
theorem is_no {x y : Int32} (hy : 0 ≤ y.toInt ∧ y.toInt ≤ 7) (h : ((x >>> (y &&& 31)) &&& 1).toInt ≠ 1) : bt x y.toInt.toNat = false := by
  rw [i_ofN (a := y) rfl hy.1] at h
  cases q : bt x y.toInt.toNat with
  | false => rfl
  | true => exact absurd ((isb_bt x (by omega)).mpr q) h
theorem pig : ∀ (n : Nat) (a : Nat → Nat), (∀ i, i ≤ n → a i < n) → ∃ i j, i < j ∧ j ≤ n ∧ a i = a j
  | 0, a, h => absurd (h 0 (Nat.le_refl 0)) (Nat.not_lt_zero _)
  | n + 1, a, h => by
    by_cases hv : ∃ i, i ≤ n ∧ a i = a (n + 1)
    · obtain ⟨i, hi, e⟩ := hv
      exact ⟨i, n + 1, by omega, by omega, e⟩
    · have key : ∀ i, i ≤ n → a i ≠ a (n + 1) := fun i hi e => hv ⟨i, hi, e⟩
      obtain ⟨i, j, h1, h2, h3⟩ := pig n (fun i => if a (n + 1) < a i then a i - 1 else a i) (fun i hi => by
        have h0 := h i (by omega)
        have h9 := h (n + 1) (by omega)
        have hne := key i hi
        show (if a (n + 1) < a i then a i - 1 else a i) < n
        split <;> omega)
      have hi := key i (by omega)
      have hj := key j (by omega)
      refine ⟨i, j, h1, by omega, ?_⟩
      have h4 : (if a (n + 1) < a i then a i - 1 else a i) = (if a (n + 1) < a j then a j - 1 else a j) := h3
      split at h4 <;> split at h4 <;> omega
noncomputable def SubN (l : Int32) (n : Int) : Prop := ∀ q : Nat, n ≤ (q : Int) → bt l q = false
theorem SubN.base0 : ∀ n : Nat, n < 9 → ∀ q : Nat, q < 32 → n ≤ q → bt ((1 : Int32) <<< (nI n &&& 31) - 1) q = false := by decide +kernel
theorem SubN.base {y x z : Int32} (hy : 0 ≤ y.toInt ∧ y.toInt ≤ 8) (hx : x = (1 : Int32) <<< (y &&& 31)) (hz : z = x - 1) : SubN z y.toInt := fun q hq => by
  rcases Nat.lt_or_ge q 32 with h | h
  · rw [hz, hx, i_ofN (a := y) rfl hy.1]
    exact SubN.base0 y.toInt.toNat (by omega) q h (by omega)
  · exact b_big h
theorem SubN.and {l x : Int32} {n : Int} (h : SubN l n) : SubN (l &&& x) n := fun q hq => by rw [b_and, h q hq]; rfl
noncomputable def PtW (l : Int32) (its o : Int) : Prop := (its = -1 ∨ (0 ≤ its ∧ its < o ∧ bt l its.toNat = true)) ∧ (its = -1 → ∀ q : Nat, (q : Int) < o → bt l q = false)
theorem PtW.base {l : Int32} : PtW l (-1) 0 := ⟨Or.inl rfl, fun _ q hq => absurd hq (by omega)⟩
theorem PtW.no {l : Int32} {its o : Int} (h : PtW l its o) (ho : 0 ≤ o) (hb : bt l o.toNat = false) : PtW l its (o + 1) := by
  refine ⟨?_, fun e q hq => ?_⟩
  · rcases h.1 with e | ⟨h1, h2, h3⟩
    · exact Or.inl e
    · exact Or.inr ⟨h1, by omega, h3⟩
  · by_cases e2 : (q : Int) = o
    · rw [show q = o.toNat by omega]; exact hb
    · exact h.2 e q (by omega)
theorem PtW.new {l : Int32} {o : Int} (ho : 0 ≤ o) (hb : bt l o.toNat = true) : PtW l o (o + 1) := ⟨Or.inr ⟨ho, by omega, hb⟩, fun e => absurd e (by omega)⟩
theorem PtW.old {l : Int32} {its o : Int} (h : PtW l its o) (hi : its ≠ -1) : PtW l its (o + 1) := by
  rcases h.1 with e | ⟨h1, h2, h3⟩
  · exact absurd e hi
  · exact ⟨Or.inr ⟨h1, by omega, h3⟩, fun e => absurd e hi⟩
theorem PtW.rng {l : Int32} {its o : Int} (h : PtW l its o) : -1 ≤ its ∧ (its < o ∨ its = -1) := by
  rcases h.1 with e | ⟨h1, h2, h3⟩ <;> omega
noncomputable def PtsP (fp : Nat → Int32) (l : Int32) (n h : Int) : Prop := ∀ q : Nat, (q : Int) < h → bt l q = true → 0 ≤ (fp q).toInt ∧ (fp q).toInt < n ∧ bt l (fp q).toInt.toNat = true
theorem PtsP.base {fp : Nat → Int32} {l : Int32} {n : Int} : PtsP fp l n 0 := fun q hq => absurd hq (by omega)
theorem PtsP.yes {fp : Nat → Int32} {l v : Int32} {n h : Int} (q : PtsP fp l n h) (hh : 0 ≤ h ∧ h < n) (hb : bt l h.toNat = true) (hw : PtW l v.toInt n) : PtsP (upd fp h.toNat v) l n (h + 1) := fun j hj hl => by
  by_cases e : j = h.toNat
  · subst e
    rw [pk_us]
    rcases hw.1 with e | h3
    · have := hw.2 e h.toNat (by omega)
      rw [this] at hb; cases hb
    · exact h3
  · rw [pk_un e]; exact q j (by omega) hl
theorem PtsP.no {fp : Nat → Int32} {l v : Int32} {n h : Int} (q : PtsP fp l n h) (hh : 0 ≤ h) (hb : bt l h.toNat = false) : PtsP (upd fp h.toNat v) l n (h + 1) := fun j hj hl => by
  by_cases e : j = h.toNat
  · subst e; rw [hb] at hl; cases hl
  · rw [pk_un e]; exact q j (by omega) hl
noncomputable def itf (fp : Nat → Int32) : Nat → Nat → Nat
  | 0, h => h
  | k + 1, h => (fp (itf fp k h)).toInt.toNat
theorem itf_add (fp : Nat → Int32) (i h : Nat) : ∀ m, itf fp (m + i) h = itf fp m (itf fp i h)
  | 0 => by rw [Nat.zero_add]; rfl
  | m + 1 => by rw [show m + 1 + i = (m + i) + 1 by omega]; show (fp (itf fp (m + i) h)).toInt.toNat = (fp (itf fp m (itf fp i h))).toInt.toNat; rw [itf_add fp i h m]
theorem itf_in {fp : Nat → Int32} {l : Int32} {n : Int} (q : PtsP fp l n n) {h : Nat} (hh : (h : Int) < n) (hb : bt l h = true) : ∀ k, (itf fp k h : Int) < n ∧ bt l (itf fp k h) = true
  | 0 => ⟨hh, hb⟩
  | k + 1 => by
    obtain ⟨h1, h2⟩ := itf_in q hh hb k
    obtain ⟨g1, g2, g3⟩ := q _ h1 h2
    exact ⟨by show (((fp (itf fp k h)).toInt.toNat : Nat) : Int) < n; omega, g3⟩
noncomputable def ItW (fp : Nat → Int32) (l : Int32) (n h a k : Int) : Prop := 0 ≤ k ∧ 0 ≤ a ∧ a < n ∧ bt l a.toNat = true ∧ a.toNat = itf fp (k.toNat + 1) h.toNat ∧ ∀ m : Nat, 1 ≤ m → m ≤ k.toNat → itf fp m h.toNat ≠ h.toNat
theorem ItW.base {fp : Nat → Int32} {l : Int32} {n h a : Int} (q : PtsP fp l n n) (hh : 0 ≤ h ∧ h < n) (hb : bt l h.toNat = true) (ha : a = (fp h.toNat).toInt) : ItW fp l n h a 0 := by
  obtain ⟨h1, h2, h3⟩ := q h.toNat (by omega) hb
  rw [← ha] at h1 h2 h3
  exact ⟨by omega, h1, h2, h3, by rw [ha]; rfl, fun m h1 h2 => absurd h2 (by omega)⟩
theorem ItW.next {fp : Nat → Int32} {l : Int32} {n h a b k : Int} (q : PtsP fp l n n) (w : ItW fp l n h a k) (hh : 0 ≤ h) (hn : a ≠ h) (hb : b = (fp a.toNat).toInt) : ItW fp l n h b (k + 1) := by
  obtain ⟨h0, h1, h2, h3, h4, h5⟩ := w
  obtain ⟨g1, g2, g3⟩ := q a.toNat (by omega) h3
  rw [← hb] at g1 g2 g3
  refine ⟨by omega, g1, g2, g3, ?_, fun m m1 m2 => ?_⟩
  · rw [show (k + 1).toNat + 1 = (k.toNat + 1) + 1 by omega]
    show b.toNat = (fp (itf fp (k.toNat + 1) h.toNat)).toInt.toNat
    rw [← h4, hb]
  · by_cases e : m = k.toNat + 1
    · rw [e, ← h4]; omega
    · exact h5 m m1 (by omega)
noncomputable def OutOK (fp : Nat → Int32) (l o : Int32) (h : Int) : Prop := ∀ q : Nat, (q : Int) < h → bt l q = true → (∃ m, 1 ≤ m ∧ m ≤ 8 ∧ itf fp m q = q) → bt o q = true
theorem OutOK.base {fp : Nat → Int32} {l : Int32} : OutOK fp l 0 0 := fun q hq => absurd hq (by omega)
theorem OutOK.skip {fp : Nat → Int32} {l o : Int32} {h : Int} (w : OutOK fp l o h) (hh : 0 ≤ h) (hb : bt l h.toNat = false) : OutOK fp l o (h + 1) := fun q hq hl hc => by
  by_cases e : q = h.toNat
  · subst e; rw [hb] at hl; cases hl
  · exact w q (by omega) hl hc
theorem OutOK.far {fp : Nat → Int32} {l o : Int32} {n h a k : Int} (w : OutOK fp l o h) (hh : 0 ≤ h) (i : ItW fp l n h a k) (hk : k = 8) : OutOK fp l o (h + 1) := fun q hq hl hc => by
  by_cases e : q = h.toNat
  · subst e
    obtain ⟨m, m1, m2, m3⟩ := hc
    exact absurd m3 (i.2.2.2.2.2 m m1 (by omega))
  · exact w q (by omega) hl hc
theorem OutOK.add {fp : Nat → Int32} {l o x z : Int32} {h y : Int} {yy : Int32} (w : OutOK fp l o h) (hh : 0 ≤ h ∧ h ≤ 7) (hy : yy.toInt = h) (hx : x = (1 : Int32) <<< (yy &&& 31)) (hz : z = o ||| x) : OutOK fp l z (h + 1) := fun q hq hl hc => by
  have hq8 : q < 32 := by omega
  rw [hz, b_or]
  by_cases e : q = h.toNat
  · subst e
    rw [hx, i_ofN hy hh.1, b_shl _ (by omega) _ hq8, Nat.sub_self, b_1 0 (by decide)]
    simp
  · rw [w q (by omega) hl hc]; rfl
theorem ring_lt {fp : Nat → Int32} {l o x z : Int32} {n : Int} (hl : 0 ≤ l.toInt) (h0 : l.toInt ≠ 0) (hn : n ≤ 8) (s : SubN l n) (p : PtsP fp l n n) (w : OutOK fp l o n) (hx : x = o ^^^ (-1)) (hz : z = l &&& x) : z.toInt < l.toInt := by
  have hq : ∃ q : Nat, q < 32 ∧ bt l q = true := by
    refine Classical.byContradiction (fun c => h0 ?_)
    have : l = 0 := b_ext (fun i hi => by
      rw [b_0]
      cases e : bt l i with
      | false => rfl
      | true => exact absurd ⟨i, hi, e⟩ c)
    rw [this]; rfl
  obtain ⟨q, hq1, hq2⟩ := hq
  have hqn : (q : Int) < n := by
    refine Classical.byContradiction (fun c => ?_)
    have := s q (by omega)
    rw [this] at hq2; cases hq2
  obtain ⟨i, j, h1, h2, h3⟩ := pig n.toNat (fun k => itf fp k q) (fun k _ => by
    have := (itf_in p hqn hq2 k).1
    show itf fp k q < n.toNat
    omega)
  have hi := itf_in p hqn hq2 i
  have hc : itf fp (j - i) (itf fp i q) = itf fp i q := by
    rw [← itf_add, show j - i + i = j by omega]
    exact h3.symm
  have hb := w (itf fp i q) hi.1 hi.2 ⟨j - i, by omega, by omega, hc⟩
  have hle := i_andl (a := l) (b := x) rfl hl
  rw [← hz] at hle
  refine Classical.byContradiction (fun c => ?_)
  have e : z = l := i_lit (x := l.toInt) (by omega) rfl
  have h9 : bt z (itf fp i q) = true := by rw [e]; exact hi.2
  rw [hz, b_and, hx, b_xor, hb, b_m1 _ (by omega)] at h9
  simp at h9
set_option maxRecDepth 100000 in
noncomputable def E_v_isB (x : Int32) (y : Int32) : Int32 :=
  Lt (x >>> (y &&& 31) : Int32) (fun x_64 => Lt (x_64 &&& 1 : Int32) (fun x_65 => if x_65 = 1 then ((1 : Int32)) else ((0 : Int32))))
set_option maxHeartbeats 4000000 in
set_option maxRecDepth 100000 in
theorem v_isB (l : Launch) (D : va_G) (K : Nat → ClassId) (x : Int32) (y : Int32) (sz : Nat) (zy : 0 ≤ y.toInt ∧ y.toInt ≤ 7) : Met l yX12_is wsX12_is ({ frames := 0, cells := 0, slots := 0, locals := 0 }) (va_Pc [.int x, .int y] (Pre D K [] sz)) (vp_Si (fun r : Int32 => (((r = 1 ∧ bt x y.toInt.toNat = true) ∨ (r = 0 ∧ bt x y.toInt.toNat = false)) ∧ True) ∧ r = E_v_isB x y)) 0 0 (fun _ => False) := by
  refine Met.ofW (cc := cX12_is) (maxL := 2) (ret := (some .boolean)) (by decide +kernel) rfl ?_
  intro p e s m args below meth c s₁ B hml hv
  obtain ⟨rfl, hsz, hP, hK, hD0, hN⟩ := hv
  have hx := B.exec
  have hb := B.bytes
  have hr := B.returns
  have hts := atoms_spec (ws := wsX12_is) B.pre
  have hown : s.vm.findClass RX12 = some m.cls := findClass_of_methodNamed B.named
  have hlocks := B.notSynchronized
  subst hsz
  have hD := hD0
  replace hP : va_P D vwCl [] s.heap := hP
  have hl := lv_entry [.int x, .int y] (n := 2) (Nat.le_of_ble_eq_true rfl)
  rw [lg_entry_eq]
  generalize (lg_sl [.int x, .int y] ++ List.replicate (2 - (lg_sl [.int x, .int y]).length) Slot.unset).toArray = ls at hl ⊢
  have hl : lv_has ls 2 [(0, .int x), (1, .int y)] := hl
  generalize hQ : MQ below _ _ s _ _ _ = Q
  have hE := E_v_isB.eq_def x y
  refine lv_iload_n hx hb dX12_is_0 rfl (lv_at hl 0 rfl) (lv_iload_n hx hb dX12_is_1 rfl (lv_at hl 1 rfl) (lv_ishr hx hb dX12_is_2 (lv_topi (fun x_64 ex_64 => ?_))))
  replace hE := hE.trans (Lt_in ex_64)
  refine lv_iconst (v := 1) hx hb dX12_is_3 (by decide +kernel) (lv_iand hx hb dX12_is_4 (lv_topi (fun x_65 ex_65 => ?_)))
  replace hE := hE.trans (Lt_in ex_65)
  have hx_65 : 0 ≤ x_65.toInt ∧ x_65.toInt ≤ 1 := by rw [ex_65]; exact i_mask x_64 1 rfl (by decide +kernel)
  refine lv_iconst (v := 1) hx hb dX12_is_5 (by decide +kernel) (lv_icmp_ne (tgt := 13) hx hb dX12_is_6 (by decide +kernel) (fun c_66 => ?_) (fun c_66 => ?_))
  · have c_66i := i_ne (x := x_65.toInt) (y := 1) rfl rfl c_66
    replace hE := hE.trans (if_neg c_66)
    refine lv_iconst (v := 0) hx hb dX12_is_13 (by decide +kernel) ?_
    rw [← hQ]
    exact W.zret (v := 0) hx hb hr (by decide +kernel) (fun t ht hW => ⟨_, rfl, ⟨⟨Or.inr ⟨rfl, is_no (by omega) (by rw [← ex_64, ← ex_65]; omega)⟩, trivial⟩, hE.symm⟩, ht⟩) (fun q hq => by cases hq) dX12_is_14
  · have c_66i := i_eq (x := x_65.toInt) (y := 1) rfl rfl c_66
    replace hE := hE.trans (if_pos c_66)
    refine lv_iconst (v := 1) hx hb dX12_is_9 (by decide +kernel) (lv_goto (tgt := 14) hx hb dX12_is_10 (by decide +kernel) ?_)
    rw [← hQ]
    exact W.zret (v := 1) hx hb hr (by decide +kernel) (fun t ht hW => ⟨_, rfl, ⟨⟨Or.inl ⟨rfl, is_yes (by omega) (by rw [← ex_64, ← ex_65]; omega)⟩, trivial⟩, hE.symm⟩, ht⟩) (fun q hq => by cases hq) dX12_is_14
set_option maxRecDepth 100000 in
noncomputable def E_v_apartA (x : Int32) (y : Int32) : Int32 :=
  if x ≤ y then (Lt (y - x : Int32) (fun x_68 => (x_68 : Int32))) else (Lt (x - y : Int32) (fun x_69 => (x_69 : Int32)))
set_option maxHeartbeats 4000000 in
set_option maxRecDepth 100000 in
theorem v_apartA (l : Launch) (D : va_G) (K : Nat → ClassId) (x : Int32) (y : Int32) (sz : Nat) : Met l yX12_apart wsX12_apart ({ frames := 0, cells := 0, slots := 0, locals := 0 }) (va_Pc [.int x, .int y] (Pre D K [] sz)) (vp_Si (fun r : Int32 => (r = E_v_apartA x y) ∧ True)) 0 0 (fun _ => False) := by
  refine Met.ofW (cc := cX12_apart) (maxL := 2) (ret := (some .int)) (by decide +kernel) rfl ?_
  intro p e s m args below meth c s₁ B hml hv
  obtain ⟨rfl, hsz, hP, hK, hD0, hN⟩ := hv
  have hx := B.exec
  have hb := B.bytes
  have hr := B.returns
  have hts := atoms_spec (ws := wsX12_apart) B.pre
  have hown : s.vm.findClass RX12 = some m.cls := findClass_of_methodNamed B.named
  have hlocks := B.notSynchronized
  subst hsz
  have hD := hD0
  replace hP : va_P D vwCl [] s.heap := hP
  have hl := lv_entry [.int x, .int y] (n := 2) (Nat.le_of_ble_eq_true rfl)
  rw [lg_entry_eq]
  generalize (lg_sl [.int x, .int y] ++ List.replicate (2 - (lg_sl [.int x, .int y]).length) Slot.unset).toArray = ls at hl ⊢
  have hl : lv_has ls 2 [(0, .int x), (1, .int y)] := hl
  generalize hQ : MQ below _ _ s _ _ _ = Q
  have hE := E_v_apartA.eq_def x y
  refine lv_iload_n hx hb dX12_apart_0 rfl (lv_at hl 0 rfl) (lv_iload_n hx hb dX12_apart_1 rfl (lv_at hl 1 rfl) (lv_icmp_le (tgt := 11) hx hb dX12_apart_2 (by decide +kernel) (fun c_67 => ?_) (fun c_67 => ?_)))
  · have c_67i := i_le (x := x.toInt) (y := y.toInt) rfl rfl c_67
    replace hE := hE.trans (if_pos c_67)
    refine lv_iload_n hx hb dX12_apart_11 rfl (lv_at hl 1 rfl) (lv_iload_n hx hb dX12_apart_12 rfl (lv_at hl 0 rfl) (lv_isub hx hb dX12_apart_13 (lv_topi (fun x_68 ex_68 => ?_))))
    replace hE := hE.trans (Lt_in ex_68)
    rw [← hQ]
    exact W.iret (v := x_68) hx hb hr (fun t ht hW => ⟨_, rfl, ⟨hE.symm, trivial⟩, ht⟩) (fun q hq => by cases hq) dX12_apart_14
  · have c_67i := i_nle (x := x.toInt) (y := y.toInt) rfl rfl c_67
    replace hE := hE.trans (if_neg c_67)
    refine lv_iload_n hx hb dX12_apart_5 rfl (lv_at hl 0 rfl) (lv_iload_n hx hb dX12_apart_6 rfl (lv_at hl 1 rfl) (lv_isub hx hb dX12_apart_7 (lv_topi (fun x_69 ex_69 => ?_))))
    replace hE := hE.trans (Lt_in ex_69)
    refine lv_goto (tgt := 14) hx hb dX12_apart_8 (by decide +kernel) ?_
    rw [← hQ]
    exact W.iret (v := x_69) hx hb hr (fun t ht hW => ⟨_, rfl, ⟨hE.symm, trivial⟩, ht⟩) (fun q hq => by cases hq) dX12_apart_14
set_option maxRecDepth 100000 in
noncomputable def E_v_pointsTo_l5 (x : Int32) (y : Int32) (fw : Nat → Int32) (rec_626 : Int32 → Int32 → (Int32)) (v_554 : Int32) (v_555 : Int32) : Int32 :=
  Lt (fw (0 : Int32).toNatClampNeg : Int32) (fun x_628 => if x_628 ≤ v_554 then ((v_555 : Int32)) else (Lt (E_v_isB y v_554) (fun r_630 => if r_630 = 1 then (Lt (51 + v_554 : Int32) (fun x_635 => Lt (fw (x_635 : Int32).toNatClampNeg : Int32) (fun x_636 => Lt (59 + x : Int32) (fun x_637 => Lt (fw (x_637 : Int32).toNatClampNeg : Int32) (fun x_638 => Lt (E_v_apartA x_636 x_638) (fun r_639 => Lt (8 * r_639 : Int32) (fun x_641 => Lt (51 + v_554 : Int32) (fun x_642 => Lt (fw (x_642 : Int32).toNatClampNeg : Int32) (fun x_643 => Lt (x_641 + x_643 : Int32) (fun x_644 => if v_555 = (-1) then (Lt (v_554 + Int32.ofInt 1 : Int32) (fun x_646 => rec_626 x_646 v_554)) else (Lt (51 + v_555 : Int32) (fun x_647 => Lt (fw (x_647 : Int32).toNatClampNeg : Int32) (fun x_648 => Lt (59 + x : Int32) (fun x_649 => Lt (fw (x_649 : Int32).toNatClampNeg : Int32) (fun x_650 => Lt (E_v_apartA x_648 x_650) (fun r_651 => Lt (8 * r_651 : Int32) (fun x_653 => Lt (51 + v_555 : Int32) (fun x_654 => Lt (fw (x_654 : Int32).toNatClampNeg : Int32) (fun x_655 => Lt (x_653 + x_655 : Int32) (fun x_656 => if x_656 ≤ x_644 then (Lt (v_554 + Int32.ofInt 1 : Int32) (fun x_658 => rec_626 x_658 v_555)) else (Lt (v_554 + Int32.ofInt 1 : Int32) (fun x_659 => rec_626 x_659 v_554)))))))))))))))))))))) else (Lt (v_554 + Int32.ofInt 1 : Int32) (fun x_661 => rec_626 x_661 v_555)))))
set_option maxRecDepth 100000 in
noncomputable def E_v_pointsTo (x : Int32) (y : Int32) (fw : Nat → Int32) : Int32 :=
  Lp (α := Int32 → Int32 → (Int32)) (E_v_pointsTo_l5 x y fw) (fun _ _ => ((0) : Int32)) ((9 - (0 : Int32).toInt : Int).toNat + 1) 0 (-1)
set_option maxHeartbeats 4000000 in
set_option maxRecDepth 100000 in
theorem v_pointsTo (l : Launch) (D : va_G) (K : Nat → ClassId) (m0 : Nat) (x : Int32) (y : Int32) (m_0 : Value) (m_1 : Value) (m_2 : Value) (w0 : Nat) (m_4 : Value) (m_5 : Value) (m_6 : Value) (m_7 : Value) (m_8 : Value) (m_9 : Value) (m_10 : Value) (m_11 : Value) (m_12 : Value) (m_13 : Value) (m_14 : Value) (m_15 : Value) (m_16 : Value) (m_17 : Value) (m_18 : Value) (m_19 : Value) (m_20 : Value) (m_21 : Value) (m_22 : Value) (m_23 : Value) (m_24 : Value) (m_25 : Value) (m_26 : Value) (m_27 : Value) (m_28 : Value) (m_29 : Value) (m_30 : Value) (m_31 : Value) (m_32 : Value) (m_33 : Value) (m_34 : Value) (m_35 : Value) (m_36 : Value) (m_37 : Value) (m_38 : Value) (m_39 : Value) (m_40 : Value) (m_41 : Value) (m_42 : Value) (m_43 : Value) (m_44 : Value) (m_45 : Value) (m_46 : Value) (m_47 : Value) (m_48 : Value) (m_49 : Value) (m_50 : Value) (m_51 : Value) (m_52 : Value) (m_53 : Value) (m_54 : Value) (m_55 : Value) (m_56 : Value) (m_57 : Value) (m_58 : Value) (m_59 : Value) (fw : Nat → Int32) (sz : Nat) (zx : 0 ≤ x.toInt ∧ x.toInt ≤ 7) (zfw : RwOK fw) : Met l yX12_pointsTo wsX12_pointsTo ({ frames := 1, cells := 0, slots := 0, locals := 21 }) (va_Pc [.ref m0, .int x, .int y] (Pre D K [(cc_O m0 12 [m_0, m_1, m_2, .ref w0, m_4, m_5, m_6, m_7, m_8, m_9, m_10, m_11, m_12, m_13, m_14, m_15, m_16, m_17, m_18, m_19, m_20, m_21, m_22, m_23, m_24, m_25, m_26, m_27, m_28, m_29, m_30, m_31, m_32, m_33, m_34, m_35, m_36, m_37, m_38, m_39, m_40, m_41, m_42, m_43, m_44, m_45, m_46, m_47, m_48, m_49, m_50, m_51, m_52, m_53, m_54, m_55, m_56, m_57, m_58, m_59]), (cc_l w0 (K 0) 5500 fw)] sz)) (vp_Si (fun r : Int32 => (PtW y r.toInt (fw 0).toInt) ∧ r = E_v_pointsTo x y fw)) 0 0 (fun _ => False) := by
  refine Met.ofW (cc := cX12_pointsTo) (maxL := 6) (ret := (some .int)) (by decide +kernel) rfl ?_
  intro p e s m args below meth c s₁ B hml hv
  obtain ⟨rfl, hsz, hP, hK, hD0, hN⟩ := hv
  have hx := B.exec
  have hb := B.bytes
  have hr := B.returns
  have hts := atoms_spec (ws := wsX12_pointsTo) B.pre
  have hown : s.vm.findClass RX12 = some m.cls := findClass_of_methodNamed B.named
  have hlocks := B.notSynchronized
  subst hsz
  have hD := hD0
  replace hP : va_P D vwCl [(cc_O m0 12 [m_0, m_1, m_2, .ref w0, m_4, m_5, m_6, m_7, m_8, m_9, m_10, m_11, m_12, m_13, m_14, m_15, m_16, m_17, m_18, m_19, m_20, m_21, m_22, m_23, m_24, m_25, m_26, m_27, m_28, m_29, m_30, m_31, m_32, m_33, m_34, m_35, m_36, m_37, m_38, m_39, m_40, m_41, m_42, m_43, m_44, m_45, m_46, m_47, m_48, m_49, m_50, m_51, m_52, m_53, m_54, m_55, m_56, m_57, m_58, m_59]), (cc_l w0 (K 0) 5500 fw)] s.heap := hP
  have hl := lv_entry [.ref m0, .int x, .int y] (n := 6) (Nat.le_of_ble_eq_true rfl)
  rw [lg_entry_eq]
  generalize (lg_sl [.ref m0, .int x, .int y] ++ List.replicate (6 - (lg_sl [.ref m0, .int x, .int y]).length) Slot.unset).toArray = ls at hl ⊢
  have hl : lv_has ls 6 [(0, .ref m0), (1, .int x), (2, .int y)] := hl
  have hw12 : ∀ w ∈ wsX120, w ∈ wsX12_pointsTo := fun w h => (List.mem_cons_of_mem _ (List.mem_append_right _ h))
  generalize hQ : MQ below _ _ s _ _ _ = Q
  have hE := E_v_pointsTo.eq_def x y fw
  obtain ⟨n0, hn0⟩ : ∃ z : Int32, z = fw 0 := ⟨_, rfl⟩
  have zn0 := PR.r_0 (zfw.1 0 (by decide +kernel)) (by decide +kernel)
  rw [← hn0] at zn0
  refine lv_iconst (v := (-1)) hx hb dX12_pointsTo_0 (by decide +kernel) (lv_istore_n (lv' := [(3, .int (-1)), (0, .ref m0), (1, .int x), (2, .int y)]) hx hb dX12_pointsTo_1 rfl hl (by decide +kernel) rfl (fun ls hl => ?_))
  refine lv_iconst (v := 0) hx hb dX12_pointsTo_2 (by decide +kernel) (lv_istore (lv' := [(4, .int 0), (3, .int (-1)), (0, .ref m0), (1, .int x), (2, .int y)]) hx hb dX12_pointsTo_3 hl (by decide +kernel) rfl (fun ls hl => ?_))
  have lp_626 : ∀ (nn_ : Nat) (v_554 : Int32) (v_555 : Int32) (hv_554 : 0 ≤ v_554.toInt ∧ v_554.toInt ≤ 8) (hv_555 : (-1) ≤ v_555.toInt ∧ v_555.toInt ≤ 7) (hr0_lp_626 : PtW y v_555.toInt v_554.toInt) (hr1_lp_626 : v_554.toInt ≤ n0.toInt) (hn : (9 - v_554.toInt : Int).toNat < nn_) (hE : E_v_pointsTo x y fw = Lp (α := Int32 → Int32 → (Int32)) (E_v_pointsTo_l5 x y fw) (fun _ _ => ((0) : Int32)) nn_ v_554 v_555) (ls : Array Slot) (hl : lv_has ls 6 [(4, .int v_554), (3, .int v_555), (0, .ref m0), (1, .int x), (2, .int y)]), W p l e ({ frames := 1, cells := 0, slots := 0, locals := 21 }) s m (([.ref m0, .int x, .int y] : List Value).toArray) below meth c s.heap [] 0 0 Q (F0 m 5 ls []) := by
    clear hE hl
    intro nn_
    induction nn_ with
    | zero =>
      intro v_554 v_555 hv_554 hv_555 hr0_lp_626 hr1_lp_626 hn hE ls hl
      exact absurd hn (Nat.not_lt_zero _)
    | succ nn_ ih_627 =>
      intro v_554 v_555 hv_554 hv_555 hr0_lp_626 hr1_lp_626 hn hE ls hl
      replace hE : E_v_pointsTo x y fw = E_v_pointsTo_l5 x y fw (Lp (α := Int32 → Int32 → (Int32)) (E_v_pointsTo_l5 x y fw) (fun _ _ => ((0) : Int32)) nn_) v_554 v_555 := hE
      obtain ⟨rec_626, hrec_626⟩ : ∃ z9, z9 = Lp (α := Int32 → Int32 → (Int32)) (E_v_pointsTo_l5 x y fw) (fun _ _ => ((0) : Int32)) nn_ := ⟨_, rfl⟩
      rw [← hrec_626] at hE
      replace hE := hE.trans (E_v_pointsTo_l5.eq_def _ _ _ _ _ _)
      refine lv_iload hx hb dX12_pointsTo_5 (lv_at hl 0 rfl) (lv_aload_n hx hb dX12_pointsTo_7 rfl (lv_at hl 2 rfl) (va_get (ci := 12) (v := .ref w0) (C := RX12) (T := TX12) (N := 60) hx hb hts hw12 hown hK hP 0 rfl rfl 3 (by decide +kernel) (hts _ mm_X12_pointsTo_833) (fun _ h9 => h9) rfl dX12_pointsTo_8 (lv_iconst (v := 0) hx hb dX12_pointsTo_11 (by decide +kernel) (va_iald hx hb hK hP 1 0 rfl rfl (i_in (x := 0) rfl (by omega)) dX12_pointsTo_12 (lv_topi (fun x_628 ex_628 => ?_))))))
      replace hE := hE.trans (Lt_in ex_628)
      have erx_628 : x_628 = n0 := ex_628.trans hn0.symm
      have hrx_628 : x_628.toInt = n0.toInt := (congrArg Int32.toInt erx_628).trans rfl
      refine lv_icmp_ge (tgt := 120) hx hb dX12_pointsTo_13 (by decide +kernel) (fun c_629 => ?_) (fun c_629 => ?_)
      · have c_629i := i_le (x := n0.toInt) (y := v_554.toInt) hrx_628 rfl c_629
        replace hE := hE.trans (if_pos c_629)
        refine lv_iload_n hx hb dX12_pointsTo_120 rfl (lv_at hl 1 rfl) ?_
        rw [← hQ]
        exact W.iret (v := v_555) hx hb hr (fun t ht hW => ⟨_, rfl, ⟨(show PtW y (v_555 : Int32).toInt (fw 0).toInt from by have q := hr0_lp_626; rw [show v_554.toInt = n0.toInt by omega, hn0] at q; exact q), hE.symm⟩, ht⟩) (fun q hq => by cases hq) dX12_pointsTo_121
      · have c_629i := i_nle (x := n0.toInt) (y := v_554.toInt) hrx_628 rfl c_629
        replace hE := hE.trans (if_neg c_629)
        have hpw := PtW.rng hr0_lp_626
        refine lv_iload_n hx hb dX12_pointsTo_16 rfl (lv_at hl 4 rfl) (lv_iload hx hb dX12_pointsTo_17 (lv_at hl 0 rfl) (pci (va_runS (As := [.int y, .int v_554]) (rest := []) ⟨hx, hb, hml, hown, hts⟩ (v_isB l D K y v_554 s.heap.size (by first | omega | decide)) (va_cwS 2 hts gX12_pointsTo_X12_is rfl rfl rfl (by decide +kernel) ⟨Nat.le_of_ble_eq_true rfl, Nat.le_of_ble_eq_true rfl⟩) (mkS hK hN (va_P.nil) (va_D.nil (A := fun _ => True))) rfl rfl hl.1 rfl (lv_room (Nat.le_of_ble_eq_true rfl)) dX12_pointsTo_19 ⟨Nat.le_of_ble_eq_true rfl, Nat.le_of_ble_eq_true rfl⟩) (fun r_630 hw => ?_)))
        obtain ⟨⟨hw, -⟩, k_631⟩ := hw
        replace hE := hE.trans (Lt_in k_631)
        rcases hw with ⟨rfl, h_632⟩ | ⟨rfl, h_633⟩
        · replace hE := (hE).trans (if_pos rfl)
          refine lv_if_eq (tgt := 114) hx hb dX12_pointsTo_22 (by decide +kernel) (fun c_634 => absurd c_634 (by decide +kernel)) (fun c_634 => ?_)
          refine lv_bipush (v := 8) hx hb dX12_pointsTo_25 (by decide +kernel) (lv_aload_n hx hb dX12_pointsTo_27 rfl (lv_at hl 2 rfl) (va_get (ci := 12) (v := .ref w0) (C := RX12) (T := TX12) (N := 60) hx hb hts hw12 hown hK hP 0 rfl rfl 3 (by decide +kernel) (hts _ mm_X12_pointsTo_833) (fun _ h9 => h9) rfl dX12_pointsTo_28 (lv_bipush (v := 51) hx hb dX12_pointsTo_31 (by decide +kernel) (lv_iload hx hb dX12_pointsTo_33 (lv_at hl 0 rfl) (lv_iadd hx hb dX12_pointsTo_35 (lv_topi (fun x_635 ex_635 => ?_)))))))
          replace hE := hE.trans (Lt_in ex_635)
          have hx_635 : x_635.toInt = (51 + v_554.toInt) := by rw [ex_635]; exact i_add (show (51 : Int32).toInt = 51 from rfl) rfl (by omega)
          refine va_iald hx hb hK hP 1 0 rfl rfl (i_in hx_635 (by omega)) dX12_pointsTo_36 (lv_topi (fun x_636 ex_636 => ?_))
          replace hE := hE.trans (Lt_in ex_636)
          have px_636 := RwOK.at zfw hx_635 (show 0 ≤ (51 + v_554.toInt) ∧ (51 + v_554.toInt) < 100 by omega)
          rw [← ex_636] at px_636
          refine lv_aload_n hx hb dX12_pointsTo_37 rfl (lv_at hl 2 rfl) (va_get (ci := 12) (v := .ref w0) (C := RX12) (T := TX12) (N := 60) hx hb hts hw12 hown hK hP 0 rfl rfl 3 (by decide +kernel) (hts _ mm_X12_pointsTo_833) (fun _ h9 => h9) rfl dX12_pointsTo_38 (lv_bipush (v := 59) hx hb dX12_pointsTo_41 (by decide +kernel) (lv_iload_n hx hb dX12_pointsTo_43 rfl (lv_at hl 3 rfl) (lv_iadd hx hb dX12_pointsTo_44 (lv_topi (fun x_637 ex_637 => ?_))))))
          replace hE := hE.trans (Lt_in ex_637)
          have hx_637 : x_637.toInt = (59 + x.toInt) := by rw [ex_637]; exact i_add (show (59 : Int32).toInt = 59 from rfl) rfl (by omega)
          refine va_iald hx hb hK hP 1 0 rfl rfl (i_in hx_637 (by omega)) dX12_pointsTo_45 (lv_topi (fun x_638 ex_638 => ?_))
          replace hE := hE.trans (Lt_in ex_638)
          have px_638 := RwOK.at zfw hx_637 (show 0 ≤ (59 + x.toInt) ∧ (59 + x.toInt) < 100 by omega)
          rw [← ex_638] at px_638
          refine pci (va_runS (As := [.int x_636, .int x_638]) (rest := [.int 8]) ⟨hx, hb, hml, hown, hts⟩ (v_apartA l D K x_636 x_638 s.heap.size) (va_cwS 2 hts gX12_pointsTo_X12_apart rfl rfl rfl (by decide +kernel) ⟨Nat.le_of_ble_eq_true rfl, Nat.le_of_ble_eq_true rfl⟩) (mkS hK hN (va_P.nil) (va_D.nil (A := fun _ => True))) rfl rfl hl.1 rfl (lv_room (Nat.le_of_ble_eq_true rfl)) dX12_pointsTo_46 ⟨Nat.le_of_ble_eq_true rfl, Nat.le_of_ble_eq_true rfl⟩) (fun r_639 hw => ?_)
          obtain ⟨k_640, -⟩ := hw
          replace hE := hE.trans (Lt_in k_640)
          refine lv_imul hx hb dX12_pointsTo_49 (lv_topi (fun x_641 ex_641 => ?_))
          replace hE := hE.trans (Lt_in ex_641)
          refine lv_aload_n hx hb dX12_pointsTo_50 rfl (lv_at hl 2 rfl) (va_get (ci := 12) (v := .ref w0) (C := RX12) (T := TX12) (N := 60) hx hb hts hw12 hown hK hP 0 rfl rfl 3 (by decide +kernel) (hts _ mm_X12_pointsTo_833) (fun _ h9 => h9) rfl dX12_pointsTo_51 (lv_bipush (v := 51) hx hb dX12_pointsTo_54 (by decide +kernel) (lv_iload hx hb dX12_pointsTo_56 (lv_at hl 0 rfl) (lv_iadd hx hb dX12_pointsTo_58 (lv_topi (fun x_642 ex_642 => ?_))))))
          replace hE := hE.trans (Lt_in ex_642)
          have hx_642 : x_642.toInt = (51 + v_554.toInt) := by rw [ex_642]; exact i_add (show (51 : Int32).toInt = 51 from rfl) rfl (by omega)
          refine va_iald hx hb hK hP 1 0 rfl rfl (i_in hx_642 (by omega)) dX12_pointsTo_59 (lv_topi (fun x_643 ex_643 => ?_))
          replace hE := hE.trans (Lt_in ex_643)
          have px_643 := RwOK.at zfw hx_642 (show 0 ≤ (51 + v_554.toInt) ∧ (51 + v_554.toInt) < 100 by omega)
          rw [← ex_643] at px_643
          refine lv_iadd hx hb dX12_pointsTo_60 (lv_topi (fun x_644 ex_644 => ?_))
          replace hE := hE.trans (Lt_in ex_644)
          refine lv_istore (lv' := [(5, .int x_644), (4, .int v_554), (3, .int v_555), (0, .ref m0), (1, .int x), (2, .int y)]) hx hb dX12_pointsTo_61 hl (by decide +kernel) rfl (fun ls hl => ?_)
          refine lv_iload_n hx hb dX12_pointsTo_63 rfl (lv_at hl 2 rfl) (lv_iconst (v := (-1)) hx hb dX12_pointsTo_64 (by decide +kernel) (lv_icmp_eq (tgt := 107) hx hb dX12_pointsTo_65 (by decide +kernel) (fun c_645 => ?_) (fun c_645 => ?_)))
          · have c_645i := i_eq (x := v_555.toInt) (y := (-1)) rfl rfl c_645
            replace hE := hE.trans (if_pos c_645)
            refine lv_iload hx hb dX12_pointsTo_107 (lv_at hl 1 rfl) (lv_goto (tgt := 113) hx hb dX12_pointsTo_109 (by decide +kernel) (lv_istore_n (lv' := [(3, .int v_554), (5, .int x_644), (4, .int v_554), (0, .ref m0), (1, .int x), (2, .int y)]) hx hb dX12_pointsTo_113 rfl hl (by decide +kernel) rfl (fun ls hl => ?_)))
            obtain ⟨x_646, ex_646⟩ : ∃ y : Int32, y = v_554 + Int32.ofInt 1 := ⟨_, rfl⟩
            replace hE := hE.trans (Lt_in ex_646)
            have hx_646 : x_646.toInt = (v_554.toInt + 1) := by rw [ex_646]; exact i_add rfl (show (Int32.ofInt 1).toInt = 1 from rfl) (by omega)
            refine lv_iinc (v := x_646) (lv' := [(4, .int x_646), (3, .int v_554), (5, .int x_644), (0, .ref m0), (1, .int x), (2, .int y)]) hx hb dX12_pointsTo_114 hl (k := 2) rfl (by rw [ex_646]) (by decide +kernel) rfl (fun ls hl => ?_)
            refine lv_goto (tgt := 5) hx hb dX12_pointsTo_117 (by decide +kernel) ?_
            exact ih_627 x_646 v_554 (by rw [hx_646]; omega) (by omega) (show PtW y (v_554 : Int32).toInt (x_646 : Int32).toInt by rw [hx_646]; exact PtW.new (by omega) (by assumption)) (show (x_646 : Int32).toInt ≤ n0.toInt by omega) (by omega) (hE.trans (by rw [hrec_626])) ls (lv_sub hl [0, 1, 3, 4, 5] rfl)
          · have c_645i := i_ne (x := v_555.toInt) (y := (-1)) rfl rfl c_645
            replace hE := hE.trans (if_neg c_645)
            refine lv_iload hx hb dX12_pointsTo_68 (lv_at hl 0 rfl) (lv_bipush (v := 8) hx hb dX12_pointsTo_70 (by decide +kernel) (lv_aload_n hx hb dX12_pointsTo_72 rfl (lv_at hl 3 rfl) (va_get (ci := 12) (v := .ref w0) (C := RX12) (T := TX12) (N := 60) hx hb hts hw12 hown hK hP 0 rfl rfl 3 (by decide +kernel) (hts _ mm_X12_pointsTo_833) (fun _ h9 => h9) rfl dX12_pointsTo_73 (lv_bipush (v := 51) hx hb dX12_pointsTo_76 (by decide +kernel) (lv_iload_n hx hb dX12_pointsTo_78 rfl (lv_at hl 2 rfl) (lv_iadd hx hb dX12_pointsTo_79 (lv_topi (fun x_647 ex_647 => ?_))))))))
            replace hE := hE.trans (Lt_in ex_647)
            have hx_647 : x_647.toInt = (51 + v_555.toInt) := by rw [ex_647]; exact i_add (show (51 : Int32).toInt = 51 from rfl) rfl (by omega)
            refine va_iald hx hb hK hP 1 0 rfl rfl (i_in hx_647 (by omega)) dX12_pointsTo_80 (lv_topi (fun x_648 ex_648 => ?_))
            replace hE := hE.trans (Lt_in ex_648)
            have px_648 := RwOK.at zfw hx_647 (show 0 ≤ (51 + v_555.toInt) ∧ (51 + v_555.toInt) < 100 by omega)
            rw [← ex_648] at px_648
            refine lv_aload_n hx hb dX12_pointsTo_81 rfl (lv_at hl 3 rfl) (va_get (ci := 12) (v := .ref w0) (C := RX12) (T := TX12) (N := 60) hx hb hts hw12 hown hK hP 0 rfl rfl 3 (by decide +kernel) (hts _ mm_X12_pointsTo_833) (fun _ h9 => h9) rfl dX12_pointsTo_82 (lv_bipush (v := 59) hx hb dX12_pointsTo_85 (by decide +kernel) (lv_iload_n hx hb dX12_pointsTo_87 rfl (lv_at hl 4 rfl) (lv_iadd hx hb dX12_pointsTo_88 (lv_topi (fun x_649 ex_649 => ?_))))))
            replace hE := hE.trans (Lt_in ex_649)
            have hx_649 : x_649.toInt = (59 + x.toInt) := by rw [ex_649]; exact i_add (show (59 : Int32).toInt = 59 from rfl) rfl (by omega)
            refine va_iald hx hb hK hP 1 0 rfl rfl (i_in hx_649 (by omega)) dX12_pointsTo_89 (lv_topi (fun x_650 ex_650 => ?_))
            replace hE := hE.trans (Lt_in ex_650)
            have px_650 := RwOK.at zfw hx_649 (show 0 ≤ (59 + x.toInt) ∧ (59 + x.toInt) < 100 by omega)
            rw [← ex_650] at px_650
            refine pci (va_runS (As := [.int x_648, .int x_650]) (rest := [.int 8, .int x_644]) ⟨hx, hb, hml, hown, hts⟩ (v_apartA l D K x_648 x_650 s.heap.size) (va_cwS 2 hts gX12_pointsTo_X12_apart rfl rfl rfl (by decide +kernel) ⟨Nat.le_of_ble_eq_true rfl, Nat.le_of_ble_eq_true rfl⟩) (mkS hK hN (va_P.nil) (va_D.nil (A := fun _ => True))) rfl rfl hl.1 rfl (lv_room (Nat.le_of_ble_eq_true rfl)) dX12_pointsTo_90 ⟨Nat.le_of_ble_eq_true rfl, Nat.le_of_ble_eq_true rfl⟩) (fun r_651 hw => ?_)
            obtain ⟨k_652, -⟩ := hw
            replace hE := hE.trans (Lt_in k_652)
            refine lv_imul hx hb dX12_pointsTo_93 (lv_topi (fun x_653 ex_653 => ?_))
            replace hE := hE.trans (Lt_in ex_653)
            refine lv_aload_n hx hb dX12_pointsTo_94 rfl (lv_at hl 3 rfl) (va_get (ci := 12) (v := .ref w0) (C := RX12) (T := TX12) (N := 60) hx hb hts hw12 hown hK hP 0 rfl rfl 3 (by decide +kernel) (hts _ mm_X12_pointsTo_833) (fun _ h9 => h9) rfl dX12_pointsTo_95 (lv_bipush (v := 51) hx hb dX12_pointsTo_98 (by decide +kernel) (lv_iload_n hx hb dX12_pointsTo_100 rfl (lv_at hl 2 rfl) (lv_iadd hx hb dX12_pointsTo_101 (lv_topi (fun x_654 ex_654 => ?_))))))
            replace hE := hE.trans (Lt_in ex_654)
            have hx_654 : x_654.toInt = (51 + v_555.toInt) := by rw [ex_654]; exact i_add (show (51 : Int32).toInt = 51 from rfl) rfl (by omega)
            refine va_iald hx hb hK hP 1 0 rfl rfl (i_in hx_654 (by omega)) dX12_pointsTo_102 (lv_topi (fun x_655 ex_655 => ?_))
            replace hE := hE.trans (Lt_in ex_655)
            have px_655 := RwOK.at zfw hx_654 (show 0 ≤ (51 + v_555.toInt) ∧ (51 + v_555.toInt) < 100 by omega)
            rw [← ex_655] at px_655
            refine lv_iadd hx hb dX12_pointsTo_103 (lv_topi (fun x_656 ex_656 => ?_))
            replace hE := hE.trans (Lt_in ex_656)
            refine lv_icmp_ge (tgt := 112) hx hb dX12_pointsTo_104 (by decide +kernel) (fun c_657 => ?_) (fun c_657 => ?_)
            · have c_657i := i_le (x := x_656.toInt) (y := x_644.toInt) rfl rfl c_657
              replace hE := hE.trans (if_pos c_657)
              refine lv_iload_n hx hb dX12_pointsTo_112 rfl (lv_at hl 2 rfl) (lv_istore_n (lv' := [(3, .int v_555), (5, .int x_644), (4, .int v_554), (0, .ref m0), (1, .int x), (2, .int y)]) hx hb dX12_pointsTo_113 rfl hl (by decide +kernel) rfl (fun ls hl => ?_))
              obtain ⟨x_658, ex_658⟩ : ∃ y : Int32, y = v_554 + Int32.ofInt 1 := ⟨_, rfl⟩
              replace hE := hE.trans (Lt_in ex_658)
              have hx_658 : x_658.toInt = (v_554.toInt + 1) := by rw [ex_658]; exact i_add rfl (show (Int32.ofInt 1).toInt = 1 from rfl) (by omega)
              refine lv_iinc (v := x_658) (lv' := [(4, .int x_658), (3, .int v_555), (5, .int x_644), (0, .ref m0), (1, .int x), (2, .int y)]) hx hb dX12_pointsTo_114 hl (k := 2) rfl (by rw [ex_658]) (by decide +kernel) rfl (fun ls hl => ?_)
              refine lv_goto (tgt := 5) hx hb dX12_pointsTo_117 (by decide +kernel) ?_
              exact ih_627 x_658 v_555 (by rw [hx_658]; omega) (by omega) (show PtW y (v_555 : Int32).toInt (x_658 : Int32).toInt by rw [hx_658]; exact PtW.old hr0_lp_626 (by omega)) (show (x_658 : Int32).toInt ≤ n0.toInt by omega) (by omega) (hE.trans (by rw [hrec_626])) ls (lv_sub hl [0, 1, 3, 4, 5] rfl)
            · have c_657i := i_nle (x := x_656.toInt) (y := x_644.toInt) rfl rfl c_657
              replace hE := hE.trans (if_neg c_657)
              refine lv_iload hx hb dX12_pointsTo_107 (lv_at hl 1 rfl) (lv_goto (tgt := 113) hx hb dX12_pointsTo_109 (by decide +kernel) (lv_istore_n (lv' := [(3, .int v_554), (5, .int x_644), (4, .int v_554), (0, .ref m0), (1, .int x), (2, .int y)]) hx hb dX12_pointsTo_113 rfl hl (by decide +kernel) rfl (fun ls hl => ?_)))
              obtain ⟨x_659, ex_659⟩ : ∃ y : Int32, y = v_554 + Int32.ofInt 1 := ⟨_, rfl⟩
              replace hE := hE.trans (Lt_in ex_659)
              have hx_659 : x_659.toInt = (v_554.toInt + 1) := by rw [ex_659]; exact i_add rfl (show (Int32.ofInt 1).toInt = 1 from rfl) (by omega)
              refine lv_iinc (v := x_659) (lv' := [(4, .int x_659), (3, .int v_554), (5, .int x_644), (0, .ref m0), (1, .int x), (2, .int y)]) hx hb dX12_pointsTo_114 hl (k := 2) rfl (by rw [ex_659]) (by decide +kernel) rfl (fun ls hl => ?_)
              refine lv_goto (tgt := 5) hx hb dX12_pointsTo_117 (by decide +kernel) ?_
              exact ih_627 x_659 v_554 (by rw [hx_659]; omega) (by omega) (show PtW y (v_554 : Int32).toInt (x_659 : Int32).toInt by rw [hx_659]; exact PtW.new (by omega) (by assumption)) (show (x_659 : Int32).toInt ≤ n0.toInt by omega) (by omega) (hE.trans (by rw [hrec_626])) ls (lv_sub hl [0, 1, 3, 4, 5] rfl)
        · replace hE := (hE).trans (if_neg (by first | decide | (intro h9; have h8 := congrArg Int32.toInt h9; omega)))
          refine lv_if_eq (tgt := 114) hx hb dX12_pointsTo_22 (by decide +kernel) (fun c_660 => ?_) (fun c_660 => absurd (by decide +kernel) c_660)
          obtain ⟨x_661, ex_661⟩ : ∃ y : Int32, y = v_554 + Int32.ofInt 1 := ⟨_, rfl⟩
          replace hE := hE.trans (Lt_in ex_661)
          have hx_661 : x_661.toInt = (v_554.toInt + 1) := by rw [ex_661]; exact i_add rfl (show (Int32.ofInt 1).toInt = 1 from rfl) (by omega)
          refine lv_iinc (v := x_661) (lv' := [(4, .int x_661), (3, .int v_555), (0, .ref m0), (1, .int x), (2, .int y)]) hx hb dX12_pointsTo_114 hl (k := 0) rfl (by rw [ex_661]) (by decide +kernel) rfl (fun ls hl => ?_)
          refine lv_goto (tgt := 5) hx hb dX12_pointsTo_117 (by decide +kernel) ?_
          exact ih_627 x_661 v_555 (by rw [hx_661]; omega) (by omega) (show PtW y (v_555 : Int32).toInt (x_661 : Int32).toInt by rw [hx_661]; exact PtW.no hr0_lp_626 (by omega) (by assumption)) (show (x_661 : Int32).toInt ≤ n0.toInt by omega) (by omega) (hE.trans (by rw [hrec_626])) ls (lv_sub hl [0, 1, 2, 3, 4] rfl)
  have hz_662 : (0 : Int32).toInt = 0 := rfl
  have hz_663 : ((-1) : Int32).toInt = (-1) := rfl
  exact lp_626 ((9 - (0 : Int32).toInt : Int).toNat + 1) 0 (-1) (by decide +kernel) (by decide +kernel) (show PtW y ((-1) : Int32).toInt (0 : Int32).toInt by exact PtW.base) (show (0 : Int32).toInt ≤ n0.toInt by omega) (Nat.lt_succ_self _) hE ls (lv_sub hl [0, 1, 2, 3, 4] rfl)
set_option maxRecDepth 100000 in
noncomputable def E_v_findRings_l90 (fw : Nat → Int32) (f_6855 : Nat → Int32) (v_7077 : Int32) (v_7078 : Int32) (f_7079 : Nat → Int32) (rec_7207 : Int32 → Int32 → (Nat → Int32) → ((Nat → Int32) × (Nat → Int32))) (rec_7246 : Int32 → Int32 → ((Nat → Int32) × (Nat → Int32))) (v_7234 : Int32) (v_7235 : Int32) : (Nat → Int32) × (Nat → Int32) :=
  if 8 ≤ v_7234 then (if v_7235 = v_7077 then (Lt (f_6855 (v_7077 : Int32).toNatClampNeg : Int32) (fun x_7251 => Lt (51 + x_7251 : Int32) (fun x_7252 => Lt (fw (x_7252 : Int32).toNatClampNeg : Int32) (fun x_7253 => Lt (upd f_7079 (v_7077 : Int32).toNatClampNeg x_7253 : Nat → Int32) (fun f_7254 => Lt (1 <<< (v_7077 &&& 31) : Int32) (fun x_7255 => Lt (v_7078 ||| x_7255 : Int32) (fun x_7256 => Lt (v_7077 + Int32.ofInt 1 : Int32) (fun x_7257 => rec_7207 x_7257 x_7256 f_7254)))))))) else (Lt (v_7077 + Int32.ofInt 1 : Int32) (fun x_7250 => rec_7207 x_7250 v_7078 f_7079))) else (if v_7235 = v_7077 then (if v_7235 = v_7077 then (Lt (f_6855 (v_7077 : Int32).toNatClampNeg : Int32) (fun x_7261 => Lt (51 + x_7261 : Int32) (fun x_7262 => Lt (fw (x_7262 : Int32).toNatClampNeg : Int32) (fun x_7263 => Lt (upd f_7079 (v_7077 : Int32).toNatClampNeg x_7263 : Nat → Int32) (fun f_7264 => Lt (1 <<< (v_7077 &&& 31) : Int32) (fun x_7265 => Lt (v_7078 ||| x_7265 : Int32) (fun x_7266 => Lt (v_7077 + Int32.ofInt 1 : Int32) (fun x_7267 => rec_7207 x_7267 x_7266 f_7264)))))))) else (Lt (v_7077 + Int32.ofInt 1 : Int32) (fun x_7260 => rec_7207 x_7260 v_7078 f_7079))) else (Lt (f_6855 (v_7235 : Int32).toNatClampNeg : Int32) (fun x_7268 => Lt (v_7234 + Int32.ofInt 1 : Int32) (fun x_7269 => rec_7246 x_7269 x_7268))))
set_option maxRecDepth 100000 in
noncomputable def E_v_findRings_l61 (fw : Nat → Int32) (v_5843 : Int32) (rec_6807 : Int32 → (Nat → Int32) → (Nat → Int32) → ((Nat → Int32) × (Nat → Int32))) (f_6855 : Nat → Int32) (rec_7207 : Int32 → Int32 → (Nat → Int32) → ((Nat → Int32) × (Nat → Int32))) (v_7077 : Int32) (v_7078 : Int32) (f_7079 : Nat → Int32) : (Nat → Int32) × (Nat → Int32) :=
  Lt (fw (0 : Int32).toNatClampNeg : Int32) (fun x_7209 => if x_7209 ≤ v_7077 then (Lt (v_7078 ^^^ (-1) : Int32) (fun x_7211 => Lt (v_5843 &&& x_7211 : Int32) (fun x_7212 => rec_6807 x_7212 f_6855 f_7079))) else (Lt (E_v_isB v_5843 v_7077) (fun r_7213 => if r_7213 = 1 then (Lt (f_6855 (v_7077 : Int32).toNatClampNeg : Int32) (fun x_7218 => Lp (α := Int32 → Int32 → ((Nat → Int32) × (Nat → Int32))) (E_v_findRings_l90 fw f_6855 v_7077 v_7078 f_7079 rec_7207) (fun _ _ => ((fun _ => 0, fun _ => 0) : (Nat → Int32) × (Nat → Int32))) ((9 - (0 : Int32).toInt : Int).toNat + 1) 0 x_7218)) else (Lt (v_7077 + Int32.ofInt 1 : Int32) (fun x_7272 => rec_7207 x_7272 v_7078 f_7079)))))
set_option maxRecDepth 100000 in
noncomputable def E_v_findRings_l17 (fw : Nat → Int32) (v_5843 : Int32) (f_5845 : Nat → Int32) (rec_6807 : Int32 → (Nat → Int32) → (Nat → Int32) → ((Nat → Int32) × (Nat → Int32))) (rec_6886 : Int32 → (Nat → Int32) → ((Nat → Int32) × (Nat → Int32))) (v_6854 : Int32) (f_6855 : Nat → Int32) : (Nat → Int32) × (Nat → Int32) :=
  Lt (fw (0 : Int32).toNatClampNeg : Int32) (fun x_6888 => if x_6888 ≤ v_6854 then (Lp (α := Int32 → Int32 → (Nat → Int32) → ((Nat → Int32) × (Nat → Int32))) (E_v_findRings_l61 fw v_5843 rec_6807 f_6855) (fun _ _ _ => ((fun _ => 0, fun _ => 0) : (Nat → Int32) × (Nat → Int32))) ((9 - (0 : Int32).toInt : Int).toNat + 1) 0 0 f_5845) else (Lt (E_v_isB v_5843 v_6854) (fun r_7275 => if r_7275 = 1 then (Lt (E_v_pointsTo v_6854 v_5843 fw) (fun r_7280 => Lt (upd f_6855 (v_6854 : Int32).toNatClampNeg r_7280 : Nat → Int32) (fun f_7282 => Lt (v_6854 + Int32.ofInt 1 : Int32) (fun x_7283 => rec_6886 x_7283 f_7282)))) else (Lt (upd f_6855 (v_6854 : Int32).toNatClampNeg (-1) : Nat → Int32) (fun f_7285 => Lt (v_6854 + Int32.ofInt 1 : Int32) (fun x_7286 => rec_6886 x_7286 f_7285))))))
set_option maxRecDepth 100000 in
noncomputable def E_v_findRings_l11 (fw : Nat → Int32) (rec_6807 : Int32 → (Nat → Int32) → (Nat → Int32) → ((Nat → Int32) × (Nat → Int32))) (v_5843 : Int32) (f_5844 : Nat → Int32) (f_5845 : Nat → Int32) : (Nat → Int32) × (Nat → Int32) :=
  if v_5843 = 0 then (((f_5844, f_5845) : (Nat → Int32) × (Nat → Int32))) else (Lp (α := Int32 → (Nat → Int32) → ((Nat → Int32) × (Nat → Int32))) (E_v_findRings_l17 fw v_5843 f_5845 rec_6807) (fun _ _ => ((fun _ => 0, fun _ => 0) : (Nat → Int32) × (Nat → Int32))) ((9 - (0 : Int32).toInt : Int).toNat + 1) 0 f_5844)
set_option maxRecDepth 100000 in
noncomputable def E_v_findRings (fw : Nat → Int32) (fo : Nat → Int32) (fg : Nat → Int32) : (Nat → Int32) × (Nat → Int32) :=
  Lt (fw (0 : Int32).toNatClampNeg : Int32) (fun x_4879 => Lt (1 <<< (x_4879 &&& 31) : Int32) (fun x_4880 => Lt (x_4880 - 1 : Int32) (fun x_4881 => Lp (α := Int32 → (Nat → Int32) → (Nat → Int32) → ((Nat → Int32) × (Nat → Int32))) (E_v_findRings_l11 fw) (fun _ _ _ => ((fun _ => 0, fun _ => 0) : (Nat → Int32) × (Nat → Int32))) (((x_4881 : Int32).toInt : Int).toNat + 1) x_4881 fo fg)))
set_option maxHeartbeats 4000000 in
set_option maxRecDepth 100000 in
theorem v_findRings (l : Launch) (D : va_G) (K : Nat → ClassId) (m0 : Nat) (m_0 : Value) (m_1 : Value) (m_2 : Value) (w0 : Nat) (m_4 : Value) (m_5 : Value) (m_6 : Value) (m_7 : Value) (m_8 : Value) (m_9 : Value) (m_10 : Value) (m_11 : Value) (m_12 : Value) (m_13 : Value) (m_14 : Value) (m_15 : Value) (m_16 : Value) (m_17 : Value) (m_18 : Value) (m_19 : Value) (m_20 : Value) (m_21 : Value) (m_22 : Value) (m_23 : Value) (m_24 : Value) (m_25 : Value) (m_26 : Value) (m_27 : Value) (m_28 : Value) (m_29 : Value) (m_30 : Value) (m_31 : Value) (m_32 : Value) (m_33 : Value) (m_34 : Value) (m_35 : Value) (m_36 : Value) (m_37 : Value) (m_38 : Value) (m_39 : Value) (m_40 : Value) (m_41 : Value) (m_42 : Value) (m_43 : Value) (m_44 : Value) (go : Nat) (po : Nat) (m_47 : Value) (m_48 : Value) (m_49 : Value) (m_50 : Value) (m_51 : Value) (m_52 : Value) (m_53 : Value) (m_54 : Value) (m_55 : Value) (m_56 : Value) (m_57 : Value) (m_58 : Value) (m_59 : Value) (fw : Nat → Int32) (gr : Nat → Int32) (fo : Nat → Int32) (fg : Nat → Int32) (sz : Nat) (zfw : RwOK fw) (zgr : FzM gr fw) : Met l yX12_findRings wsX12_findRings ({ frames := 2, cells := 0, slots := 0, locals := 46 }) (va_Pc [.ref m0] (Pre D K [(cc_O m0 12 [m_0, m_1, m_2, .ref w0, m_4, m_5, m_6, m_7, m_8, m_9, m_10, m_11, m_12, m_13, m_14, m_15, m_16, m_17, m_18, m_19, m_20, m_21, m_22, m_23, m_24, m_25, m_26, m_27, m_28, m_29, m_30, m_31, m_32, m_33, m_34, m_35, m_36, m_37, m_38, m_39, m_40, m_41, m_42, m_43, m_44, .ref go, .ref po, m_47, m_48, m_49, m_50, m_51, m_52, m_53, m_54, m_55, m_56, m_57, m_58, m_59]), (cc_l w0 (K 0) 5500 fw), (cc_l po (K 0) 8 fo), (cc_l go (K 0) 8 fg)] sz)) (va_Qv (S := Su) (fun (u : Su) => (((u.2.1 0), (u.2.1 1)) = E_v_findRings fw fo fg) ∧ True) (fun u t => Wd D (va_A [(cc_O m0 12 [m_0, m_1, m_2, .ref w0, m_4, m_5, m_6, m_7, m_8, m_9, m_10, m_11, m_12, m_13, m_14, m_15, m_16, m_17, m_18, m_19, m_20, m_21, m_22, m_23, m_24, m_25, m_26, m_27, m_28, m_29, m_30, m_31, m_32, m_33, m_34, m_35, m_36, m_37, m_38, m_39, m_40, m_41, m_42, m_43, m_44, .ref go, .ref po, m_47, m_48, m_49, m_50, m_51, m_52, m_53, m_54, m_55, m_56, m_57, m_58, m_59]), (cc_l w0 (K 0) 5500 fw), (cc_l po (K 0) 8 fo), (cc_l go (K 0) 8 fg)] sz) ((fun u => [(cc_O m0 12 [m_0, m_1, m_2, .ref w0, m_4, m_5, m_6, m_7, m_8, m_9, m_10, m_11, m_12, m_13, m_14, m_15, m_16, m_17, m_18, m_19, m_20, m_21, m_22, m_23, m_24, m_25, m_26, m_27, m_28, m_29, m_30, m_31, m_32, m_33, m_34, m_35, m_36, m_37, m_38, m_39, m_40, m_41, m_42, m_43, m_44, .ref go, .ref po, m_47, m_48, m_49, m_50, m_51, m_52, m_53, m_54, m_55, m_56, m_57, m_58, m_59]), (cc_l w0 (K 0) 5500 fw), (cc_l po (K 0) 8 (u.2.1 0)), (cc_l go (K 0) 8 (u.2.1 1))]) u) t) (va_A [(cc_O m0 12 [m_0, m_1, m_2, .ref w0, m_4, m_5, m_6, m_7, m_8, m_9, m_10, m_11, m_12, m_13, m_14, m_15, m_16, m_17, m_18, m_19, m_20, m_21, m_22, m_23, m_24, m_25, m_26, m_27, m_28, m_29, m_30, m_31, m_32, m_33, m_34, m_35, m_36, m_37, m_38, m_39, m_40, m_41, m_42, m_43, m_44, .ref go, .ref po, m_47, m_48, m_49, m_50, m_51, m_52, m_53, m_54, m_55, m_56, m_57, m_58, m_59]), (cc_l w0 (K 0) 5500 fw), (cc_l po (K 0) 8 fo), (cc_l go (K 0) 8 fg)] sz)) 0 0 (va_A [(cc_O m0 12 [m_0, m_1, m_2, .ref w0, m_4, m_5, m_6, m_7, m_8, m_9, m_10, m_11, m_12, m_13, m_14, m_15, m_16, m_17, m_18, m_19, m_20, m_21, m_22, m_23, m_24, m_25, m_26, m_27, m_28, m_29, m_30, m_31, m_32, m_33, m_34, m_35, m_36, m_37, m_38, m_39, m_40, m_41, m_42, m_43, m_44, .ref go, .ref po, m_47, m_48, m_49, m_50, m_51, m_52, m_53, m_54, m_55, m_56, m_57, m_58, m_59]), (cc_l w0 (K 0) 5500 fw), (cc_l po (K 0) 8 fo), (cc_l go (K 0) 8 fg)] sz) := by
  refine Met.ofW (cc := cX12_findRings) (maxL := 6) (ret := none) (by decide +kernel) rfl ?_
  intro p e s m args below meth c s₁ B hml hv
  obtain ⟨rfl, hsz, hP, hK, hD0, hN⟩ := hv
  have hx := B.exec
  have hb := B.bytes
  have hr := B.returns
  have hts := atoms_spec (ws := wsX12_findRings) B.pre
  have hown : s.vm.findClass RX12 = some m.cls := findClass_of_methodNamed B.named
  have hlocks := B.notSynchronized
  subst hsz
  have hD := hD0.self (sz := s.heap.size)
  generalize hAe : va_A [(cc_O m0 12 [m_0, m_1, m_2, .ref w0, m_4, m_5, m_6, m_7, m_8, m_9, m_10, m_11, m_12, m_13, m_14, m_15, m_16, m_17, m_18, m_19, m_20, m_21, m_22, m_23, m_24, m_25, m_26, m_27, m_28, m_29, m_30, m_31, m_32, m_33, m_34, m_35, m_36, m_37, m_38, m_39, m_40, m_41, m_42, m_43, m_44, .ref go, .ref po, m_47, m_48, m_49, m_50, m_51, m_52, m_53, m_54, m_55, m_56, m_57, m_58, m_59]), (cc_l w0 (K 0) 5500 fw), (cc_l po (K 0) 8 fo), (cc_l go (K 0) 8 fg)] s.heap.size = A at hD ⊢
  have hA : ∀ q : Nat, s.heap.size ≤ q → A q := fun q h => by rw [← hAe]; exact Or.inr h
  clear hAe
  have hS : va_S A s.heap s.heap [] := va_S.rf
  replace hP : va_P D vwCl [(cc_O m0 12 [m_0, m_1, m_2, .ref w0, m_4, m_5, m_6, m_7, m_8, m_9, m_10, m_11, m_12, m_13, m_14, m_15, m_16, m_17, m_18, m_19, m_20, m_21, m_22, m_23, m_24, m_25, m_26, m_27, m_28, m_29, m_30, m_31, m_32, m_33, m_34, m_35, m_36, m_37, m_38, m_39, m_40, m_41, m_42, m_43, m_44, .ref go, .ref po, m_47, m_48, m_49, m_50, m_51, m_52, m_53, m_54, m_55, m_56, m_57, m_58, m_59]), (cc_l w0 (K 0) 5500 fw), (cc_l po (K 0) 8 fo), (cc_l go (K 0) 8 fg)] s.heap := hP
  have hl := lv_entry [.ref m0] (n := 6) (Nat.le_of_ble_eq_true rfl)
  rw [lg_entry_eq]
  generalize (lg_sl [.ref m0] ++ List.replicate (6 - (lg_sl [.ref m0]).length) Slot.unset).toArray = ls at hl ⊢
  have hl : lv_has ls 6 [(0, .ref m0)] := hl
  have hw12 : ∀ w ∈ wsX120, w ∈ wsX12_findRings := fun w h => (List.mem_cons_of_mem _ (List.mem_append_right _ h))
  generalize hQ : MQ below _ _ s _ _ _ = Q
  have hE := E_v_findRings.eq_def fw fo fg
  obtain ⟨n0, hn0⟩ : ∃ z : Int32, z = fw 0 := ⟨_, rfl⟩
  have zn0 := PR.r_0 (zfw.1 0 (by decide +kernel)) (by decide +kernel)
  rw [← hn0] at zn0
  refine lv_iconst (v := 1) hx hb dX12_findRings_0 (by decide +kernel) (lv_aload_n hx hb dX12_findRings_1 rfl (lv_at hl 0 rfl) (va_get (ci := 12) (v := .ref w0) (C := RX12) (T := TX12) (N := 60) hx hb hts hw12 hown hK hP 0 rfl rfl 3 (by decide +kernel) (hts _ mm_X12_findRings_833) (fun _ h9 => h9) rfl dX12_findRings_2 (lv_iconst (v := 0) hx hb dX12_findRings_5 (by decide +kernel) (va_iald hx hb hK hP 1 0 rfl rfl (i_in (x := 0) rfl (by omega)) dX12_findRings_6 (lv_topi (fun x_4879 ex_4879 => ?_))))))
  replace hE := hE.trans (Lt_in ex_4879)
  have erx_4879 : x_4879 = n0 := ex_4879.trans hn0.symm
  have hrx_4879 : x_4879.toInt = n0.toInt := (congrArg Int32.toInt erx_4879).trans rfl
  refine lv_ishl hx hb dX12_findRings_7 (lv_topi (fun x_4880 ex_4880 => ?_))
  replace hE := hE.trans (Lt_in ex_4880)
  have hx_4880 : 1 ≤ x_4880.toInt ∧ x_4880.toInt ≤ 256 := by rw [ex_4880]; exact i_shl1 hrx_4879 (n := 8) (by decide +kernel) (by omega)
  refine lv_iconst (v := 1) hx hb dX12_findRings_8 (by decide +kernel) (lv_isub hx hb dX12_findRings_9 (lv_topi (fun x_4881 ex_4881 => ?_)))
  replace hE := hE.trans (Lt_in ex_4881)
  have hx_4881 : x_4881.toInt = (x_4880.toInt - 1) := by rw [ex_4881]; exact i_sub rfl (show (1 : Int32).toInt = 1 from rfl) (by omega)
  refine lv_istore_n (lv' := [(1, .int x_4881), (0, .ref m0)]) hx hb dX12_findRings_10 rfl hl (by decide +kernel) rfl (fun ls hl => ?_)
  have lp_6807 : ∀ (nn_ : Nat) (v_5843 : Int32) (f_5844 : Nat → Int32) (f_5845 : Nat → Int32) (hv_5843 : 0 ≤ v_5843.toInt ∧ v_5843.toInt ≤ 255) (hr0_lp_6807 : SubN v_5843 n0.toInt) (hn : (v_5843.toInt : Int).toNat < nn_) (hE : E_v_findRings fw fo fg = Lp (α := Int32 → (Nat → Int32) → (Nat → Int32) → ((Nat → Int32) × (Nat → Int32))) (E_v_findRings_l11 fw) (fun _ _ _ => ((fun _ => 0, fun _ => 0) : (Nat → Int32) × (Nat → Int32))) nn_ v_5843 f_5844 f_5845) (H : Heap) (locs : List Loc) (hP : va_P D vwCl [(cc_O m0 12 [m_0, m_1, m_2, .ref w0, m_4, m_5, m_6, m_7, m_8, m_9, m_10, m_11, m_12, m_13, m_14, m_15, m_16, m_17, m_18, m_19, m_20, m_21, m_22, m_23, m_24, m_25, m_26, m_27, m_28, m_29, m_30, m_31, m_32, m_33, m_34, m_35, m_36, m_37, m_38, m_39, m_40, m_41, m_42, m_43, m_44, .ref go, .ref po, m_47, m_48, m_49, m_50, m_51, m_52, m_53, m_54, m_55, m_56, m_57, m_58, m_59]), (cc_l w0 (K 0) 5500 fw), (cc_l po (K 0) 8 f_5844), (cc_l go (K 0) 8 f_5845)] H) (hD : va_D A [(cc_O m0 12 [m_0, m_1, m_2, .ref w0, m_4, m_5, m_6, m_7, m_8, m_9, m_10, m_11, m_12, m_13, m_14, m_15, m_16, m_17, m_18, m_19, m_20, m_21, m_22, m_23, m_24, m_25, m_26, m_27, m_28, m_29, m_30, m_31, m_32, m_33, m_34, m_35, m_36, m_37, m_38, m_39, m_40, m_41, m_42, m_43, m_44, .ref go, .ref po, m_47, m_48, m_49, m_50, m_51, m_52, m_53, m_54, m_55, m_56, m_57, m_58, m_59]), (cc_l w0 (K 0) 5500 fw), (cc_l po (K 0) 8 f_5844), (cc_l go (K 0) 8 f_5845)]) (hS : va_S A s.heap H locs) (ls : Array Slot) (hl : lv_has ls 6 [(1, .int v_5843), (0, .ref m0)]), W p l e ({ frames := 2, cells := 0, slots := 0, locals := 46 }) s m (([.ref m0] : List Value).toArray) below meth c H locs 0 0 Q (F0 m 11 ls []) := by
    clear hE hP hD hS hl
    intro nn_
    induction nn_ with
    | zero =>
      intro v_5843 f_5844 f_5845 hv_5843 hr0_lp_6807 hn hE H locs hP hD hS ls hl
      exact absurd hn (Nat.not_lt_zero _)
    | succ nn_ ih_6808 =>
      intro v_5843 f_5844 f_5845 hv_5843 hr0_lp_6807 hn hE H locs hP hD hS ls hl
      replace hE : E_v_findRings fw fo fg = E_v_findRings_l11 fw (Lp (α := Int32 → (Nat → Int32) → (Nat → Int32) → ((Nat → Int32) × (Nat → Int32))) (E_v_findRings_l11 fw) (fun _ _ _ => ((fun _ => 0, fun _ => 0) : (Nat → Int32) × (Nat → Int32))) nn_) v_5843 f_5844 f_5845 := hE
      obtain ⟨rec_6807, hrec_6807⟩ : ∃ z9, z9 = Lp (α := Int32 → (Nat → Int32) → (Nat → Int32) → ((Nat → Int32) × (Nat → Int32))) (E_v_findRings_l11 fw) (fun _ _ _ => ((fun _ => 0, fun _ => 0) : (Nat → Int32) × (Nat → Int32))) nn_ := ⟨_, rfl⟩
      rw [← hrec_6807] at hE
      replace hE := hE.trans (E_v_findRings_l11.eq_def _ _ _ _ _)
      refine lv_iload_n hx hb dX12_findRings_11 rfl (lv_at hl 0 rfl) (lv_if_eq (tgt := 165) hx hb dX12_findRings_12 (by decide +kernel) (fun c_6809 => ?_) (fun c_6809 => ?_))
      · have c_6809i := i_eq (x := v_5843.toInt) (y := 0) rfl rfl c_6809
        replace hE := hE.trans (if_pos c_6809)
        rw [← hQ]
        have hP9 := hP.sub (ws' := [(cc_O m0 12 [m_0, m_1, m_2, .ref w0, m_4, m_5, m_6, m_7, m_8, m_9, m_10, m_11, m_12, m_13, m_14, m_15, m_16, m_17, m_18, m_19, m_20, m_21, m_22, m_23, m_24, m_25, m_26, m_27, m_28, m_29, m_30, m_31, m_32, m_33, m_34, m_35, m_36, m_37, m_38, m_39, m_40, m_41, m_42, m_43, m_44, .ref go, .ref po, m_47, m_48, m_49, m_50, m_51, m_52, m_53, m_54, m_55, m_56, m_57, m_58, m_59]), (cc_l w0 (K 0) 5500 fw), (cc_l po (K 0) 8 f_5844), (cc_l go (K 0) 8 f_5845)]) [0, 1, 2, 3] rfl
        have hD9 := sub_D hP9 hD [0, 1, 2, 3] (by decide +kernel) rfl
        exact W.vret hx hb hr (fun t ht hW => ⟨⟨((fun _ => 0, fun i => match i with | 0 => f_5844 | _ => f_5845, fun _ => fun _ => 0, fun _ => 0, fun _ => 0, fun _ => fun _ => none) : Su), rfl, ⟨hE.symm, trivial⟩, (⟨by rw [ht]; exact hP9, hD9⟩ : Wd D A _ t)⟩, hS.F ht⟩) hS.2.2 dX12_findRings_165
      · have c_6809i := i_ne (x := v_5843.toInt) (y := 0) rfl rfl c_6809
        replace hE := hE.trans (if_neg c_6809)
        refine lv_iconst (v := 0) hx hb dX12_findRings_15 (by decide +kernel) (lv_istore_n (lv' := [(2, .int 0), (1, .int v_5843), (0, .ref m0)]) hx hb dX12_findRings_16 rfl hl (by decide +kernel) rfl (fun ls hl => ?_))
        have lp_6886 : ∀ (nn_ : Nat) (v_6854 : Int32) (f_6855 : Nat → Int32) (hv_6854 : 0 ≤ v_6854.toInt ∧ v_6854.toInt ≤ 8) (hr0_lp_6886 : PtsP f_6855 v_5843 n0.toInt v_6854.toInt) (hr1_lp_6886 : v_6854.toInt ≤ n0.toInt) (hn : (9 - v_6854.toInt : Int).toNat < nn_) (hE : E_v_findRings fw fo fg = Lp (α := Int32 → (Nat → Int32) → ((Nat → Int32) × (Nat → Int32))) (E_v_findRings_l17 fw v_5843 f_5845 rec_6807) (fun _ _ => ((fun _ => 0, fun _ => 0) : (Nat → Int32) × (Nat → Int32))) nn_ v_6854 f_6855) (H : Heap) (locs : List Loc) (hP : va_P D vwCl [(cc_O m0 12 [m_0, m_1, m_2, .ref w0, m_4, m_5, m_6, m_7, m_8, m_9, m_10, m_11, m_12, m_13, m_14, m_15, m_16, m_17, m_18, m_19, m_20, m_21, m_22, m_23, m_24, m_25, m_26, m_27, m_28, m_29, m_30, m_31, m_32, m_33, m_34, m_35, m_36, m_37, m_38, m_39, m_40, m_41, m_42, m_43, m_44, .ref go, .ref po, m_47, m_48, m_49, m_50, m_51, m_52, m_53, m_54, m_55, m_56, m_57, m_58, m_59]), (cc_l w0 (K 0) 5500 fw), (cc_l po (K 0) 8 f_6855), (cc_l go (K 0) 8 f_5845)] H) (hD : va_D A [(cc_O m0 12 [m_0, m_1, m_2, .ref w0, m_4, m_5, m_6, m_7, m_8, m_9, m_10, m_11, m_12, m_13, m_14, m_15, m_16, m_17, m_18, m_19, m_20, m_21, m_22, m_23, m_24, m_25, m_26, m_27, m_28, m_29, m_30, m_31, m_32, m_33, m_34, m_35, m_36, m_37, m_38, m_39, m_40, m_41, m_42, m_43, m_44, .ref go, .ref po, m_47, m_48, m_49, m_50, m_51, m_52, m_53, m_54, m_55, m_56, m_57, m_58, m_59]), (cc_l w0 (K 0) 5500 fw), (cc_l po (K 0) 8 f_6855), (cc_l go (K 0) 8 f_5845)]) (hS : va_S A s.heap H locs) (ls : Array Slot) (hl : lv_has ls 6 [(2, .int v_6854), (1, .int v_5843), (0, .ref m0)]), W p l e ({ frames := 2, cells := 0, slots := 0, locals := 46 }) s m (([.ref m0] : List Value).toArray) below meth c H locs 0 0 Q (F0 m 17 ls []) := by
          clear hE hP hD hS hl
          intro nn_
          induction nn_ with
          | zero =>
            intro v_6854 f_6855 hv_6854 hr0_lp_6886 hr1_lp_6886 hn hE H locs hP hD hS ls hl
            exact absurd hn (Nat.not_lt_zero _)
          | succ nn_ ih_6887 =>
            intro v_6854 f_6855 hv_6854 hr0_lp_6886 hr1_lp_6886 hn hE H locs hP hD hS ls hl
            replace hE : E_v_findRings fw fo fg = E_v_findRings_l17 fw v_5843 f_5845 rec_6807 (Lp (α := Int32 → (Nat → Int32) → ((Nat → Int32) × (Nat → Int32))) (E_v_findRings_l17 fw v_5843 f_5845 rec_6807) (fun _ _ => ((fun _ => 0, fun _ => 0) : (Nat → Int32) × (Nat → Int32))) nn_) v_6854 f_6855 := hE
            obtain ⟨rec_6886, hrec_6886⟩ : ∃ z9, z9 = Lp (α := Int32 → (Nat → Int32) → ((Nat → Int32) × (Nat → Int32))) (E_v_findRings_l17 fw v_5843 f_5845 rec_6807) (fun _ _ => ((fun _ => 0, fun _ => 0) : (Nat → Int32) × (Nat → Int32))) nn_ := ⟨_, rfl⟩
            rw [← hrec_6886] at hE
            replace hE := hE.trans (E_v_findRings_l17.eq_def _ _ _ _ _ _ _)
            refine lv_iload_n hx hb dX12_findRings_17 rfl (lv_at hl 0 rfl) (lv_aload_n hx hb dX12_findRings_18 rfl (lv_at hl 2 rfl) (va_get (ci := 12) (v := .ref w0) (C := RX12) (T := TX12) (N := 60) hx hb hts hw12 hown hK hP 0 rfl rfl 3 (by decide +kernel) (hts _ mm_X12_findRings_833) (fun _ h9 => h9) rfl dX12_findRings_19 (lv_iconst (v := 0) hx hb dX12_findRings_22 (by decide +kernel) (va_iald hx hb hK hP 1 0 rfl rfl (i_in (x := 0) rfl (by omega)) dX12_findRings_23 (lv_topi (fun x_6888 ex_6888 => ?_))))))
            replace hE := hE.trans (Lt_in ex_6888)
            have erx_6888 : x_6888 = n0 := ex_6888.trans hn0.symm
            have hrx_6888 : x_6888.toInt = n0.toInt := (congrArg Int32.toInt erx_6888).trans rfl
            refine lv_icmp_ge (tgt := 57) hx hb dX12_findRings_24 (by decide +kernel) (fun c_6889 => ?_) (fun c_6889 => ?_)
            · have c_6889i := i_le (x := n0.toInt) (y := v_6854.toInt) hrx_6888 rfl c_6889
              replace hE := hE.trans (if_pos c_6889)
              have hpts : PtsP f_6855 v_5843 n0.toInt n0.toInt := by have q := hr0_lp_6886; rwa [show v_6854.toInt = n0.toInt by omega] at q
              refine lv_iconst (v := 0) hx hb dX12_findRings_57 (by decide +kernel) (lv_istore_n (lv' := [(2, .int 0), (1, .int v_5843), (0, .ref m0)]) hx hb dX12_findRings_58 rfl hl (by decide +kernel) rfl (fun ls hl => ?_))
              refine lv_iconst (v := 0) hx hb dX12_findRings_59 (by decide +kernel) (lv_istore_n (lv' := [(3, .int 0), (2, .int 0), (1, .int v_5843), (0, .ref m0)]) hx hb dX12_findRings_60 rfl hl (by decide +kernel) rfl (fun ls hl => ?_))
              have lp_7207 : ∀ (nn_ : Nat) (v_7077 : Int32) (v_7078 : Int32) (f_7079 : Nat → Int32) (hv_7077 : 0 ≤ v_7077.toInt ∧ v_7077.toInt ≤ 8) (hv_7078 : 0 ≤ v_7078.toInt ∧ v_7078.toInt ≤ 255) (hr0_lp_7207 : OutOK f_6855 v_5843 v_7078 v_7077.toInt) (hr1_lp_7207 : v_7077.toInt ≤ n0.toInt) (hn : (9 - v_7077.toInt : Int).toNat < nn_) (hE : E_v_findRings fw fo fg = Lp (α := Int32 → Int32 → (Nat → Int32) → ((Nat → Int32) × (Nat → Int32))) (E_v_findRings_l61 fw v_5843 rec_6807 f_6855) (fun _ _ _ => ((fun _ => 0, fun _ => 0) : (Nat → Int32) × (Nat → Int32))) nn_ v_7077 v_7078 f_7079) (H : Heap) (locs : List Loc) (hP : va_P D vwCl [(cc_O m0 12 [m_0, m_1, m_2, .ref w0, m_4, m_5, m_6, m_7, m_8, m_9, m_10, m_11, m_12, m_13, m_14, m_15, m_16, m_17, m_18, m_19, m_20, m_21, m_22, m_23, m_24, m_25, m_26, m_27, m_28, m_29, m_30, m_31, m_32, m_33, m_34, m_35, m_36, m_37, m_38, m_39, m_40, m_41, m_42, m_43, m_44, .ref go, .ref po, m_47, m_48, m_49, m_50, m_51, m_52, m_53, m_54, m_55, m_56, m_57, m_58, m_59]), (cc_l w0 (K 0) 5500 fw), (cc_l po (K 0) 8 f_6855), (cc_l go (K 0) 8 f_7079)] H) (hD : va_D A [(cc_O m0 12 [m_0, m_1, m_2, .ref w0, m_4, m_5, m_6, m_7, m_8, m_9, m_10, m_11, m_12, m_13, m_14, m_15, m_16, m_17, m_18, m_19, m_20, m_21, m_22, m_23, m_24, m_25, m_26, m_27, m_28, m_29, m_30, m_31, m_32, m_33, m_34, m_35, m_36, m_37, m_38, m_39, m_40, m_41, m_42, m_43, m_44, .ref go, .ref po, m_47, m_48, m_49, m_50, m_51, m_52, m_53, m_54, m_55, m_56, m_57, m_58, m_59]), (cc_l w0 (K 0) 5500 fw), (cc_l po (K 0) 8 f_6855), (cc_l go (K 0) 8 f_7079)]) (hS : va_S A s.heap H locs) (ls : Array Slot) (hl : lv_has ls 6 [(3, .int v_7077), (2, .int v_7078), (1, .int v_5843), (0, .ref m0)]), W p l e ({ frames := 2, cells := 0, slots := 0, locals := 46 }) s m (([.ref m0] : List Value).toArray) below meth c H locs 0 0 Q (F0 m 61 ls []) := by
                clear hE hP hD hS hl
                intro nn_
                induction nn_ with
                | zero =>
                  intro v_7077 v_7078 f_7079 hv_7077 hv_7078 hr0_lp_7207 hr1_lp_7207 hn hE H locs hP hD hS ls hl
                  exact absurd hn (Nat.not_lt_zero _)
                | succ nn_ ih_7208 =>
                  intro v_7077 v_7078 f_7079 hv_7077 hv_7078 hr0_lp_7207 hr1_lp_7207 hn hE H locs hP hD hS ls hl
                  replace hE : E_v_findRings fw fo fg = E_v_findRings_l61 fw v_5843 rec_6807 f_6855 (Lp (α := Int32 → Int32 → (Nat → Int32) → ((Nat → Int32) × (Nat → Int32))) (E_v_findRings_l61 fw v_5843 rec_6807 f_6855) (fun _ _ _ => ((fun _ => 0, fun _ => 0) : (Nat → Int32) × (Nat → Int32))) nn_) v_7077 v_7078 f_7079 := hE
                  obtain ⟨rec_7207, hrec_7207⟩ : ∃ z9, z9 = Lp (α := Int32 → Int32 → (Nat → Int32) → ((Nat → Int32) × (Nat → Int32))) (E_v_findRings_l61 fw v_5843 rec_6807 f_6855) (fun _ _ _ => ((fun _ => 0, fun _ => 0) : (Nat → Int32) × (Nat → Int32))) nn_ := ⟨_, rfl⟩
                  rw [← hrec_7207] at hE
                  replace hE := hE.trans (E_v_findRings_l61.eq_def _ _ _ _ _ _ _ _)
                  refine lv_iload_n hx hb dX12_findRings_61 rfl (lv_at hl 0 rfl) (lv_aload_n hx hb dX12_findRings_62 rfl (lv_at hl 3 rfl) (va_get (ci := 12) (v := .ref w0) (C := RX12) (T := TX12) (N := 60) hx hb hts hw12 hown hK hP 0 rfl rfl 3 (by decide +kernel) (hts _ mm_X12_findRings_833) (fun _ h9 => h9) rfl dX12_findRings_63 (lv_iconst (v := 0) hx hb dX12_findRings_66 (by decide +kernel) (va_iald hx hb hK hP 1 0 rfl rfl (i_in (x := 0) rfl (by omega)) dX12_findRings_67 (lv_topi (fun x_7209 ex_7209 => ?_))))))
                  replace hE := hE.trans (Lt_in ex_7209)
                  have erx_7209 : x_7209 = n0 := ex_7209.trans hn0.symm
                  have hrx_7209 : x_7209.toInt = n0.toInt := (congrArg Int32.toInt erx_7209).trans rfl
                  refine lv_icmp_ge (tgt := 156) hx hb dX12_findRings_68 (by decide +kernel) (fun c_7210 => ?_) (fun c_7210 => ?_)
                  · have c_7210i := i_le (x := n0.toInt) (y := v_7077.toInt) hrx_7209 rfl c_7210
                    replace hE := hE.trans (if_pos c_7210)
                    refine lv_iload_n hx hb dX12_findRings_156 rfl (lv_at hl 2 rfl) (lv_iload_n hx hb dX12_findRings_157 rfl (lv_at hl 1 rfl) (lv_iconst (v := (-1)) hx hb dX12_findRings_158 (by decide +kernel) (lv_ixor hx hb dX12_findRings_159 (lv_topi (fun x_7211 ex_7211 => ?_)))))
                    replace hE := hE.trans (Lt_in ex_7211)
                    refine lv_iand hx hb dX12_findRings_160 (lv_topi (fun x_7212 ex_7212 => ?_))
                    replace hE := hE.trans (Lt_in ex_7212)
                    have hx_7212 : 0 ≤ x_7212.toInt ∧ x_7212.toInt ≤ v_5843.toInt := by rw [ex_7212]; exact i_andl rfl (by omega)
                    have hrl := ring_lt (by omega) (by omega) (by omega) hr0_lp_6807 hpts (by have q := hr0_lp_7207; rwa [show v_7077.toInt = n0.toInt by omega] at q) ex_7211 ex_7212
                    refine lv_istore_n (lv' := [(1, .int x_7212), (3, .int v_7077), (2, .int v_7078), (0, .ref m0)]) hx hb dX12_findRings_161 rfl hl (by decide +kernel) rfl (fun ls hl => ?_)
                    refine lv_goto (tgt := 11) hx hb dX12_findRings_162 (by decide +kernel) ?_
                    exact ih_6808 x_7212 f_6855 f_7079 (by omega) (show SubN x_7212 n0.toInt by rw [ex_7212]; exact SubN.and hr0_lp_6807) (by omega) (hE.trans (by rw [hrec_6807])) _ _ hP hD hS ls (lv_sub hl [0, 3] rfl)
                  · have c_7210i := i_nle (x := n0.toInt) (y := v_7077.toInt) hrx_7209 rfl c_7210
                    replace hE := hE.trans (if_neg c_7210)
                    refine lv_iload_n hx hb dX12_findRings_71 rfl (lv_at hl 2 rfl) (lv_iload_n hx hb dX12_findRings_72 rfl (lv_at hl 0 rfl) (pci (va_runS (As := [.int v_5843, .int v_7077]) (rest := []) ⟨hx, hb, hml, hown, hts⟩ (v_isB l D K v_5843 v_7077 H.size (by first | omega | decide)) (va_cwS 2 hts gX12_findRings_X12_is rfl rfl rfl (by decide +kernel) ⟨Nat.le_of_ble_eq_true rfl, Nat.le_of_ble_eq_true rfl⟩) (mkS hK hN (va_P.nil) (va_D.nil (A := fun _ => True))) rfl rfl hl.1 rfl (lv_room (Nat.le_of_ble_eq_true rfl)) dX12_findRings_73 ⟨Nat.le_of_ble_eq_true rfl, Nat.le_of_ble_eq_true rfl⟩) (fun r_7213 hw => ?_)))
                    obtain ⟨⟨hw, -⟩, k_7214⟩ := hw
                    replace hE := hE.trans (Lt_in k_7214)
                    rcases hw with ⟨rfl, h_7215⟩ | ⟨rfl, h_7216⟩
                    · replace hE := (hE).trans (if_pos rfl)
                      refine lv_if_eq (tgt := 150) hx hb dX12_findRings_76 (by decide +kernel) (fun c_7217 => absurd c_7217 (by decide +kernel)) (fun c_7217 => ?_)
                      refine lv_aload_n hx hb dX12_findRings_79 rfl (lv_at hl 3 rfl) (va_get (ci := 12) (v := .ref po) (C := RX12) (T := TX12) (N := 60) hx hb hts hw12 hown hK hP 0 rfl rfl 46 (by decide +kernel) (hts _ mm_X12_findRings_876) (fun _ h9 => h9) rfl dX12_findRings_80 (lv_iload_n hx hb dX12_findRings_83 rfl (lv_at hl 0 rfl) (va_iald hx hb hK hP 2 0 rfl rfl (i_in rfl (by omega)) dX12_findRings_84 (lv_topi (fun x_7218 ex_7218 => ?_)))))
                      replace hE := hE.trans (Lt_in ex_7218)
                      refine lv_istore (lv' := [(4, .int x_7218), (3, .int v_7077), (2, .int v_7078), (1, .int v_5843), (0, .ref m0)]) hx hb dX12_findRings_85 hl (by decide +kernel) rfl (fun ls hl => ?_)
                      refine lv_iconst (v := 0) hx hb dX12_findRings_87 (by decide +kernel) (lv_istore (lv' := [(5, .int 0), (4, .int x_7218), (3, .int v_7077), (2, .int v_7078), (1, .int v_5843), (0, .ref m0)]) hx hb dX12_findRings_88 hl (by decide +kernel) rfl (fun ls hl => ?_))
                      have lp_7246 : ∀ (nn_ : Nat) (v_7234 : Int32) (v_7235 : Int32) (hv_7234 : 0 ≤ v_7234.toInt ∧ v_7234.toInt ≤ 8) (hr0_lp_7246 : ItW f_6855 v_5843 n0.toInt v_7077.toInt v_7235.toInt v_7234.toInt) (hn : (9 - v_7234.toInt : Int).toNat < nn_) (hE : E_v_findRings fw fo fg = Lp (α := Int32 → Int32 → ((Nat → Int32) × (Nat → Int32))) (E_v_findRings_l90 fw f_6855 v_7077 v_7078 f_7079 rec_7207) (fun _ _ => ((fun _ => 0, fun _ => 0) : (Nat → Int32) × (Nat → Int32))) nn_ v_7234 v_7235) (H : Heap) (locs : List Loc) (hP : va_P D vwCl [(cc_O m0 12 [m_0, m_1, m_2, .ref w0, m_4, m_5, m_6, m_7, m_8, m_9, m_10, m_11, m_12, m_13, m_14, m_15, m_16, m_17, m_18, m_19, m_20, m_21, m_22, m_23, m_24, m_25, m_26, m_27, m_28, m_29, m_30, m_31, m_32, m_33, m_34, m_35, m_36, m_37, m_38, m_39, m_40, m_41, m_42, m_43, m_44, .ref go, .ref po, m_47, m_48, m_49, m_50, m_51, m_52, m_53, m_54, m_55, m_56, m_57, m_58, m_59]), (cc_l w0 (K 0) 5500 fw), (cc_l po (K 0) 8 f_6855), (cc_l go (K 0) 8 f_7079)] H) (hD : va_D A [(cc_O m0 12 [m_0, m_1, m_2, .ref w0, m_4, m_5, m_6, m_7, m_8, m_9, m_10, m_11, m_12, m_13, m_14, m_15, m_16, m_17, m_18, m_19, m_20, m_21, m_22, m_23, m_24, m_25, m_26, m_27, m_28, m_29, m_30, m_31, m_32, m_33, m_34, m_35, m_36, m_37, m_38, m_39, m_40, m_41, m_42, m_43, m_44, .ref go, .ref po, m_47, m_48, m_49, m_50, m_51, m_52, m_53, m_54, m_55, m_56, m_57, m_58, m_59]), (cc_l w0 (K 0) 5500 fw), (cc_l po (K 0) 8 f_6855), (cc_l go (K 0) 8 f_7079)]) (hS : va_S A s.heap H locs) (ls : Array Slot) (hl : lv_has ls 6 [(5, .int v_7234), (4, .int v_7235), (3, .int v_7077), (2, .int v_7078), (1, .int v_5843), (0, .ref m0)]), W p l e ({ frames := 2, cells := 0, slots := 0, locals := 46 }) s m (([.ref m0] : List Value).toArray) below meth c H locs 0 0 Q (F0 m 90 ls []) := by
                        clear hE hP hD hS hl
                        intro nn_
                        induction nn_ with
                        | zero =>
                          intro v_7234 v_7235 hv_7234 hr0_lp_7246 hn hE H locs hP hD hS ls hl
                          exact absurd hn (Nat.not_lt_zero _)
                        | succ nn_ ih_7247 =>
                          intro v_7234 v_7235 hv_7234 hr0_lp_7246 hn hE H locs hP hD hS ls hl
                          replace hE : E_v_findRings fw fo fg = E_v_findRings_l90 fw f_6855 v_7077 v_7078 f_7079 rec_7207 (Lp (α := Int32 → Int32 → ((Nat → Int32) × (Nat → Int32))) (E_v_findRings_l90 fw f_6855 v_7077 v_7078 f_7079 rec_7207) (fun _ _ => ((fun _ => 0, fun _ => 0) : (Nat → Int32) × (Nat → Int32))) nn_) v_7234 v_7235 := hE
                          obtain ⟨rec_7246, hrec_7246⟩ : ∃ z9, z9 = Lp (α := Int32 → Int32 → ((Nat → Int32) × (Nat → Int32))) (E_v_findRings_l90 fw f_6855 v_7077 v_7078 f_7079 rec_7207) (fun _ _ => ((fun _ => 0, fun _ => 0) : (Nat → Int32) × (Nat → Int32))) nn_ := ⟨_, rfl⟩
                          rw [← hrec_7246] at hE
                          replace hE := hE.trans (E_v_findRings_l90.eq_def _ _ _ _ _ _ _ _ _)
                          refine lv_iload hx hb dX12_findRings_90 (lv_at hl 0 rfl) (lv_bipush (v := 8) hx hb dX12_findRings_92 (by decide +kernel) (lv_icmp_ge (tgt := 118) hx hb dX12_findRings_94 (by decide +kernel) (fun c_7248 => ?_) (fun c_7248 => ?_)))
                          · have c_7248i := i_le (x := 8) (y := v_7234.toInt) rfl rfl c_7248
                            replace hE := hE.trans (if_pos c_7248)
                            refine lv_iload hx hb dX12_findRings_118 (lv_at hl 1 rfl) (lv_iload_n hx hb dX12_findRings_120 rfl (lv_at hl 2 rfl) (lv_icmp_ne (tgt := 150) hx hb dX12_findRings_121 (by decide +kernel) (fun c_7249 => ?_) (fun c_7249 => ?_)))
                            · have c_7249i := i_ne (x := v_7235.toInt) (y := v_7077.toInt) rfl rfl c_7249
                              replace hE := hE.trans (if_neg c_7249)
                              obtain ⟨x_7250, ex_7250⟩ : ∃ y : Int32, y = v_7077 + Int32.ofInt 1 := ⟨_, rfl⟩
                              replace hE := hE.trans (Lt_in ex_7250)
                              have hx_7250 : x_7250.toInt = (v_7077.toInt + 1) := by rw [ex_7250]; exact i_add rfl (show (Int32.ofInt 1).toInt = 1 from rfl) (by omega)
                              refine lv_iinc (v := x_7250) (lv' := [(3, .int x_7250), (5, .int v_7234), (4, .int v_7235), (2, .int v_7078), (1, .int v_5843), (0, .ref m0)]) hx hb dX12_findRings_150 hl (k := 2) rfl (by rw [ex_7250]) (by decide +kernel) rfl (fun ls hl => ?_)
                              refine lv_goto (tgt := 61) hx hb dX12_findRings_153 (by decide +kernel) ?_
                              exact ih_7208 x_7250 v_7078 f_7079 (by rw [hx_7250]; omega) (by omega) (show OutOK f_6855 v_5843 v_7078 (x_7250 : Int32).toInt by rw [hx_7250]; exact OutOK.far hr0_lp_7207 (by omega) hr0_lp_7246 (by omega)) (show (x_7250 : Int32).toInt ≤ n0.toInt by omega) (by omega) (hE.trans (by rw [hrec_7207])) _ _ hP hD hS ls (lv_sub hl [0, 3, 4, 5] rfl)
                            · have c_7249i := i_eq (x := v_7235.toInt) (y := v_7077.toInt) rfl rfl c_7249
                              replace hE := hE.trans (if_pos c_7249)
                              have hpi := hpts v_7077.toInt.toNat (by omega) (by assumption)
                              refine lv_aload_n hx hb dX12_findRings_124 rfl (lv_at hl 5 rfl) (va_get (ci := 12) (v := .ref go) (C := RX12) (T := TX12) (N := 60) hx hb hts hw12 hown hK hP 0 rfl rfl 45 (by decide +kernel) (hts _ mm_X12_findRings_875) (fun _ h9 => h9) rfl dX12_findRings_125 (lv_iload_n hx hb dX12_findRings_128 rfl (lv_at hl 2 rfl) (lv_aload_n hx hb dX12_findRings_129 rfl (lv_at hl 5 rfl) (va_get (ci := 12) (v := .ref w0) (C := RX12) (T := TX12) (N := 60) hx hb hts hw12 hown hK hP 0 rfl rfl 3 (by decide +kernel) (hts _ mm_X12_findRings_833) (fun _ h9 => h9) rfl dX12_findRings_130 (lv_bipush (v := 51) hx hb dX12_findRings_133 (by decide +kernel) (lv_aload_n hx hb dX12_findRings_135 rfl (lv_at hl 5 rfl) (va_get (ci := 12) (v := .ref po) (C := RX12) (T := TX12) (N := 60) hx hb hts hw12 hown hK hP 0 rfl rfl 46 (by decide +kernel) (hts _ mm_X12_findRings_876) (fun _ h9 => h9) rfl dX12_findRings_136 (lv_iload_n hx hb dX12_findRings_139 rfl (lv_at hl 2 rfl) (va_iald hx hb hK hP 2 0 rfl rfl (i_in rfl (by omega)) dX12_findRings_140 (lv_topi (fun x_7251 ex_7251 => ?_)))))))))))
                              replace hE := hE.trans (Lt_in ex_7251)
                              have hpx : 0 ≤ x_7251.toInt ∧ x_7251.toInt ≤ 7 := by rw [ex_7251, i_clamp (x := v_7077) (z := v_7077.toInt) rfl]; omega
                              refine lv_iadd hx hb dX12_findRings_141 (lv_topi (fun x_7252 ex_7252 => ?_))
                              replace hE := hE.trans (Lt_in ex_7252)
                              have hx_7252 : x_7252.toInt = (51 + x_7251.toInt) := by rw [ex_7252]; exact i_add (show (51 : Int32).toInt = 51 from rfl) rfl (by omega)
                              refine va_iald hx hb hK hP 1 0 rfl rfl (i_in hx_7252 (by omega)) dX12_findRings_142 (lv_topi (fun x_7253 ex_7253 => ?_))
                              replace hE := hE.trans (Lt_in ex_7253)
                              have px_7253 := RwOK.at zfw hx_7252 (show 0 ≤ (51 + x_7251.toInt) ∧ (51 + x_7251.toInt) < 100 by omega)
                              rw [← ex_7253] at px_7253
                              refine va_iast hx hb hK hP hD hS 3 0 rfl rfl (i_in rfl (by omega)) dX12_findRings_143 (fun H locs hP0 hD0 hS0 => ?_)
                              replace hP := hP0
                              replace hD := hD0
                              replace hS := hS0
                              clear hP0 hD0 hS0
                              generalize hf_7254 : (upd f_7079 (v_7077 : Int32).toNatClampNeg x_7253) = f_7254 at hP hD
                              replace hE := hE.trans (Lt_in hf_7254.symm)
                              replace hP : va_P D vwCl [(cc_O m0 12 [m_0, m_1, m_2, .ref w0, m_4, m_5, m_6, m_7, m_8, m_9, m_10, m_11, m_12, m_13, m_14, m_15, m_16, m_17, m_18, m_19, m_20, m_21, m_22, m_23, m_24, m_25, m_26, m_27, m_28, m_29, m_30, m_31, m_32, m_33, m_34, m_35, m_36, m_37, m_38, m_39, m_40, m_41, m_42, m_43, m_44, .ref go, .ref po, m_47, m_48, m_49, m_50, m_51, m_52, m_53, m_54, m_55, m_56, m_57, m_58, m_59]), (cc_l w0 (K 0) 5500 fw), (cc_l po (K 0) 8 f_6855), (cc_l go (K 0) 8 f_7254)] H := hP
                              replace hD := as_D hP hD rfl
                              refine lv_iload_n hx hb dX12_findRings_144 rfl (lv_at hl 3 rfl) (lv_iconst (v := 1) hx hb dX12_findRings_145 (by decide +kernel) (lv_iload_n hx hb dX12_findRings_146 rfl (lv_at hl 2 rfl) (lv_ishl hx hb dX12_findRings_147 (lv_topi (fun x_7255 ex_7255 => ?_)))))
                              replace hE := hE.trans (Lt_in ex_7255)
                              have hx_7255 : 1 ≤ x_7255.toInt ∧ x_7255.toInt ≤ 128 := by rw [ex_7255]; exact i_shl1 rfl (n := 7) (by decide +kernel) (by omega)
                              refine lv_ior hx hb dX12_findRings_148 (lv_topi (fun x_7256 ex_7256 => ?_))
                              replace hE := hE.trans (Lt_in ex_7256)
                              have hx_7256 : 0 ≤ x_7256.toInt ∧ x_7256.toInt < 256 := by rw [ex_7256]; exact i_or (k := 8) rfl rfl (by decide +kernel) (by omega) (by omega)
                              refine lv_istore_n (lv' := [(2, .int x_7256), (5, .int v_7234), (4, .int v_7235), (3, .int v_7077), (1, .int v_5843), (0, .ref m0)]) hx hb dX12_findRings_149 rfl hl (by decide +kernel) rfl (fun ls hl => ?_)
                              obtain ⟨x_7257, ex_7257⟩ : ∃ y : Int32, y = v_7077 + Int32.ofInt 1 := ⟨_, rfl⟩
                              replace hE := hE.trans (Lt_in ex_7257)
                              have hx_7257 : x_7257.toInt = (v_7077.toInt + 1) := by rw [ex_7257]; exact i_add rfl (show (Int32.ofInt 1).toInt = 1 from rfl) (by omega)
                              refine lv_iinc (v := x_7257) (lv' := [(3, .int x_7257), (2, .int x_7256), (5, .int v_7234), (4, .int v_7235), (1, .int v_5843), (0, .ref m0)]) hx hb dX12_findRings_150 hl (k := 3) rfl (by rw [ex_7257]) (by decide +kernel) rfl (fun ls hl => ?_)
                              refine lv_goto (tgt := 61) hx hb dX12_findRings_153 (by decide +kernel) ?_
                              exact ih_7208 x_7257 x_7256 f_7254 (by rw [hx_7257]; omega) (by omega) (show OutOK f_6855 v_5843 x_7256 (x_7257 : Int32).toInt by rw [hx_7257]; exact OutOK.add (y := 0) hr0_lp_7207 (by omega) rfl ex_7255 ex_7256) (show (x_7257 : Int32).toInt ≤ n0.toInt by omega) (by omega) (hE.trans (by rw [hrec_7207])) _ _ hP hD hS ls (lv_sub hl [0, 1, 4, 5] rfl)
                          · have c_7248i := i_nle (x := 8) (y := v_7234.toInt) rfl rfl c_7248
                            replace hE := hE.trans (if_neg c_7248)
                            refine lv_iload hx hb dX12_findRings_97 (lv_at hl 1 rfl) (lv_iload_n hx hb dX12_findRings_99 rfl (lv_at hl 2 rfl) (lv_icmp_eq (tgt := 118) hx hb dX12_findRings_100 (by decide +kernel) (fun c_7258 => ?_) (fun c_7258 => ?_)))
                            · have c_7258i := i_eq (x := v_7235.toInt) (y := v_7077.toInt) rfl rfl c_7258
                              replace hE := hE.trans (if_pos c_7258)
                              refine lv_iload hx hb dX12_findRings_118 (lv_at hl 1 rfl) (lv_iload_n hx hb dX12_findRings_120 rfl (lv_at hl 2 rfl) (lv_icmp_ne (tgt := 150) hx hb dX12_findRings_121 (by decide +kernel) (fun c_7259 => ?_) (fun c_7259 => ?_)))
                              · have c_7259i := i_ne (x := v_7235.toInt) (y := v_7077.toInt) rfl rfl c_7259
                                replace hE := hE.trans (if_neg c_7259)
                                obtain ⟨x_7260, ex_7260⟩ : ∃ y : Int32, y = v_7077 + Int32.ofInt 1 := ⟨_, rfl⟩
                                replace hE := hE.trans (Lt_in ex_7260)
                                have hx_7260 : x_7260.toInt = (v_7077.toInt + 1) := by rw [ex_7260]; exact i_add rfl (show (Int32.ofInt 1).toInt = 1 from rfl) (by omega)
                                refine lv_iinc (v := x_7260) (lv' := [(3, .int x_7260), (5, .int v_7234), (4, .int v_7235), (2, .int v_7078), (1, .int v_5843), (0, .ref m0)]) hx hb dX12_findRings_150 hl (k := 2) rfl (by rw [ex_7260]) (by decide +kernel) rfl (fun ls hl => ?_)
                                refine lv_goto (tgt := 61) hx hb dX12_findRings_153 (by decide +kernel) ?_
                                exact ih_7208 x_7260 v_7078 f_7079 (by rw [hx_7260]; omega) (by omega) (show OutOK f_6855 v_5843 v_7078 (x_7260 : Int32).toInt by rw [hx_7260]; exact OutOK.far hr0_lp_7207 (by omega) hr0_lp_7246 (by omega)) (show (x_7260 : Int32).toInt ≤ n0.toInt by omega) (by omega) (hE.trans (by rw [hrec_7207])) _ _ hP hD hS ls (lv_sub hl [0, 3, 4, 5] rfl)
                              · have c_7259i := i_eq (x := v_7235.toInt) (y := v_7077.toInt) rfl rfl c_7259
                                replace hE := hE.trans (if_pos c_7259)
                                have hpi := hpts v_7077.toInt.toNat (by omega) (by assumption)
                                refine lv_aload_n hx hb dX12_findRings_124 rfl (lv_at hl 5 rfl) (va_get (ci := 12) (v := .ref go) (C := RX12) (T := TX12) (N := 60) hx hb hts hw12 hown hK hP 0 rfl rfl 45 (by decide +kernel) (hts _ mm_X12_findRings_875) (fun _ h9 => h9) rfl dX12_findRings_125 (lv_iload_n hx hb dX12_findRings_128 rfl (lv_at hl 2 rfl) (lv_aload_n hx hb dX12_findRings_129 rfl (lv_at hl 5 rfl) (va_get (ci := 12) (v := .ref w0) (C := RX12) (T := TX12) (N := 60) hx hb hts hw12 hown hK hP 0 rfl rfl 3 (by decide +kernel) (hts _ mm_X12_findRings_833) (fun _ h9 => h9) rfl dX12_findRings_130 (lv_bipush (v := 51) hx hb dX12_findRings_133 (by decide +kernel) (lv_aload_n hx hb dX12_findRings_135 rfl (lv_at hl 5 rfl) (va_get (ci := 12) (v := .ref po) (C := RX12) (T := TX12) (N := 60) hx hb hts hw12 hown hK hP 0 rfl rfl 46 (by decide +kernel) (hts _ mm_X12_findRings_876) (fun _ h9 => h9) rfl dX12_findRings_136 (lv_iload_n hx hb dX12_findRings_139 rfl (lv_at hl 2 rfl) (va_iald hx hb hK hP 2 0 rfl rfl (i_in rfl (by omega)) dX12_findRings_140 (lv_topi (fun x_7261 ex_7261 => ?_)))))))))))
                                replace hE := hE.trans (Lt_in ex_7261)
                                have hpx : 0 ≤ x_7261.toInt ∧ x_7261.toInt ≤ 7 := by rw [ex_7261, i_clamp (x := v_7077) (z := v_7077.toInt) rfl]; omega
                                refine lv_iadd hx hb dX12_findRings_141 (lv_topi (fun x_7262 ex_7262 => ?_))
                                replace hE := hE.trans (Lt_in ex_7262)
                                have hx_7262 : x_7262.toInt = (51 + x_7261.toInt) := by rw [ex_7262]; exact i_add (show (51 : Int32).toInt = 51 from rfl) rfl (by omega)
                                refine va_iald hx hb hK hP 1 0 rfl rfl (i_in hx_7262 (by omega)) dX12_findRings_142 (lv_topi (fun x_7263 ex_7263 => ?_))
                                replace hE := hE.trans (Lt_in ex_7263)
                                have px_7263 := RwOK.at zfw hx_7262 (show 0 ≤ (51 + x_7261.toInt) ∧ (51 + x_7261.toInt) < 100 by omega)
                                rw [← ex_7263] at px_7263
                                refine va_iast hx hb hK hP hD hS 3 0 rfl rfl (i_in rfl (by omega)) dX12_findRings_143 (fun H locs hP0 hD0 hS0 => ?_)
                                replace hP := hP0
                                replace hD := hD0
                                replace hS := hS0
                                clear hP0 hD0 hS0
                                generalize hf_7264 : (upd f_7079 (v_7077 : Int32).toNatClampNeg x_7263) = f_7264 at hP hD
                                replace hE := hE.trans (Lt_in hf_7264.symm)
                                replace hP : va_P D vwCl [(cc_O m0 12 [m_0, m_1, m_2, .ref w0, m_4, m_5, m_6, m_7, m_8, m_9, m_10, m_11, m_12, m_13, m_14, m_15, m_16, m_17, m_18, m_19, m_20, m_21, m_22, m_23, m_24, m_25, m_26, m_27, m_28, m_29, m_30, m_31, m_32, m_33, m_34, m_35, m_36, m_37, m_38, m_39, m_40, m_41, m_42, m_43, m_44, .ref go, .ref po, m_47, m_48, m_49, m_50, m_51, m_52, m_53, m_54, m_55, m_56, m_57, m_58, m_59]), (cc_l w0 (K 0) 5500 fw), (cc_l po (K 0) 8 f_6855), (cc_l go (K 0) 8 f_7264)] H := hP
                                replace hD := as_D hP hD rfl
                                refine lv_iload_n hx hb dX12_findRings_144 rfl (lv_at hl 3 rfl) (lv_iconst (v := 1) hx hb dX12_findRings_145 (by decide +kernel) (lv_iload_n hx hb dX12_findRings_146 rfl (lv_at hl 2 rfl) (lv_ishl hx hb dX12_findRings_147 (lv_topi (fun x_7265 ex_7265 => ?_)))))
                                replace hE := hE.trans (Lt_in ex_7265)
                                have hx_7265 : 1 ≤ x_7265.toInt ∧ x_7265.toInt ≤ 128 := by rw [ex_7265]; exact i_shl1 rfl (n := 7) (by decide +kernel) (by omega)
                                refine lv_ior hx hb dX12_findRings_148 (lv_topi (fun x_7266 ex_7266 => ?_))
                                replace hE := hE.trans (Lt_in ex_7266)
                                have hx_7266 : 0 ≤ x_7266.toInt ∧ x_7266.toInt < 256 := by rw [ex_7266]; exact i_or (k := 8) rfl rfl (by decide +kernel) (by omega) (by omega)
                                refine lv_istore_n (lv' := [(2, .int x_7266), (5, .int v_7234), (4, .int v_7235), (3, .int v_7077), (1, .int v_5843), (0, .ref m0)]) hx hb dX12_findRings_149 rfl hl (by decide +kernel) rfl (fun ls hl => ?_)
                                obtain ⟨x_7267, ex_7267⟩ : ∃ y : Int32, y = v_7077 + Int32.ofInt 1 := ⟨_, rfl⟩
                                replace hE := hE.trans (Lt_in ex_7267)
                                have hx_7267 : x_7267.toInt = (v_7077.toInt + 1) := by rw [ex_7267]; exact i_add rfl (show (Int32.ofInt 1).toInt = 1 from rfl) (by omega)
                                refine lv_iinc (v := x_7267) (lv' := [(3, .int x_7267), (2, .int x_7266), (5, .int v_7234), (4, .int v_7235), (1, .int v_5843), (0, .ref m0)]) hx hb dX12_findRings_150 hl (k := 3) rfl (by rw [ex_7267]) (by decide +kernel) rfl (fun ls hl => ?_)
                                refine lv_goto (tgt := 61) hx hb dX12_findRings_153 (by decide +kernel) ?_
                                exact ih_7208 x_7267 x_7266 f_7264 (by rw [hx_7267]; omega) (by omega) (show OutOK f_6855 v_5843 x_7266 (x_7267 : Int32).toInt by rw [hx_7267]; exact OutOK.add (y := 0) hr0_lp_7207 (by omega) rfl ex_7265 ex_7266) (show (x_7267 : Int32).toInt ≤ n0.toInt by omega) (by omega) (hE.trans (by rw [hrec_7207])) _ _ hP hD hS ls (lv_sub hl [0, 1, 4, 5] rfl)
                            · have c_7258i := i_ne (x := v_7235.toInt) (y := v_7077.toInt) rfl rfl c_7258
                              replace hE := hE.trans (if_neg c_7258)
                              have hit := hr0_lp_7246
                              obtain ⟨-, hit1, hit2, -⟩ := hit
                              refine lv_aload_n hx hb dX12_findRings_103 rfl (lv_at hl 5 rfl) (va_get (ci := 12) (v := .ref po) (C := RX12) (T := TX12) (N := 60) hx hb hts hw12 hown hK hP 0 rfl rfl 46 (by decide +kernel) (hts _ mm_X12_findRings_876) (fun _ h9 => h9) rfl dX12_findRings_104 (lv_iload hx hb dX12_findRings_107 (lv_at hl 1 rfl) (va_iald hx hb hK hP 2 0 rfl rfl (i_in rfl (by omega)) dX12_findRings_109 (lv_topi (fun x_7268 ex_7268 => ?_)))))
                              replace hE := hE.trans (Lt_in ex_7268)
                              refine lv_istore (lv' := [(4, .int x_7268), (5, .int v_7234), (3, .int v_7077), (2, .int v_7078), (1, .int v_5843), (0, .ref m0)]) hx hb dX12_findRings_110 hl (by decide +kernel) rfl (fun ls hl => ?_)
                              obtain ⟨x_7269, ex_7269⟩ : ∃ y : Int32, y = v_7234 + Int32.ofInt 1 := ⟨_, rfl⟩
                              replace hE := hE.trans (Lt_in ex_7269)
                              have hx_7269 : x_7269.toInt = (v_7234.toInt + 1) := by rw [ex_7269]; exact i_add rfl (show (Int32.ofInt 1).toInt = 1 from rfl) (by omega)
                              refine lv_iinc (v := x_7269) (lv' := [(5, .int x_7269), (4, .int x_7268), (3, .int v_7077), (2, .int v_7078), (1, .int v_5843), (0, .ref m0)]) hx hb dX12_findRings_112 hl (k := 1) rfl (by rw [ex_7269]) (by decide +kernel) rfl (fun ls hl => ?_)
                              refine lv_goto (tgt := 90) hx hb dX12_findRings_115 (by decide +kernel) ?_
                              exact ih_7247 x_7269 x_7268 (by rw [hx_7269]; omega) (show ItW f_6855 v_5843 n0.toInt v_7077.toInt (x_7268 : Int32).toInt (x_7269 : Int32).toInt by rw [hx_7269]; exact ItW.next hpts hr0_lp_7246 (by omega) (by omega) (by rw [ex_7268, i_clamp (x := v_7235) (z := v_7235.toInt) rfl])) (by omega) (hE.trans (by rw [hrec_7246])) _ _ hP hD hS ls (lv_sub hl [0, 1, 2, 3, 4, 5] rfl)
                      have hz_7270 : (0 : Int32).toInt = 0 := rfl
                      exact lp_7246 ((9 - (0 : Int32).toInt : Int).toNat + 1) 0 x_7218 (by decide +kernel) (show ItW f_6855 v_5843 n0.toInt v_7077.toInt (x_7218 : Int32).toInt (0 : Int32).toInt by exact ItW.base hpts (by omega) (by assumption) (by rw [ex_7218, i_clamp (x := v_7077) (z := v_7077.toInt) rfl])) (Nat.lt_succ_self _) hE _ _ hP hD hS ls (lv_sub hl [0, 1, 2, 3, 4, 5] rfl)
                    · replace hE := (hE).trans (if_neg (by first | decide | (intro h9; have h8 := congrArg Int32.toInt h9; omega)))
                      refine lv_if_eq (tgt := 150) hx hb dX12_findRings_76 (by decide +kernel) (fun c_7271 => ?_) (fun c_7271 => absurd (by decide +kernel) c_7271)
                      obtain ⟨x_7272, ex_7272⟩ : ∃ y : Int32, y = v_7077 + Int32.ofInt 1 := ⟨_, rfl⟩
                      replace hE := hE.trans (Lt_in ex_7272)
                      have hx_7272 : x_7272.toInt = (v_7077.toInt + 1) := by rw [ex_7272]; exact i_add rfl (show (Int32.ofInt 1).toInt = 1 from rfl) (by omega)
                      refine lv_iinc (v := x_7272) (lv' := [(3, .int x_7272), (2, .int v_7078), (1, .int v_5843), (0, .ref m0)]) hx hb dX12_findRings_150 hl (k := 0) rfl (by rw [ex_7272]) (by decide +kernel) rfl (fun ls hl => ?_)
                      refine lv_goto (tgt := 61) hx hb dX12_findRings_153 (by decide +kernel) ?_
                      exact ih_7208 x_7272 v_7078 f_7079 (by rw [hx_7272]; omega) (by omega) (show OutOK f_6855 v_5843 v_7078 (x_7272 : Int32).toInt by rw [hx_7272]; exact OutOK.skip hr0_lp_7207 (by omega) (by assumption)) (show (x_7272 : Int32).toInt ≤ n0.toInt by omega) (by omega) (hE.trans (by rw [hrec_7207])) _ _ hP hD hS ls (lv_sub hl [0, 1, 2, 3] rfl)
              have hz_7273 : (0 : Int32).toInt = 0 := rfl
              have hz_7274 : (0 : Int32).toInt = 0 := rfl
              exact lp_7207 ((9 - (0 : Int32).toInt : Int).toNat + 1) 0 0 f_5845 (by decide +kernel) (by decide +kernel) (show OutOK f_6855 v_5843 0 (0 : Int32).toInt by exact OutOK.base) (show (0 : Int32).toInt ≤ n0.toInt by omega) (Nat.lt_succ_self _) hE _ _ hP hD hS ls (lv_sub hl [0, 1, 2, 3] rfl)
            · have c_6889i := i_nle (x := n0.toInt) (y := v_6854.toInt) hrx_6888 rfl c_6889
              replace hE := hE.trans (if_neg c_6889)
              refine lv_aload_n hx hb dX12_findRings_27 rfl (lv_at hl 2 rfl) (va_get (ci := 12) (v := .ref po) (C := RX12) (T := TX12) (N := 60) hx hb hts hw12 hown hK hP 0 rfl rfl 46 (by decide +kernel) (hts _ mm_X12_findRings_876) (fun _ h9 => h9) rfl dX12_findRings_28 (lv_iload_n hx hb dX12_findRings_31 rfl (lv_at hl 0 rfl) (lv_iload_n hx hb dX12_findRings_32 rfl (lv_at hl 1 rfl) (lv_iload_n hx hb dX12_findRings_33 rfl (lv_at hl 0 rfl) (pci (va_runS (As := [.int v_5843, .int v_6854]) (rest := [.int v_6854, .ref po]) ⟨hx, hb, hml, hown, hts⟩ (v_isB l D K v_5843 v_6854 H.size (by first | omega | decide)) (va_cwS 2 hts gX12_findRings_X12_is rfl rfl rfl (by decide +kernel) ⟨Nat.le_of_ble_eq_true rfl, Nat.le_of_ble_eq_true rfl⟩) (mkS hK hN (va_P.nil) (va_D.nil (A := fun _ => True))) rfl rfl hl.1 rfl (lv_room (Nat.le_of_ble_eq_true rfl)) dX12_findRings_34 ⟨Nat.le_of_ble_eq_true rfl, Nat.le_of_ble_eq_true rfl⟩) (fun r_7275 hw => ?_))))))
              obtain ⟨⟨hw, -⟩, k_7276⟩ := hw
              replace hE := hE.trans (Lt_in k_7276)
              rcases hw with ⟨rfl, h_7277⟩ | ⟨rfl, h_7278⟩
              · replace hE := (hE).trans (if_pos rfl)
                refine lv_if_eq (tgt := 49) hx hb dX12_findRings_37 (by decide +kernel) (fun c_7279 => absurd c_7279 (by decide +kernel)) (fun c_7279 => ?_)
                refine lv_aload_n hx hb dX12_findRings_40 rfl (lv_at hl 2 rfl) (lv_iload_n hx hb dX12_findRings_41 rfl (lv_at hl 0 rfl) (lv_iload_n hx hb dX12_findRings_42 rfl (lv_at hl 1 rfl) (pci (va_runV (As := [.int v_6854, .int v_5843]) (rest := [.int v_6854, .ref po]) ⟨hx, hb, hml, hown, hts⟩ (v_pointsTo l D K m0 v_6854 v_5843 m_0 m_1 m_2 w0 m_4 m_5 m_6 m_7 m_8 m_9 m_10 m_11 m_12 m_13 m_14 m_15 m_16 m_17 m_18 m_19 m_20 m_21 m_22 m_23 m_24 m_25 m_26 m_27 m_28 m_29 m_30 m_31 m_32 m_33 m_34 m_35 m_36 m_37 m_38 m_39 m_40 m_41 m_42 m_43 m_44 (.ref go) (.ref po) m_47 m_48 m_49 m_50 m_51 m_52 m_53 m_54 m_55 m_56 m_57 m_58 m_59 fw H.size (by first | omega | decide) zfw) (cwV 2 hts gX12_findRings_X12_pointsTo rfl rfl rfl (by decide +kernel) ⟨Nat.le_of_ble_eq_true rfl, Nat.le_of_ble_eq_true rfl⟩) (mkV hK hN (hP.sub [0, 1] rfl) (hD.sub [0, 1] (by decide +kernel) rfl) (ci := 12) (q0 := 0) rfl rfl) rfl rfl hl.1 rfl (lv_room (Nat.le_of_ble_eq_true rfl)) dX12_findRings_43 ⟨Nat.le_of_ble_eq_true rfl, Nat.le_of_ble_eq_true rfl⟩) (fun r_7280 hw => ?_))))
                obtain ⟨hw, k_7281⟩ := hw
                replace hE := hE.trans (Lt_in k_7281)
                have hpt_r_7280 := hw
                rw [← hn0] at hpt_r_7280
                refine lv_goto (tgt := 50) hx hb dX12_findRings_46 (by decide +kernel) (va_iast hx hb hK hP hD hS 2 0 rfl rfl (i_in rfl (by omega)) dX12_findRings_50 (fun H locs hP0 hD0 hS0 => ?_))
                replace hP := hP0
                replace hD := hD0
                replace hS := hS0
                clear hP0 hD0 hS0
                generalize hf_7282 : (upd f_6855 (v_6854 : Int32).toNatClampNeg r_7280) = f_7282 at hP hD
                replace hE := hE.trans (Lt_in hf_7282.symm)
                replace hP : va_P D vwCl [(cc_O m0 12 [m_0, m_1, m_2, .ref w0, m_4, m_5, m_6, m_7, m_8, m_9, m_10, m_11, m_12, m_13, m_14, m_15, m_16, m_17, m_18, m_19, m_20, m_21, m_22, m_23, m_24, m_25, m_26, m_27, m_28, m_29, m_30, m_31, m_32, m_33, m_34, m_35, m_36, m_37, m_38, m_39, m_40, m_41, m_42, m_43, m_44, .ref go, .ref po, m_47, m_48, m_49, m_50, m_51, m_52, m_53, m_54, m_55, m_56, m_57, m_58, m_59]), (cc_l w0 (K 0) 5500 fw), (cc_l po (K 0) 8 f_7282), (cc_l go (K 0) 8 f_5845)] H := hP
                replace hD := as_D hP hD rfl
                obtain ⟨x_7283, ex_7283⟩ : ∃ y : Int32, y = v_6854 + Int32.ofInt 1 := ⟨_, rfl⟩
                replace hE := hE.trans (Lt_in ex_7283)
                have hx_7283 : x_7283.toInt = (v_6854.toInt + 1) := by rw [ex_7283]; exact i_add rfl (show (Int32.ofInt 1).toInt = 1 from rfl) (by omega)
                refine lv_iinc (v := x_7283) (lv' := [(2, .int x_7283), (1, .int v_5843), (0, .ref m0)]) hx hb dX12_findRings_51 hl (k := 0) rfl (by rw [ex_7283]) (by decide +kernel) rfl (fun ls hl => ?_)
                refine lv_goto (tgt := 17) hx hb dX12_findRings_54 (by decide +kernel) ?_
                exact ih_6887 x_7283 f_7282 (by rw [hx_7283]; omega) (show PtsP f_7282 v_5843 n0.toInt (x_7283 : Int32).toInt by rw [← hf_7282, i_clamp (x := v_6854) (z := v_6854.toInt) rfl, hx_7283]; exact PtsP.yes hr0_lp_6886 (by omega) (by assumption) hpt_r_7280) (show (x_7283 : Int32).toInt ≤ n0.toInt by omega) (by omega) (hE.trans (by rw [hrec_6886])) _ _ hP hD hS ls (lv_sub hl [0, 1, 2] rfl)
              · replace hE := (hE).trans (if_neg (by first | decide | (intro h9; have h8 := congrArg Int32.toInt h9; omega)))
                refine lv_if_eq (tgt := 49) hx hb dX12_findRings_37 (by decide +kernel) (fun c_7284 => ?_) (fun c_7284 => absurd (by decide +kernel) c_7284)
                refine lv_iconst (v := (-1)) hx hb dX12_findRings_49 (by decide +kernel) (va_iast hx hb hK hP hD hS 2 0 rfl rfl (i_in rfl (by omega)) dX12_findRings_50 (fun H locs hP0 hD0 hS0 => ?_))
                replace hP := hP0
                replace hD := hD0
                replace hS := hS0
                clear hP0 hD0 hS0
                generalize hf_7285 : (upd f_6855 (v_6854 : Int32).toNatClampNeg (-1)) = f_7285 at hP hD
                replace hE := hE.trans (Lt_in hf_7285.symm)
                replace hP : va_P D vwCl [(cc_O m0 12 [m_0, m_1, m_2, .ref w0, m_4, m_5, m_6, m_7, m_8, m_9, m_10, m_11, m_12, m_13, m_14, m_15, m_16, m_17, m_18, m_19, m_20, m_21, m_22, m_23, m_24, m_25, m_26, m_27, m_28, m_29, m_30, m_31, m_32, m_33, m_34, m_35, m_36, m_37, m_38, m_39, m_40, m_41, m_42, m_43, m_44, .ref go, .ref po, m_47, m_48, m_49, m_50, m_51, m_52, m_53, m_54, m_55, m_56, m_57, m_58, m_59]), (cc_l w0 (K 0) 5500 fw), (cc_l po (K 0) 8 f_7285), (cc_l go (K 0) 8 f_5845)] H := hP
                replace hD := as_D hP hD rfl
                obtain ⟨x_7286, ex_7286⟩ : ∃ y : Int32, y = v_6854 + Int32.ofInt 1 := ⟨_, rfl⟩
                replace hE := hE.trans (Lt_in ex_7286)
                have hx_7286 : x_7286.toInt = (v_6854.toInt + 1) := by rw [ex_7286]; exact i_add rfl (show (Int32.ofInt 1).toInt = 1 from rfl) (by omega)
                refine lv_iinc (v := x_7286) (lv' := [(2, .int x_7286), (1, .int v_5843), (0, .ref m0)]) hx hb dX12_findRings_51 hl (k := 0) rfl (by rw [ex_7286]) (by decide +kernel) rfl (fun ls hl => ?_)
                refine lv_goto (tgt := 17) hx hb dX12_findRings_54 (by decide +kernel) ?_
                exact ih_6887 x_7286 f_7285 (by rw [hx_7286]; omega) (show PtsP f_7285 v_5843 n0.toInt (x_7286 : Int32).toInt by rw [← hf_7285, i_clamp (x := v_6854) (z := v_6854.toInt) rfl, hx_7286]; exact PtsP.no hr0_lp_6886 (by omega) (by assumption)) (show (x_7286 : Int32).toInt ≤ n0.toInt by omega) (by omega) (hE.trans (by rw [hrec_6886])) _ _ hP hD hS ls (lv_sub hl [0, 1, 2] rfl)
        have hz_7287 : (0 : Int32).toInt = 0 := rfl
        exact lp_6886 ((9 - (0 : Int32).toInt : Int).toNat + 1) 0 f_5844 (by decide +kernel) (show PtsP f_5844 v_5843 n0.toInt (0 : Int32).toInt by exact PtsP.base) (show (0 : Int32).toInt ≤ n0.toInt by omega) (Nat.lt_succ_self _) hE _ _ hP hD hS ls (lv_sub hl [0, 1, 2] rfl)
  exact lp_6807 (((x_4881 : Int32).toInt : Int).toNat + 1) x_4881 fo fg (by rw [hx_4881]; omega) (show SubN x_4881 n0.toInt by exact SubN.base (by omega) (by rw [ex_4880, erx_4879]) ex_4881) (Nat.lt_succ_self _) hE _ _ hP hD hS ls (lv_sub hl [0, 1] rfl)
set_option maxRecDepth 100000 in
noncomputable def E_v_rings (x : Int32) (thr : Int32) (fw : Nat → Int32) (fo : Nat → Int32) (fg : Nat → Int32) : Int32 × (Nat → Int32) × (Nat → Int32) :=
  Lt (E_v_isHouse x fw) (fun r_81 => if r_81 = 1 then (Lt2 (E_v_findRings fw fo fg) (fun u_87_2_1_0 u_87_2_1_1 => Lt (u_87_2_1_1 (x : Int32).toNatClampNeg : Int32) (fun x_89 => ((x_89, u_87_2_1_0, u_87_2_1_1) : Int32 × (Nat → Int32) × (Nat → Int32))))) else ((((-1), fo, fg) : Int32 × (Nat → Int32) × (Nat → Int32))))
set_option maxHeartbeats 4000000 in
set_option maxRecDepth 100000 in
theorem v_rings (l : Launch) (D : va_G) (K : Nat → ClassId) (m0 : Nat) (x : Int32) (thr : Int32) (m_1 : Value) (m_2 : Value) (w0 : Nat) (m_4 : Value) (m_5 : Value) (m_6 : Value) (m_7 : Value) (m_8 : Value) (m_9 : Value) (m_10 : Value) (m_11 : Value) (m_12 : Value) (m_13 : Value) (m_14 : Value) (m_15 : Value) (m_16 : Value) (m_17 : Value) (m_18 : Value) (m_19 : Value) (m_20 : Value) (m_21 : Value) (m_22 : Value) (m_23 : Value) (m_24 : Value) (m_25 : Value) (m_26 : Value) (m_27 : Value) (m_28 : Value) (m_29 : Value) (m_30 : Value) (m_31 : Value) (m_32 : Value) (m_33 : Value) (m_34 : Value) (m_35 : Value) (m_36 : Value) (m_37 : Value) (m_38 : Value) (m_39 : Value) (m_40 : Value) (m_41 : Value) (m_42 : Value) (m_43 : Value) (m_44 : Value) (go : Nat) (po : Nat) (m_47 : Value) (m_48 : Value) (m_49 : Value) (m_50 : Value) (m_51 : Value) (m_52 : Value) (m_53 : Value) (m_54 : Value) (m_55 : Value) (m_56 : Value) (m_57 : Value) (m_58 : Value) (m_59 : Value) (fw : Nat → Int32) (gr : Nat → Int32) (fo : Nat → Int32) (fg : Nat → Int32) (sz : Nat) (zfw : RwOK fw) (zgr : FzM gr fw) : Met l yX12_rings wsX12_rings ({ frames := 3, cells := 0, slots := 0, locals := 71 }) (va_Pc [.ref m0, .int x] (Pre D K [(cc_O m0 12 [.int thr, m_1, m_2, .ref w0, m_4, m_5, m_6, m_7, m_8, m_9, m_10, m_11, m_12, m_13, m_14, m_15, m_16, m_17, m_18, m_19, m_20, m_21, m_22, m_23, m_24, m_25, m_26, m_27, m_28, m_29, m_30, m_31, m_32, m_33, m_34, m_35, m_36, m_37, m_38, m_39, m_40, m_41, m_42, m_43, m_44, .ref go, .ref po, m_47, m_48, m_49, m_50, m_51, m_52, m_53, m_54, m_55, m_56, m_57, m_58, m_59]), (cc_l w0 (K 0) 5500 fw), (cc_l po (K 0) 8 fo), (cc_l go (K 0) 8 fg)] sz)) (va_Qi (S := Su) (fun (r : Int32) (u : Su) => ((r, (u.2.1 0), (u.2.1 1)) = E_v_rings x thr fw fo fg) ∧ True) (fun u t => Wd D (va_A [(cc_O m0 12 [.int thr, m_1, m_2, .ref w0, m_4, m_5, m_6, m_7, m_8, m_9, m_10, m_11, m_12, m_13, m_14, m_15, m_16, m_17, m_18, m_19, m_20, m_21, m_22, m_23, m_24, m_25, m_26, m_27, m_28, m_29, m_30, m_31, m_32, m_33, m_34, m_35, m_36, m_37, m_38, m_39, m_40, m_41, m_42, m_43, m_44, .ref go, .ref po, m_47, m_48, m_49, m_50, m_51, m_52, m_53, m_54, m_55, m_56, m_57, m_58, m_59]), (cc_l w0 (K 0) 5500 fw), (cc_l po (K 0) 8 fo), (cc_l go (K 0) 8 fg)] sz) ((fun u => [(cc_O m0 12 [.int 0, m_1, m_2, .ref w0, m_4, m_5, m_6, m_7, m_8, m_9, m_10, m_11, m_12, m_13, m_14, m_15, m_16, m_17, m_18, m_19, m_20, m_21, m_22, m_23, m_24, m_25, m_26, m_27, m_28, m_29, m_30, m_31, m_32, m_33, m_34, m_35, m_36, m_37, m_38, m_39, m_40, m_41, m_42, m_43, m_44, .ref go, .ref po, m_47, m_48, m_49, m_50, m_51, m_52, m_53, m_54, m_55, m_56, m_57, m_58, m_59]), (cc_l w0 (K 0) 5500 fw), (cc_l po (K 0) 8 (u.2.1 0)), (cc_l go (K 0) 8 (u.2.1 1))]) u) t) (va_A [(cc_O m0 12 [.int thr, m_1, m_2, .ref w0, m_4, m_5, m_6, m_7, m_8, m_9, m_10, m_11, m_12, m_13, m_14, m_15, m_16, m_17, m_18, m_19, m_20, m_21, m_22, m_23, m_24, m_25, m_26, m_27, m_28, m_29, m_30, m_31, m_32, m_33, m_34, m_35, m_36, m_37, m_38, m_39, m_40, m_41, m_42, m_43, m_44, .ref go, .ref po, m_47, m_48, m_49, m_50, m_51, m_52, m_53, m_54, m_55, m_56, m_57, m_58, m_59]), (cc_l w0 (K 0) 5500 fw), (cc_l po (K 0) 8 fo), (cc_l go (K 0) 8 fg)] sz)) 0 0 (va_A [(cc_O m0 12 [.int thr, m_1, m_2, .ref w0, m_4, m_5, m_6, m_7, m_8, m_9, m_10, m_11, m_12, m_13, m_14, m_15, m_16, m_17, m_18, m_19, m_20, m_21, m_22, m_23, m_24, m_25, m_26, m_27, m_28, m_29, m_30, m_31, m_32, m_33, m_34, m_35, m_36, m_37, m_38, m_39, m_40, m_41, m_42, m_43, m_44, .ref go, .ref po, m_47, m_48, m_49, m_50, m_51, m_52, m_53, m_54, m_55, m_56, m_57, m_58, m_59]), (cc_l w0 (K 0) 5500 fw), (cc_l po (K 0) 8 fo), (cc_l go (K 0) 8 fg)] sz) := by
  refine Met.ofW (cc := cX12_rings) (maxL := 2) (ret := (some .int)) (by decide +kernel) rfl ?_
  intro p e s m args below meth c s₁ B hml hv
  obtain ⟨rfl, hsz, hP, hK, hD0, hN⟩ := hv
  have hx := B.exec
  have hb := B.bytes
  have hr := B.returns
  have hts := atoms_spec (ws := wsX12_rings) B.pre
  have hown : s.vm.findClass RX12 = some m.cls := findClass_of_methodNamed B.named
  have hlocks := B.notSynchronized
  subst hsz
  have hD := hD0.self (sz := s.heap.size)
  generalize hAe : va_A [(cc_O m0 12 [.int thr, m_1, m_2, .ref w0, m_4, m_5, m_6, m_7, m_8, m_9, m_10, m_11, m_12, m_13, m_14, m_15, m_16, m_17, m_18, m_19, m_20, m_21, m_22, m_23, m_24, m_25, m_26, m_27, m_28, m_29, m_30, m_31, m_32, m_33, m_34, m_35, m_36, m_37, m_38, m_39, m_40, m_41, m_42, m_43, m_44, .ref go, .ref po, m_47, m_48, m_49, m_50, m_51, m_52, m_53, m_54, m_55, m_56, m_57, m_58, m_59]), (cc_l w0 (K 0) 5500 fw), (cc_l po (K 0) 8 fo), (cc_l go (K 0) 8 fg)] s.heap.size = A at hD ⊢
  have hA : ∀ q : Nat, s.heap.size ≤ q → A q := fun q h => by rw [← hAe]; exact Or.inr h
  clear hAe
  have hS : va_S A s.heap s.heap [] := va_S.rf
  replace hP : va_P D vwCl [(cc_O m0 12 [.int thr, m_1, m_2, .ref w0, m_4, m_5, m_6, m_7, m_8, m_9, m_10, m_11, m_12, m_13, m_14, m_15, m_16, m_17, m_18, m_19, m_20, m_21, m_22, m_23, m_24, m_25, m_26, m_27, m_28, m_29, m_30, m_31, m_32, m_33, m_34, m_35, m_36, m_37, m_38, m_39, m_40, m_41, m_42, m_43, m_44, .ref go, .ref po, m_47, m_48, m_49, m_50, m_51, m_52, m_53, m_54, m_55, m_56, m_57, m_58, m_59]), (cc_l w0 (K 0) 5500 fw), (cc_l po (K 0) 8 fo), (cc_l go (K 0) 8 fg)] s.heap := hP
  have hl := lv_entry [.ref m0, .int x] (n := 2) (Nat.le_of_ble_eq_true rfl)
  rw [lg_entry_eq]
  generalize (lg_sl [.ref m0, .int x] ++ List.replicate (2 - (lg_sl [.ref m0, .int x]).length) Slot.unset).toArray = ls at hl ⊢
  have hl : lv_has ls 2 [(0, .ref m0), (1, .int x)] := hl
  have hw12 : ∀ w ∈ wsX120, w ∈ wsX12_rings := fun w h => (List.mem_cons_of_mem _ (List.mem_append_right _ h))
  generalize hQ : MQ below _ _ s _ _ _ = Q
  have hE := E_v_rings.eq_def x thr fw fo fg
  refine lv_aload_n hx hb dX12_rings_0 rfl (lv_at hl 0 rfl) (lv_iconst (v := 0) hx hb dX12_rings_1 (by decide +kernel) (va_put (ci := 12) (v := .int 0) (ty := .int) (C := RX12) (T := TX12) (N := 60) hx hb hts hw12 tyX12 tyX12_ok nmX12 hown hK hP hD hS 0 rfl rfl 0 (by decide +kernel) (hts _ mm_X12_rings_830) (fun _ h9 => h9) rfl (by decide +kernel) (by first | rfl | decide) (by first | rfl | decide) (Nat.le_of_ble_eq_true rfl) dX12_rings_2 (fun H locs hP0 hD0 hS0 => ?_)))
  replace hP : va_P D vwCl [(cc_O m0 12 [.int 0, m_1, m_2, .ref w0, m_4, m_5, m_6, m_7, m_8, m_9, m_10, m_11, m_12, m_13, m_14, m_15, m_16, m_17, m_18, m_19, m_20, m_21, m_22, m_23, m_24, m_25, m_26, m_27, m_28, m_29, m_30, m_31, m_32, m_33, m_34, m_35, m_36, m_37, m_38, m_39, m_40, m_41, m_42, m_43, m_44, .ref go, .ref po, m_47, m_48, m_49, m_50, m_51, m_52, m_53, m_54, m_55, m_56, m_57, m_58, m_59]), (cc_l w0 (K 0) 5500 fw), (cc_l po (K 0) 8 fo), (cc_l go (K 0) 8 fg)] H := hP0
  replace hD := as_D hP hD0 rfl
  replace hS := hS0
  clear hP0 hD0 hS0
  refine lv_aload_n hx hb dX12_rings_5 rfl (lv_at hl 0 rfl) (lv_iload_n hx hb dX12_rings_6 rfl (lv_at hl 1 rfl) (pci (va_runV (As := [.int x]) (rest := []) ⟨hx, hb, hml, hown, hts⟩ (v_isHouse l D K x.toInt m0 x (.int 0) m_1 m_2 w0 m_4 m_5 m_6 m_7 m_8 m_9 m_10 m_11 m_12 m_13 m_14 m_15 m_16 m_17 m_18 m_19 m_20 m_21 m_22 m_23 m_24 m_25 m_26 m_27 m_28 m_29 m_30 m_31 m_32 m_33 m_34 m_35 m_36 m_37 m_38 m_39 m_40 m_41 m_42 m_43 m_44 (.ref go) (.ref po) m_47 m_48 m_49 m_50 m_51 m_52 m_53 m_54 m_55 m_56 m_57 m_58 m_59 fw H.size rfl zfw) (cwV 1 hts gX12_rings_X12_isHouse rfl rfl rfl (by decide +kernel) ⟨Nat.le_of_ble_eq_true rfl, Nat.le_of_ble_eq_true rfl⟩) (mkV hK hN (hP.sub [0, 1] rfl) (hD.sub [0, 1] (by decide +kernel) rfl) (ci := 12) (q0 := 0) rfl rfl) rfl rfl hl.1 rfl (lv_room (Nat.le_of_ble_eq_true rfl)) dX12_rings_7 ⟨Nat.le_of_ble_eq_true rfl, Nat.le_of_ble_eq_true rfl⟩) (fun r_81 hw => ?_)))
  obtain ⟨hw, k_82, -⟩ := hw
  replace hE := hE.trans (Lt_in k_82)
  rcases hw with ⟨rfl, h_83, h_84⟩ | rfl
  · replace hE := (hE).trans (if_pos rfl)
    refine lv_if_ne (tgt := 15) hx hb dX12_rings_10 (by decide +kernel) (fun c_85 => ?_) (fun c_85 => absurd c_85 (by decide +kernel))
    refine lv_aload_n hx hb dX12_rings_15 rfl (lv_at hl 0 rfl) (kcv (S := Su) (wr := []) (va_runV (As := []) (rest := []) ⟨hx, hb, hml, hown, hts⟩ (v_findRings l D K m0 (.int 0) m_1 m_2 w0 m_4 m_5 m_6 m_7 m_8 m_9 m_10 m_11 m_12 m_13 m_14 m_15 m_16 m_17 m_18 m_19 m_20 m_21 m_22 m_23 m_24 m_25 m_26 m_27 m_28 m_29 m_30 m_31 m_32 m_33 m_34 m_35 m_36 m_37 m_38 m_39 m_40 m_41 m_42 m_43 m_44 go po m_47 m_48 m_49 m_50 m_51 m_52 m_53 m_54 m_55 m_56 m_57 m_58 m_59 fw gr fo fg H.size zfw zgr) (cwV 0 hts gX12_rings_X12_findRings rfl rfl rfl (by decide +kernel) ⟨Nat.le_of_ble_eq_true rfl, Nat.le_of_ble_eq_true rfl⟩) (mkV hK hN (hP.sub [0, 1, 2, 3] rfl) (hD.sub [0, 1, 2, 3] (by decide +kernel) rfl) (ci := 12) (q0 := 0) rfl rfl) rfl rfl hl.1 rfl (lv_room (Nat.le_of_ble_eq_true rfl)) dX12_rings_16 ⟨Nat.le_of_ble_eq_true rfl, Nat.le_of_ble_eq_true rfl⟩) hP hD hS hA [0, 1, 2, 3] [] rfl rfl (by decide +kernel) (by decide +kernel) (fun u_87 H locs hw hP0 hD0 hS0 => ?_))
    replace hP : va_P D vwCl [(cc_O m0 12 [.int 0, m_1, m_2, .ref w0, m_4, m_5, m_6, m_7, m_8, m_9, m_10, m_11, m_12, m_13, m_14, m_15, m_16, m_17, m_18, m_19, m_20, m_21, m_22, m_23, m_24, m_25, m_26, m_27, m_28, m_29, m_30, m_31, m_32, m_33, m_34, m_35, m_36, m_37, m_38, m_39, m_40, m_41, m_42, m_43, m_44, .ref go, .ref po, m_47, m_48, m_49, m_50, m_51, m_52, m_53, m_54, m_55, m_56, m_57, m_58, m_59]), (cc_l w0 (K 0) 5500 fw), (cc_l po (K 0) 8 (u_87.2.1 0)), (cc_l go (K 0) 8 (u_87.2.1 1))] H := hP0
    replace hD := as_D hP hD0 rfl
    replace hS := hS0
    clear hP0 hD0 hS0
    obtain ⟨k_88, -⟩ := hw
    replace hE := hE.trans (Lt2_in k_88)
    refine lv_aload_n hx hb dX12_rings_19 rfl (lv_at hl 0 rfl) (va_get (ci := 12) (v := .ref go) (C := RX12) (T := TX12) (N := 60) hx hb hts hw12 hown hK hP 0 rfl rfl 45 (by decide +kernel) (hts _ mm_X12_rings_875) (fun _ h9 => h9) rfl dX12_rings_20 (lv_iload_n hx hb dX12_rings_23 rfl (lv_at hl 1 rfl) (va_iald hx hb hK hP 3 0 rfl rfl (i_in rfl (by omega)) dX12_rings_24 (lv_topi (fun x_89 ex_89 => ?_)))))
    replace hE := hE.trans (Lt_in ex_89)
    rw [← hQ]
    have hP9 := hP.sub (ws' := [(cc_O m0 12 [.int 0, m_1, m_2, .ref w0, m_4, m_5, m_6, m_7, m_8, m_9, m_10, m_11, m_12, m_13, m_14, m_15, m_16, m_17, m_18, m_19, m_20, m_21, m_22, m_23, m_24, m_25, m_26, m_27, m_28, m_29, m_30, m_31, m_32, m_33, m_34, m_35, m_36, m_37, m_38, m_39, m_40, m_41, m_42, m_43, m_44, .ref go, .ref po, m_47, m_48, m_49, m_50, m_51, m_52, m_53, m_54, m_55, m_56, m_57, m_58, m_59]), (cc_l w0 (K 0) 5500 fw), (cc_l po (K 0) 8 (u_87.2.1 0)), (cc_l go (K 0) 8 (u_87.2.1 1))]) [0, 1, 2, 3] rfl
    have hD9 := sub_D hP9 hD [0, 1, 2, 3] (by decide +kernel) rfl
    exact W.iret (v := x_89) hx hb hr (fun t ht hW => ⟨⟨x_89, ((fun _ => 0, fun i => match i with | 0 => (u_87.2.1 0) | _ => (u_87.2.1 1), fun _ => fun _ => 0, fun _ => 0, fun _ => 0, fun _ => fun _ => none) : Su), rfl, ⟨hE.symm, trivial⟩, (⟨by rw [ht]; exact hP9, hD9⟩ : Wd D A _ t)⟩, hS.F ht⟩) hS.2.2 dX12_rings_25
  · replace hE := (hE).trans (if_neg (by first | decide | (intro h9; have h8 := congrArg Int32.toInt h9; omega)))
    refine lv_if_ne (tgt := 15) hx hb dX12_rings_10 (by decide +kernel) (fun c_90 => absurd (by decide +kernel) c_90) (fun c_90 => ?_)
    refine lv_iconst (v := (-1)) hx hb dX12_rings_13 (by decide +kernel) ?_
    rw [← hQ]
    have hP9 := hP.sub (ws' := [(cc_O m0 12 [.int 0, m_1, m_2, .ref w0, m_4, m_5, m_6, m_7, m_8, m_9, m_10, m_11, m_12, m_13, m_14, m_15, m_16, m_17, m_18, m_19, m_20, m_21, m_22, m_23, m_24, m_25, m_26, m_27, m_28, m_29, m_30, m_31, m_32, m_33, m_34, m_35, m_36, m_37, m_38, m_39, m_40, m_41, m_42, m_43, m_44, .ref go, .ref po, m_47, m_48, m_49, m_50, m_51, m_52, m_53, m_54, m_55, m_56, m_57, m_58, m_59]), (cc_l w0 (K 0) 5500 fw), (cc_l po (K 0) 8 fo), (cc_l go (K 0) 8 fg)]) [0, 1, 2, 3] rfl
    have hD9 := sub_D hP9 hD [0, 1, 2, 3] (by decide +kernel) rfl
    exact W.iret (v := (-1)) hx hb hr (fun t ht hW => ⟨⟨(-1), ((fun _ => 0, fun i => match i with | 0 => fo | _ => fg, fun _ => fun _ => 0, fun _ => 0, fun _ => 0, fun _ => fun _ => none) : Su), rfl, ⟨hE.symm, trivial⟩, (⟨by rw [ht]; exact hP9, hD9⟩ : Wd D A _ t)⟩, hS.F ht⟩) hS.2.2 dX12_rings_14
