theorem BX10_kindle_0 : bsegs (ByteArray.data cX10_kindle |>.toList.drop 0) 0 [(0, [43]), (1, [28]), (2, [182, 0, 18]), (5, [154, 0, 6]), (8, [16, 254]), (10, [172]), (11, [43]), (12, [28]), (13, [5]), (14, [182, 0, 24]), (17, [62]), (18, [43]), (19, [28]), (20, [8]), (21, [182, 0, 24]), (24, [54, 4]), (26, [42]), (27, [180, 0, 12]), (30, [43]), (31, [28]), (32, [21, 4]), (34, [3]), (35, [182, 0, 28]), (38, [29])] = true := by decide +kernel
theorem dX10_kindle_0 : decode cX10_kindle 0 = .ok (.aload_n 1, 1) := dk_43 (bs_at BX10_kindle_0 0 rfl)
theorem dX10_kindle_1 : decode cX10_kindle 1 = .ok (.iload_n 2, 1) := dk_28 (bs_at BX10_kindle_0 1 rfl)
theorem dX10_kindle_2 : decode cX10_kindle 2 = .ok (.invokevirtual 18, 3) := dk_182 0 18 (bs_at BX10_kindle_0 2 rfl) rfl
theorem dX10_kindle_5 : decode cX10_kindle 5 = .ok (.ifCond .ne 6, 3) := dk_154 0 6 (bs_at BX10_kindle_0 3 rfl) rfl
theorem dX10_kindle_8 : decode cX10_kindle 8 = .ok (.bipush (-2), 2) := dk_16 254 (bs_at BX10_kindle_0 4 rfl) rfl
theorem dX10_kindle_10 : decode cX10_kindle 10 = .ok (.ireturn, 1) := dk_172 (bs_at BX10_kindle_0 5 rfl)
theorem dX10_kindle_11 : decode cX10_kindle 11 = .ok (.aload_n 1, 1) := dk_43 (bs_at BX10_kindle_0 6 rfl)
theorem dX10_kindle_12 : decode cX10_kindle 12 = .ok (.iload_n 2, 1) := dk_28 (bs_at BX10_kindle_0 7 rfl)
theorem dX10_kindle_13 : decode cX10_kindle 13 = .ok (.iconst 2, 1) := dk_5 (bs_at BX10_kindle_0 8 rfl)
theorem dX10_kindle_14 : decode cX10_kindle 14 = .ok (.invokevirtual 24, 3) := dk_182 0 24 (bs_at BX10_kindle_0 9 rfl) rfl
theorem dX10_kindle_17 : decode cX10_kindle 17 = .ok (.istore_n 3, 1) := dk_62 (bs_at BX10_kindle_0 10 rfl)
theorem dX10_kindle_18 : decode cX10_kindle 18 = .ok (.aload_n 1, 1) := dk_43 (bs_at BX10_kindle_0 11 rfl)
theorem dX10_kindle_19 : decode cX10_kindle 19 = .ok (.iload_n 2, 1) := dk_28 (bs_at BX10_kindle_0 12 rfl)
theorem dX10_kindle_20 : decode cX10_kindle 20 = .ok (.iconst 5, 1) := dk_8 (bs_at BX10_kindle_0 13 rfl)
theorem dX10_kindle_21 : decode cX10_kindle 21 = .ok (.invokevirtual 24, 3) := dk_182 0 24 (bs_at BX10_kindle_0 14 rfl) rfl
theorem dX10_kindle_24 : decode cX10_kindle 24 = .ok (.istore 4, 2) := dk_54 4 (bs_at BX10_kindle_0 15 rfl)
theorem dX10_kindle_26 : decode cX10_kindle 26 = .ok (.aload_n 0, 1) := dk_42 (bs_at BX10_kindle_0 16 rfl)
theorem dX10_kindle_27 : decode cX10_kindle 27 = .ok (.getfield 12, 3) := dk_180 0 12 (bs_at BX10_kindle_0 17 rfl) rfl
theorem dX10_kindle_30 : decode cX10_kindle 30 = .ok (.aload_n 1, 1) := dk_43 (bs_at BX10_kindle_0 18 rfl)
theorem dX10_kindle_31 : decode cX10_kindle 31 = .ok (.iload_n 2, 1) := dk_28 (bs_at BX10_kindle_0 19 rfl)
theorem dX10_kindle_32 : decode cX10_kindle 32 = .ok (.iload 4, 2) := dk_21 4 (bs_at BX10_kindle_0 20 rfl)
theorem dX10_kindle_34 : decode cX10_kindle 34 = .ok (.iconst 0, 1) := dk_3 (bs_at BX10_kindle_0 21 rfl)
theorem dX10_kindle_35 : decode cX10_kindle 35 = .ok (.invokevirtual 28, 3) := dk_182 0 28 (bs_at BX10_kindle_0 22 rfl) rfl
theorem dX10_kindle_38 : decode cX10_kindle 38 = .ok (.iload_n 3, 1) := dk_29 (bs_at BX10_kindle_0 23 rfl)
theorem BX10_kindle_39 : bsegs (ByteArray.data cX10_kindle |>.toList.drop 39) 39 [(39, [4]), (40, [161, 0, 19]), (43, [42]), (44, [180, 0, 12]), (47, [43]), (48, [182, 0, 32]), (51, [6]), (52, [182, 0, 36]), (55, [4]), (56, [160, 0, 6]), (59, [16, 253]), (61, [172]), (62, [16, 20]), (64, [21, 4]), (66, [42]), (67, [180, 0, 12]), (70, [43]), (71, [182, 0, 32]), (74, [4]), (75, [182, 0, 36]), (78, [96]), (79, [184, 0, 40]), (82, [54, 5]), (84, [43])] = true := by decide +kernel
theorem dX10_kindle_39 : decode cX10_kindle 39 = .ok (.iconst 1, 1) := dk_4 (bs_at BX10_kindle_39 0 rfl)
theorem dX10_kindle_40 : decode cX10_kindle 40 = .ok (.if_icmp .lt 19, 3) := dk_161 0 19 (bs_at BX10_kindle_39 1 rfl) rfl
theorem dX10_kindle_43 : decode cX10_kindle 43 = .ok (.aload_n 0, 1) := dk_42 (bs_at BX10_kindle_39 2 rfl)
theorem dX10_kindle_44 : decode cX10_kindle 44 = .ok (.getfield 12, 3) := dk_180 0 12 (bs_at BX10_kindle_39 3 rfl) rfl
theorem dX10_kindle_47 : decode cX10_kindle 47 = .ok (.aload_n 1, 1) := dk_43 (bs_at BX10_kindle_39 4 rfl)
theorem dX10_kindle_48 : decode cX10_kindle 48 = .ok (.invokevirtual 32, 3) := dk_182 0 32 (bs_at BX10_kindle_39 5 rfl) rfl
theorem dX10_kindle_51 : decode cX10_kindle 51 = .ok (.iconst 3, 1) := dk_6 (bs_at BX10_kindle_39 6 rfl)
theorem dX10_kindle_52 : decode cX10_kindle 52 = .ok (.invokevirtual 36, 3) := dk_182 0 36 (bs_at BX10_kindle_39 7 rfl) rfl
theorem dX10_kindle_55 : decode cX10_kindle 55 = .ok (.iconst 1, 1) := dk_4 (bs_at BX10_kindle_39 8 rfl)
theorem dX10_kindle_56 : decode cX10_kindle 56 = .ok (.if_icmp .ne 6, 3) := dk_160 0 6 (bs_at BX10_kindle_39 9 rfl) rfl
theorem dX10_kindle_59 : decode cX10_kindle 59 = .ok (.bipush (-3), 2) := dk_16 253 (bs_at BX10_kindle_39 10 rfl) rfl
theorem dX10_kindle_61 : decode cX10_kindle 61 = .ok (.ireturn, 1) := dk_172 (bs_at BX10_kindle_39 11 rfl)
theorem dX10_kindle_62 : decode cX10_kindle 62 = .ok (.bipush 20, 2) := dk_16 20 (bs_at BX10_kindle_39 12 rfl) rfl
theorem dX10_kindle_64 : decode cX10_kindle 64 = .ok (.iload 4, 2) := dk_21 4 (bs_at BX10_kindle_39 13 rfl)
theorem dX10_kindle_66 : decode cX10_kindle 66 = .ok (.aload_n 0, 1) := dk_42 (bs_at BX10_kindle_39 14 rfl)
theorem dX10_kindle_67 : decode cX10_kindle 67 = .ok (.getfield 12, 3) := dk_180 0 12 (bs_at BX10_kindle_39 15 rfl) rfl
theorem dX10_kindle_70 : decode cX10_kindle 70 = .ok (.aload_n 1, 1) := dk_43 (bs_at BX10_kindle_39 16 rfl)
theorem dX10_kindle_71 : decode cX10_kindle 71 = .ok (.invokevirtual 32, 3) := dk_182 0 32 (bs_at BX10_kindle_39 17 rfl) rfl
theorem dX10_kindle_74 : decode cX10_kindle 74 = .ok (.iconst 1, 1) := dk_4 (bs_at BX10_kindle_39 18 rfl)
theorem dX10_kindle_75 : decode cX10_kindle 75 = .ok (.invokevirtual 36, 3) := dk_182 0 36 (bs_at BX10_kindle_39 19 rfl) rfl
theorem dX10_kindle_78 : decode cX10_kindle 78 = .ok (.iadd, 1) := dk_96 (bs_at BX10_kindle_39 20 rfl)
theorem dX10_kindle_79 : decode cX10_kindle 79 = .ok (.invokestatic 40, 3) := dk_184 0 40 (bs_at BX10_kindle_39 21 rfl) rfl
theorem dX10_kindle_82 : decode cX10_kindle 82 = .ok (.istore 5, 2) := dk_54 5 (bs_at BX10_kindle_39 22 rfl)
theorem dX10_kindle_84 : decode cX10_kindle 84 = .ok (.aload_n 1, 1) := dk_43 (bs_at BX10_kindle_39 23 rfl)
theorem BX10_kindle_85 : bsegs (ByteArray.data cX10_kindle |>.toList.drop 85) 85 [(85, [28]), (86, [5]), (87, [29]), (88, [4]), (89, [100]), (90, [182, 0, 45]), (93, [43]), (94, [28]), (95, [8]), (96, [21, 5]), (98, [182, 0, 45]), (101, [21, 5]), (103, [172])] = true := by decide +kernel
theorem dX10_kindle_85 : decode cX10_kindle 85 = .ok (.iload_n 2, 1) := dk_28 (bs_at BX10_kindle_85 0 rfl)
theorem dX10_kindle_86 : decode cX10_kindle 86 = .ok (.iconst 2, 1) := dk_5 (bs_at BX10_kindle_85 1 rfl)
theorem dX10_kindle_87 : decode cX10_kindle 87 = .ok (.iload_n 3, 1) := dk_29 (bs_at BX10_kindle_85 2 rfl)
theorem dX10_kindle_88 : decode cX10_kindle 88 = .ok (.iconst 1, 1) := dk_4 (bs_at BX10_kindle_85 3 rfl)
theorem dX10_kindle_89 : decode cX10_kindle 89 = .ok (.isub, 1) := dk_100 (bs_at BX10_kindle_85 4 rfl)
theorem dX10_kindle_90 : decode cX10_kindle 90 = .ok (.invokevirtual 45, 3) := dk_182 0 45 (bs_at BX10_kindle_85 5 rfl) rfl
theorem dX10_kindle_93 : decode cX10_kindle 93 = .ok (.aload_n 1, 1) := dk_43 (bs_at BX10_kindle_85 6 rfl)
theorem dX10_kindle_94 : decode cX10_kindle 94 = .ok (.iload_n 2, 1) := dk_28 (bs_at BX10_kindle_85 7 rfl)
theorem dX10_kindle_95 : decode cX10_kindle 95 = .ok (.iconst 5, 1) := dk_8 (bs_at BX10_kindle_85 8 rfl)
theorem dX10_kindle_96 : decode cX10_kindle 96 = .ok (.iload 5, 2) := dk_21 5 (bs_at BX10_kindle_85 9 rfl)
theorem dX10_kindle_98 : decode cX10_kindle 98 = .ok (.invokevirtual 45, 3) := dk_182 0 45 (bs_at BX10_kindle_85 10 rfl) rfl
theorem dX10_kindle_101 : decode cX10_kindle 101 = .ok (.iload 5, 2) := dk_21 5 (bs_at BX10_kindle_85 11 rfl)
theorem dX10_kindle_103 : decode cX10_kindle 103 = .ok (.ireturn, 1) := dk_172 (bs_at BX10_kindle_85 12 rfl)
theorem BX10_quench_0 : bsegs (ByteArray.data cX10_quench |>.toList.drop 0) 0 [(0, [29]), (1, [4]), (2, [16, 20]), (4, [184, 0, 49]), (7, [154, 0, 5]), (10, [2]), (11, [172]), (12, [43]), (13, [28]), (14, [182, 0, 18]), (17, [154, 0, 6]), (20, [16, 254]), (22, [172]), (23, [3]), (24, [43]), (25, [28]), (26, [8]), (27, [182, 0, 24]), (30, [29]), (31, [100]), (32, [184, 0, 53]), (35, [54, 4]), (37, [43]), (38, [28])] = true := by decide +kernel
theorem dX10_quench_0 : decode cX10_quench 0 = .ok (.iload_n 3, 1) := dk_29 (bs_at BX10_quench_0 0 rfl)
theorem dX10_quench_1 : decode cX10_quench 1 = .ok (.iconst 1, 1) := dk_4 (bs_at BX10_quench_0 1 rfl)
theorem dX10_quench_2 : decode cX10_quench 2 = .ok (.bipush 20, 2) := dk_16 20 (bs_at BX10_quench_0 2 rfl) rfl
theorem dX10_quench_4 : decode cX10_quench 4 = .ok (.invokestatic 49, 3) := dk_184 0 49 (bs_at BX10_quench_0 3 rfl) rfl
theorem dX10_quench_7 : decode cX10_quench 7 = .ok (.ifCond .ne 5, 3) := dk_154 0 5 (bs_at BX10_quench_0 4 rfl) rfl
theorem dX10_quench_10 : decode cX10_quench 10 = .ok (.iconst (-1), 1) := dk_2 (bs_at BX10_quench_0 5 rfl)
theorem dX10_quench_11 : decode cX10_quench 11 = .ok (.ireturn, 1) := dk_172 (bs_at BX10_quench_0 6 rfl)
theorem dX10_quench_12 : decode cX10_quench 12 = .ok (.aload_n 1, 1) := dk_43 (bs_at BX10_quench_0 7 rfl)
theorem dX10_quench_13 : decode cX10_quench 13 = .ok (.iload_n 2, 1) := dk_28 (bs_at BX10_quench_0 8 rfl)
theorem dX10_quench_14 : decode cX10_quench 14 = .ok (.invokevirtual 18, 3) := dk_182 0 18 (bs_at BX10_quench_0 9 rfl) rfl
theorem dX10_quench_17 : decode cX10_quench 17 = .ok (.ifCond .ne 6, 3) := dk_154 0 6 (bs_at BX10_quench_0 10 rfl) rfl
theorem dX10_quench_20 : decode cX10_quench 20 = .ok (.bipush (-2), 2) := dk_16 254 (bs_at BX10_quench_0 11 rfl) rfl
theorem dX10_quench_22 : decode cX10_quench 22 = .ok (.ireturn, 1) := dk_172 (bs_at BX10_quench_0 12 rfl)
theorem dX10_quench_23 : decode cX10_quench 23 = .ok (.iconst 0, 1) := dk_3 (bs_at BX10_quench_0 13 rfl)
theorem dX10_quench_24 : decode cX10_quench 24 = .ok (.aload_n 1, 1) := dk_43 (bs_at BX10_quench_0 14 rfl)
theorem dX10_quench_25 : decode cX10_quench 25 = .ok (.iload_n 2, 1) := dk_28 (bs_at BX10_quench_0 15 rfl)
theorem dX10_quench_26 : decode cX10_quench 26 = .ok (.iconst 5, 1) := dk_8 (bs_at BX10_quench_0 16 rfl)
theorem dX10_quench_27 : decode cX10_quench 27 = .ok (.invokevirtual 24, 3) := dk_182 0 24 (bs_at BX10_quench_0 17 rfl) rfl
theorem dX10_quench_30 : decode cX10_quench 30 = .ok (.iload_n 3, 1) := dk_29 (bs_at BX10_quench_0 18 rfl)
theorem dX10_quench_31 : decode cX10_quench 31 = .ok (.isub, 1) := dk_100 (bs_at BX10_quench_0 19 rfl)
theorem dX10_quench_32 : decode cX10_quench 32 = .ok (.invokestatic 53, 3) := dk_184 0 53 (bs_at BX10_quench_0 20 rfl) rfl
theorem dX10_quench_35 : decode cX10_quench 35 = .ok (.istore 4, 2) := dk_54 4 (bs_at BX10_quench_0 21 rfl)
theorem dX10_quench_37 : decode cX10_quench 37 = .ok (.aload_n 1, 1) := dk_43 (bs_at BX10_quench_0 22 rfl)
theorem dX10_quench_38 : decode cX10_quench 38 = .ok (.iload_n 2, 1) := dk_28 (bs_at BX10_quench_0 23 rfl)
theorem BX10_quench_39 : bsegs (ByteArray.data cX10_quench |>.toList.drop 39) 39 [(39, [8]), (40, [21, 4]), (42, [182, 0, 45]), (45, [21, 4]), (47, [172])] = true := by decide +kernel
theorem dX10_quench_39 : decode cX10_quench 39 = .ok (.iconst 5, 1) := dk_8 (bs_at BX10_quench_39 0 rfl)
theorem dX10_quench_40 : decode cX10_quench 40 = .ok (.iload 4, 2) := dk_21 4 (bs_at BX10_quench_39 1 rfl)
theorem dX10_quench_42 : decode cX10_quench 42 = .ok (.invokevirtual 45, 3) := dk_182 0 45 (bs_at BX10_quench_39 2 rfl) rfl
theorem dX10_quench_45 : decode cX10_quench 45 = .ok (.iload 4, 2) := dk_21 4 (bs_at BX10_quench_39 3 rfl)
theorem dX10_quench_47 : decode cX10_quench 47 = .ok (.ireturn, 1) := dk_172 (bs_at BX10_quench_39 4 rfl)
theorem BX10_supply_0 : bsegs (ByteArray.data cX10_supply |>.toList.drop 0) 0 [(0, [29]), (1, [4]), (2, [17, 3, 231]), (5, [184, 0, 49]), (8, [154, 0, 5]), (11, [2]), (12, [172]), (13, [43]), (14, [28]), (15, [182, 0, 18]), (18, [154, 0, 6]), (21, [16, 254]), (23, [172]), (24, [17, 3, 231]), (27, [43]), (28, [28]), (29, [5]), (30, [182, 0, 24]), (33, [29]), (34, [96]), (35, [184, 0, 40]), (38, [54, 4]), (40, [43]), (41, [28])] = true := by decide +kernel
theorem dX10_supply_0 : decode cX10_supply 0 = .ok (.iload_n 3, 1) := dk_29 (bs_at BX10_supply_0 0 rfl)
theorem dX10_supply_1 : decode cX10_supply 1 = .ok (.iconst 1, 1) := dk_4 (bs_at BX10_supply_0 1 rfl)
theorem dX10_supply_2 : decode cX10_supply 2 = .ok (.sipush 999, 3) := dk_17 3 231 (bs_at BX10_supply_0 2 rfl) rfl
theorem dX10_supply_5 : decode cX10_supply 5 = .ok (.invokestatic 49, 3) := dk_184 0 49 (bs_at BX10_supply_0 3 rfl) rfl
theorem dX10_supply_8 : decode cX10_supply 8 = .ok (.ifCond .ne 5, 3) := dk_154 0 5 (bs_at BX10_supply_0 4 rfl) rfl
theorem dX10_supply_11 : decode cX10_supply 11 = .ok (.iconst (-1), 1) := dk_2 (bs_at BX10_supply_0 5 rfl)
theorem dX10_supply_12 : decode cX10_supply 12 = .ok (.ireturn, 1) := dk_172 (bs_at BX10_supply_0 6 rfl)
theorem dX10_supply_13 : decode cX10_supply 13 = .ok (.aload_n 1, 1) := dk_43 (bs_at BX10_supply_0 7 rfl)
theorem dX10_supply_14 : decode cX10_supply 14 = .ok (.iload_n 2, 1) := dk_28 (bs_at BX10_supply_0 8 rfl)
theorem dX10_supply_15 : decode cX10_supply 15 = .ok (.invokevirtual 18, 3) := dk_182 0 18 (bs_at BX10_supply_0 9 rfl) rfl
theorem dX10_supply_18 : decode cX10_supply 18 = .ok (.ifCond .ne 6, 3) := dk_154 0 6 (bs_at BX10_supply_0 10 rfl) rfl
theorem dX10_supply_21 : decode cX10_supply 21 = .ok (.bipush (-2), 2) := dk_16 254 (bs_at BX10_supply_0 11 rfl) rfl
theorem dX10_supply_23 : decode cX10_supply 23 = .ok (.ireturn, 1) := dk_172 (bs_at BX10_supply_0 12 rfl)
theorem dX10_supply_24 : decode cX10_supply 24 = .ok (.sipush 999, 3) := dk_17 3 231 (bs_at BX10_supply_0 13 rfl) rfl
theorem dX10_supply_27 : decode cX10_supply 27 = .ok (.aload_n 1, 1) := dk_43 (bs_at BX10_supply_0 14 rfl)
theorem dX10_supply_28 : decode cX10_supply 28 = .ok (.iload_n 2, 1) := dk_28 (bs_at BX10_supply_0 15 rfl)
theorem dX10_supply_29 : decode cX10_supply 29 = .ok (.iconst 2, 1) := dk_5 (bs_at BX10_supply_0 16 rfl)
theorem dX10_supply_30 : decode cX10_supply 30 = .ok (.invokevirtual 24, 3) := dk_182 0 24 (bs_at BX10_supply_0 17 rfl) rfl
theorem dX10_supply_33 : decode cX10_supply 33 = .ok (.iload_n 3, 1) := dk_29 (bs_at BX10_supply_0 18 rfl)
theorem dX10_supply_34 : decode cX10_supply 34 = .ok (.iadd, 1) := dk_96 (bs_at BX10_supply_0 19 rfl)
theorem dX10_supply_35 : decode cX10_supply 35 = .ok (.invokestatic 40, 3) := dk_184 0 40 (bs_at BX10_supply_0 20 rfl) rfl
theorem dX10_supply_38 : decode cX10_supply 38 = .ok (.istore 4, 2) := dk_54 4 (bs_at BX10_supply_0 21 rfl)
theorem dX10_supply_40 : decode cX10_supply 40 = .ok (.aload_n 1, 1) := dk_43 (bs_at BX10_supply_0 22 rfl)
theorem dX10_supply_41 : decode cX10_supply 41 = .ok (.iload_n 2, 1) := dk_28 (bs_at BX10_supply_0 23 rfl)
theorem BX10_supply_42 : bsegs (ByteArray.data cX10_supply |>.toList.drop 42) 42 [(42, [5]), (43, [21, 4]), (45, [182, 0, 45]), (48, [21, 4]), (50, [172])] = true := by decide +kernel
theorem dX10_supply_42 : decode cX10_supply 42 = .ok (.iconst 2, 1) := dk_5 (bs_at BX10_supply_42 0 rfl)
theorem dX10_supply_43 : decode cX10_supply 43 = .ok (.iload 4, 2) := dk_21 4 (bs_at BX10_supply_42 1 rfl)
theorem dX10_supply_45 : decode cX10_supply 45 = .ok (.invokevirtual 45, 3) := dk_182 0 45 (bs_at BX10_supply_42 2 rfl) rfl
theorem dX10_supply_48 : decode cX10_supply 48 = .ok (.iload 4, 2) := dk_21 4 (bs_at BX10_supply_42 3 rfl)
theorem dX10_supply_50 : decode cX10_supply 50 = .ok (.ireturn, 1) := dk_172 (bs_at BX10_supply_42 4 rfl)
theorem ggX10_kindle_X9_has : GoodIn wsX10_kindle wsX9_has := gi_ch ch_X10_kindle ch_X9_has (by decide +kernel)
set_option maxRecDepth 20000 in
theorem gX10_kindle_X9_has_n18 : GoodIn wsX10_kindle (wsX9_has) := ggX10_kindle_X9_has
theorem ggX10_kindle_X9_fact : GoodIn wsX10_kindle wsX9_fact := gi_ch ch_X10_kindle ch_X9_fact (by decide +kernel)
set_option maxRecDepth 20000 in
theorem gX10_kindle_X9_fact_n24 : GoodIn wsX10_kindle (wsX9_fact) := ggX10_kindle_X9_fact
theorem ggX10_kindle_X0_face : GoodIn wsX10_kindle wsX0_face := gi_ch ch_X10_kindle ch_X0_face (by decide +kernel)
set_option maxRecDepth 20000 in
theorem gX10_kindle_X0_face_n28 : GoodIn wsX10_kindle (wsX0_face) := ggX10_kindle_X0_face
theorem ggX10_kindle_X9_lawInForce : GoodIn wsX10_kindle wsX9_lawInForce := gi_ch ch_X10_kindle ch_X9_lawInForce (by decide +kernel)
set_option maxRecDepth 20000 in
theorem gX10_kindle_X9_lawInForce_n32 : GoodIn wsX10_kindle (wsX9_lawInForce) := ggX10_kindle_X9_lawInForce
theorem ggX10_kindle_X0_told : GoodIn wsX10_kindle wsX0_told := gi_ch ch_X10_kindle ch_X0_told (by decide +kernel)
set_option maxRecDepth 20000 in
theorem gX10_kindle_X0_told_n36 : GoodIn wsX10_kindle (wsX0_told) := ggX10_kindle_X0_told
theorem ggX10_kindle_X9_put : GoodIn wsX10_kindle wsX9_put := gi_ch ch_X10_kindle ch_X9_put (by decide +kernel)
set_option maxRecDepth 20000 in
theorem gX10_kindle_X9_put_n45 : GoodIn wsX10_kindle (wsX9_put) := ggX10_kindle_X9_put
theorem ggX10_quench_X11_within : GoodIn wsX10_quench wsX11_within := gi_ch ch_X10_quench ch_X11_within (by decide +kernel)
set_option maxRecDepth 20000 in
theorem gX10_quench_X11_within_n49 : GoodIn wsX10_quench (wsX11_within) := ggX10_quench_X11_within
theorem ggX10_quench_X9_has : GoodIn wsX10_quench wsX9_has := gi_ch ch_X10_quench ch_X9_has (by decide +kernel)
set_option maxRecDepth 20000 in
theorem gX10_quench_X9_has_n18 : GoodIn wsX10_quench (wsX9_has) := ggX10_quench_X9_has
theorem ggX10_quench_X9_fact : GoodIn wsX10_quench wsX9_fact := gi_ch ch_X10_quench ch_X9_fact (by decide +kernel)
set_option maxRecDepth 20000 in
theorem gX10_quench_X9_fact_n24 : GoodIn wsX10_quench (wsX9_fact) := ggX10_quench_X9_fact
theorem ggX10_quench_X9_put : GoodIn wsX10_quench wsX9_put := gi_ch ch_X10_quench ch_X9_put (by decide +kernel)
set_option maxRecDepth 20000 in
theorem gX10_quench_X9_put_n45 : GoodIn wsX10_quench (wsX9_put) := ggX10_quench_X9_put
theorem ggX10_supply_X11_within : GoodIn wsX10_supply wsX11_within := gi_ch ch_X10_supply ch_X11_within (by decide +kernel)
set_option maxRecDepth 20000 in
theorem gX10_supply_X11_within_n49 : GoodIn wsX10_supply (wsX11_within) := ggX10_supply_X11_within
theorem ggX10_supply_X9_has : GoodIn wsX10_supply wsX9_has := gi_ch ch_X10_supply ch_X9_has (by decide +kernel)
set_option maxRecDepth 20000 in
theorem gX10_supply_X9_has_n18 : GoodIn wsX10_supply (wsX9_has) := ggX10_supply_X9_has
theorem ggX10_supply_X9_fact : GoodIn wsX10_supply wsX9_fact := gi_ch ch_X10_supply ch_X9_fact (by decide +kernel)
set_option maxRecDepth 20000 in
theorem gX10_supply_X9_fact_n24 : GoodIn wsX10_supply (wsX9_fact) := ggX10_supply_X9_fact
theorem ggX10_supply_X9_put : GoodIn wsX10_supply wsX9_put := gi_ch ch_X10_supply ch_X9_put (by decide +kernel)
set_option maxRecDepth 20000 in
theorem gX10_supply_X9_put_n45 : GoodIn wsX10_supply (wsX9_put) := ggX10_supply_X9_put
set_option maxRecDepth 100000 in
noncomputable def E_w_kindle_j59 (f1 : Nat → Int32) (u_450_2_1_0 : Nat → Int32) (v_538 : Int32) (f_539 : Nat → Int32) : Int32 × Int32 × (Nat → Int32) × (Nat → Int32) × (Nat → Int32) :=
  (((-3), v_538, f_539, u_450_2_1_0, f1) : Int32 × Int32 × (Nat → Int32) × (Nat → Int32) × (Nat → Int32))
set_option maxRecDepth 100000 in
noncomputable def E_w_kindle (G : Nat → LC) (x : Int32) (br : Int32) (fs : Nat → Int32) (fw : Nat → Int32) (n : Int32) (lt : Int32) (nf : Int32) (fi : Int32) (f1 : Nat → Int32) (f2 : Nat → Int32) (f3 : Nat → Int32) (fl : Nat → Option Nat) : Int32 × Int32 × (Nat → Int32) × (Nat → Int32) × (Nat → Int32) :=
  Lt (E_w_has x n) (fun r_439 => if r_439 = 1 then (Lt (E_w_fact x 2 f1) (fun r_445 => Lt (E_w_fact x 5 f1) (fun r_447 => Lt (E_w_face x r_447 0 fw f1 f2) (fun u_450_2_1_0 => if r_445 < 1 then (E_w_kindle_j59 f1 u_450_2_1_0 br fs) else (Lt (E_w_lawInForce lt nf fl) (fun r_542 => Oc r_542 (Lt (E_w_told_n 3 br fs u_450_2_1_0) (fun r_546 => if r_546 = 1 then (E_w_kindle_j59 f1 u_450_2_1_0 br fs) else (Lt (E_w_lawInForce lt nf fl) (fun r_551 => Oc r_551 (Lt (E_w_told_n 1 br fs u_450_2_1_0) (fun r_555 => Lt (r_447 + r_555 : Int32) (fun x_559 => Lt (if (x_559 : Int32) < (20 : Int32) then (x_559 : Int32) else (20 : Int32) : Int32) (fun x_560 => Lt (r_445 - 1 : Int32) (fun x_561 => Lt (E_w_put_2 x x_561 f1) (fun u_563_2_1_0 => Lt (E_w_put_5 x x_560 u_563_2_1_0) (fun u_567_2_1_0 => ((x_560, br, fs, u_450_2_1_0, u_567_2_1_0) : Int32 × Int32 × (Nat → Int32) × (Nat → Int32) × (Nat → Int32))))))))) (fun q_554 => Lt2 (E_w_told (G q_554).1 (G q_554).2.1 (G q_554).2.2.1 (G q_554).2.2.2.1 (G q_554).2.2.2.2.1 1 br fs u_450_2_1_0) (fun r_570 q0_r_570 => Lt2 q0_r_570 (fun u_571_2_2_2_1_0 u_571_2_1_0 => Lt (r_447 + r_570 : Int32) (fun x_575 => Lt (if (x_575 : Int32) < (20 : Int32) then (x_575 : Int32) else (20 : Int32) : Int32) (fun x_576 => Lt (r_445 - 1 : Int32) (fun x_577 => Lt (E_w_put_2 x x_577 f1) (fun u_579_2_1_0 => Lt (E_w_put_5 x x_576 u_579_2_1_0) (fun u_583_2_1_0 => ((x_576, u_571_2_2_2_1_0, u_571_2_1_0, u_450_2_1_0, u_583_2_1_0) : Int32 × Int32 × (Nat → Int32) × (Nat → Int32) × (Nat → Int32)))))))))))))) (fun q_545 => Lt2 (E_w_told (G q_545).1 (G q_545).2.1 (G q_545).2.2.1 (G q_545).2.2.2.1 (G q_545).2.2.2.2.1 3 br fs u_450_2_1_0) (fun r_586 q0_r_586 => Lt2 q0_r_586 (fun u_587_2_2_2_1_0 u_587_2_1_0 => if r_586 = 1 then (E_w_kindle_j59 f1 u_450_2_1_0 u_587_2_2_2_1_0 u_587_2_1_0) else (Lt (E_w_lawInForce lt nf fl) (fun r_592 => Oc r_592 (Lt (E_w_told_n 1 u_587_2_2_2_1_0 u_587_2_1_0 u_450_2_1_0) (fun r_596 => Lt (r_447 + r_596 : Int32) (fun x_600 => Lt (if (x_600 : Int32) < (20 : Int32) then (x_600 : Int32) else (20 : Int32) : Int32) (fun x_601 => Lt (r_445 - 1 : Int32) (fun x_602 => Lt (E_w_put_2 x x_602 f1) (fun u_604_2_1_0 => Lt (E_w_put_5 x x_601 u_604_2_1_0) (fun u_608_2_1_0 => ((x_601, u_587_2_2_2_1_0, u_587_2_1_0, u_450_2_1_0, u_608_2_1_0) : Int32 × Int32 × (Nat → Int32) × (Nat → Int32) × (Nat → Int32))))))))) (fun q_595 => Lt2 (E_w_told (G q_595).1 (G q_595).2.1 (G q_595).2.2.1 (G q_595).2.2.2.1 (G q_595).2.2.2.2.1 1 u_587_2_2_2_1_0 u_587_2_1_0 u_450_2_1_0) (fun r_611 q0_r_611 => Lt2 q0_r_611 (fun u_612_2_2_2_1_0 u_612_2_1_0 => Lt (r_447 + r_611 : Int32) (fun x_616 => Lt (if (x_616 : Int32) < (20 : Int32) then (x_616 : Int32) else (20 : Int32) : Int32) (fun x_617 => Lt (r_445 - 1 : Int32) (fun x_618 => Lt (E_w_put_2 x x_618 f1) (fun u_620_2_1_0 => Lt (E_w_put_5 x x_617 u_620_2_1_0) (fun u_624_2_1_0 => ((x_617, u_612_2_2_2_1_0, u_612_2_1_0, u_450_2_1_0, u_624_2_1_0) : Int32 × Int32 × (Nat → Int32) × (Nat → Int32) × (Nat → Int32))))))))))))))))))))) else ((((-2), br, fs, fw, f1) : Int32 × Int32 × (Nat → Int32) × (Nat → Int32) × (Nat → Int32))))
set_option maxHeartbeats 4000000 in
set_option maxRecDepth 100000 in
theorem w_kindle (l : Launch) (D : va_G) (K : Nat → ClassId) (g : Nat → Nat) (L : Nat → Prop) (G : Nat → LC) (r0 : Nat) (t0 : Nat) (x : Int32) (a0 : Nat) (m0 : Nat) (w0 : Nat) (m1 : Nat) (br : Int32) (fs : Nat → Int32) (fw : Nat → Int32) (t1 : Nat) (t3 : Nat) (t2 : Nat) (l0 : Nat) (n : Int32) (lt : Int32) (nf : Int32) (fi : Int32) (k_8 : Value) (k_9 : Value) (f1 : Nat → Int32) (gt : Nat → Int32) (f2 : Nat → Int32) (f3 : Nat → Int32) (gc : Nat → Int32) (fl : Nat → Option Nat) (sz : Nat) (zn : 0 ≤ n.toInt ∧ n.toInt ≤ 8) (zlt : 0 ≤ lt.toInt ∧ lt.toInt ≤ 6) (zbr : 0 ≤ br.toInt ∧ br.toInt ≤ 1) (zgt : FzC gt f1) (zgc : FzH gc f3) (zfl : InL L fl) : Met l yX10_kindle wsX10_kindle ({ frames := 3, cells := 0, slots := 0, locals := 81 }) (va_Pc [.ref r0, .ref t0, .int x] (PreY D K [(r0, .inr (10, [.ref a0])), (a0, .inr (0, [.ref m0, .ref w0])), (m0, .inr (3, [.ref m1, .int br])), (m1, .inl (K 0, 64, .inl fs)), (w0, .inl (K 0, 9, .inl fw)), (t0, .inr (9, [.ref t1, .ref t3, .ref t2, .ref l0, .int n, .int lt, .int nf, .int fi, k_8, k_9])), (t1, .inl (K 0, 56, .inl f1)), (t2, .inl (K 0, 6, .inl f2)), (t3, .inl (K 0, 24, .inl f3)), (l0, .inl (K 4, 6, .inr (.inr (.inr (.inr fl)))))] [] sz g L G (va_A [(r0, .inr (10, [.ref a0])), (a0, .inr (0, [.ref m0, .ref w0])), (m0, .inr (3, [.ref m1, .int br])), (m1, .inl (K 0, 64, .inl fs)), (w0, .inl (K 0, 9, .inl fw)), (t0, .inr (9, [.ref t1, .ref t3, .ref t2, .ref l0, .int n, .int lt, .int nf, .int fi, k_8, k_9])), (t1, .inl (K 0, 56, .inl f1)), (t2, .inl (K 0, 6, .inl f2)), (t3, .inl (K 0, 24, .inl f3)), (l0, .inl (K 4, 6, .inr (.inr (.inr (.inr fl)))))] sz))) (va_Qi (S := Su) (fun (r : Int32) (u : Su) => (r.toInt ≤ 20) ∧ (0 ≤ (u.2.2.2.1 0).toInt ∧ (u.2.2.2.1 0).toInt ≤ 1) ∧ (FzC gt (u.2.1 2)) ∧ ((r, (u.2.2.2.1 0), (u.2.1 0), (u.2.1 1), (u.2.1 2)) = E_w_kindle G x br fs fw n lt nf fi f1 f2 f3 fl) ∧ True) (fun u t => Wd D (va_A [(r0, .inr (10, [.ref a0])), (a0, .inr (0, [.ref m0, .ref w0])), (m0, .inr (3, [.ref m1, .int br])), (m1, .inl (K 0, 64, .inl fs)), (w0, .inl (K 0, 9, .inl fw)), (t0, .inr (9, [.ref t1, .ref t3, .ref t2, .ref l0, .int n, .int lt, .int nf, .int fi, k_8, k_9])), (t1, .inl (K 0, 56, .inl f1)), (t2, .inl (K 0, 6, .inl f2)), (t3, .inl (K 0, 24, .inl f3)), (l0, .inl (K 4, 6, .inr (.inr (.inr (.inr fl)))))] sz) ((fun u => [(r0, .inr (10, [.ref a0])), (a0, .inr (0, [.ref m0, .ref w0])), (m0, .inr (3, [.ref m1, .int (u.2.2.2.1 0)])), (m1, .inl (K 0, 64, .inl (u.2.1 0))), (w0, .inl (K 0, 9, .inl (u.2.1 1))), (t0, .inr (9, [.ref t1, .ref t3, .ref t2, .ref l0, .int n, .int lt, .int nf, .int fi, k_8, k_9])), (t1, .inl (K 0, 56, .inl (u.2.1 2))), (t2, .inl (K 0, 6, .inl f2)), (t3, .inl (K 0, 24, .inl f3)), (l0, .inl (K 4, 6, .inr (.inr (.inr (.inr fl)))))]) u) t) (va_A [(r0, .inr (10, [.ref a0])), (a0, .inr (0, [.ref m0, .ref w0])), (m0, .inr (3, [.ref m1, .int br])), (m1, .inl (K 0, 64, .inl fs)), (w0, .inl (K 0, 9, .inl fw)), (t0, .inr (9, [.ref t1, .ref t3, .ref t2, .ref l0, .int n, .int lt, .int nf, .int fi, k_8, k_9])), (t1, .inl (K 0, 56, .inl f1)), (t2, .inl (K 0, 6, .inl f2)), (t3, .inl (K 0, 24, .inl f3)), (l0, .inl (K 4, 6, .inr (.inr (.inr (.inr fl)))))] sz)) 0 0 (va_A [(r0, .inr (10, [.ref a0])), (a0, .inr (0, [.ref m0, .ref w0])), (m0, .inr (3, [.ref m1, .int br])), (m1, .inl (K 0, 64, .inl fs)), (w0, .inl (K 0, 9, .inl fw)), (t0, .inr (9, [.ref t1, .ref t3, .ref t2, .ref l0, .int n, .int lt, .int nf, .int fi, k_8, k_9])), (t1, .inl (K 0, 56, .inl f1)), (t2, .inl (K 0, 6, .inl f2)), (t3, .inl (K 0, 24, .inl f3)), (l0, .inl (K 4, 6, .inr (.inr (.inr (.inr fl)))))] sz) := by
  refine Met.ofW (cc := cX10_kindle) (maxL := 6) (ret := (some .int)) (by decide +kernel) rfl ?_
  intro p e s m args below meth c s₁ B hml hv
  obtain ⟨rfl, ⟨hsz, hP, hK, hD0, hN⟩, hG, hPl, hRo⟩ := hv
  have hx := B.exec
  have hb := B.bytes
  have hr := B.returns
  have hts := atoms_spec (ws := wsX10_kindle) B.pre
  have hown : s.vm.findClass RX10 = some m.cls := findClass_of_methodNamed B.named
  have hlocks := B.notSynchronized
  subst hsz
  have hD := hD0.self (sz := s.heap.size)
  generalize hAe : va_A [(r0, .inr (10, [.ref a0])), (a0, .inr (0, [.ref m0, .ref w0])), (m0, .inr (3, [.ref m1, .int br])), (m1, .inl (K 0, 64, .inl fs)), (w0, .inl (K 0, 9, .inl fw)), (t0, .inr (9, [.ref t1, .ref t3, .ref t2, .ref l0, .int n, .int lt, .int nf, .int fi, k_8, k_9])), (t1, .inl (K 0, 56, .inl f1)), (t2, .inl (K 0, 6, .inl f2)), (t3, .inl (K 0, 24, .inl f3)), (l0, .inl (K 4, 6, .inr (.inr (.inr (.inr fl)))))] s.heap.size = A at hD hG hPl hRo ⊢
  have hA : ∀ q : Nat, s.heap.size ≤ q → A q := fun q h => by rw [← hAe]; exact Or.inr h
  clear hAe
  have hS : va_S A s.heap s.heap [] := va_S.rf
  replace hP : va_P D vwCl [(r0, .inr (10, [.ref a0])), (a0, .inr (0, [.ref m0, .ref w0])), (m0, .inr (3, [.ref m1, .int br])), (m1, .inl (K 0, 64, .inl fs)), (w0, .inl (K 0, 9, .inl fw)), (t0, .inr (9, [.ref t1, .ref t3, .ref t2, .ref l0, .int n, .int lt, .int nf, .int fi, k_8, k_9])), (t1, .inl (K 0, 56, .inl f1)), (t2, .inl (K 0, 6, .inl f2)), (t3, .inl (K 0, 24, .inl f3)), (l0, .inl (K 4, 6, .inr (.inr (.inr (.inr fl)))))] s.heap := hP
  have hl := lv_entry [.ref r0, .ref t0, .int x] (n := 6) (Nat.le_of_ble_eq_true rfl)
  rw [lg_entry_eq]
  generalize (lg_sl [.ref r0, .ref t0, .int x] ++ List.replicate (6 - (lg_sl [.ref r0, .ref t0, .int x]).length) Slot.unset).toArray = ls at hl ⊢
  have hl : lv_has ls 6 [(0, .ref r0), (1, .ref t0), (2, .int x)] := hl
  have hw0 : ∀ w ∈ wsX00, w ∈ wsX10_kindle := fun w h => (List.mem_cons_of_mem _ (List.mem_append_left _ (List.mem_append_left _ (List.mem_append_right _ h))))
  have hw3 : ∀ w ∈ wsX30, w ∈ wsX10_kindle := fun w h => (List.mem_cons_of_mem _ (List.mem_append_right _ h))
  have hw7 : ∀ w ∈ wsX70, w ∈ wsX10_kindle := fun w h => (List.mem_cons_of_mem _ (List.mem_append_left _ (List.mem_append_right _ h)))
  have hw9 : ∀ w ∈ wsX90, w ∈ wsX10_kindle := fun w h => (List.mem_cons_of_mem _ (List.mem_append_left _ (List.mem_append_left _ (List.mem_append_left _ (List.mem_append_right _ h)))))
  have hw10 : ∀ w ∈ wsX100, w ∈ wsX10_kindle := fun w h => (List.mem_cons_of_mem _ (List.mem_append_left _ (List.mem_append_left _ (List.mem_append_left _ (List.mem_append_left _ (List.mem_append_right _ h))))))
  generalize hQ : MQ below _ _ s _ _ _ = Q
  have hE := E_w_kindle.eq_def G x br fs fw n lt nf fi f1 f2 f3 fl
  refine lv_aload_n hx hb dX10_kindle_0 rfl (lv_at hl 1 rfl) ?_
  refine lv_iload_n hx hb dX10_kindle_1 rfl (lv_at hl 2 rfl) ?_
  refine pci (va_runVN (As := [.int x]) (rest := []) ⟨hx, hb, hml, hown, hts⟩ (w_has l D K x.toInt n.toInt t0 x (.ref t1) (.ref t3) (.ref t2) (.ref l0) n (.int lt) (.int nf) (.int fi) k_8 k_9 s.heap.size rfl rfl) ⟨va_cnB 1 hts gX10_kindle_X9_has_n18 rfl rfl rfl (nst_at hN 50 rfl) (hts _ mm_X10_kindle_145) (by decide +kernel) ⟨Nat.le_of_ble_eq_true rfl, Nat.le_of_ble_eq_true rfl⟩, (hts _ mm_X10_kindle_397), (hts _ mm_X10_kindle_7)⟩ (mkV hK hN (hP.sub [5] rfl) (hD.sub [5] (by decide +kernel) rfl) (ci := 9) (q0 := 0) rfl rfl) rfl rfl hl.1 rfl (lv_room (Nat.le_of_ble_eq_true rfl)) dX10_kindle_2 ⟨Nat.le_of_ble_eq_true rfl, Nat.le_of_ble_eq_true rfl⟩) (fun r_439 hw => ?_)
  obtain ⟨hw, k_440, -⟩ := hw
  replace hE := hE.trans (Lt_in k_440)
  rcases hw with ⟨rfl, h_441, h_442⟩ | ⟨rfl, h_443⟩
  · replace hE := (hE).trans (if_pos rfl)
    refine lv_if_ne (tgt := 11) hx hb dX10_kindle_5 (by decide +kernel) (fun c_444 => ?_) (fun c_444 => absurd c_444 (by decide +kernel))
    refine lv_aload_n hx hb dX10_kindle_11 rfl (lv_at hl 1 rfl) ?_
    refine lv_iload_n hx hb dX10_kindle_12 rfl (lv_at hl 2 rfl) ?_
    refine lv_iconst (v := 2) hx hb dX10_kindle_13 (by decide +kernel) ?_
    refine pci (va_runVN (As := [.int x, .int 2]) (rest := []) ⟨hx, hb, hml, hown, hts⟩ (w_fact l D K t0 x 2 t1 (.ref t3) (.ref t2) (.ref l0) (.int n) (.int lt) (.int nf) (.int fi) k_8 k_9 f1 s.heap.size) ⟨va_cnB 2 hts gX10_kindle_X9_fact_n24 rfl rfl rfl (nst_at hN 51 rfl) (hts _ mm_X10_kindle_145) (by decide +kernel) ⟨Nat.le_of_ble_eq_true rfl, Nat.le_of_ble_eq_true rfl⟩, (hts _ mm_X10_kindle_381), (hts _ mm_X10_kindle_2)⟩ (mkV hK hN (hP.sub [5, 6] rfl) (hD.sub [5, 6] (by decide +kernel) rfl) (ci := 9) (q0 := 0) rfl rfl) rfl rfl hl.1 rfl (lv_room (Nat.le_of_ble_eq_true rfl)) dX10_kindle_14 ⟨Nat.le_of_ble_eq_true rfl, Nat.le_of_ble_eq_true rfl⟩) (fun r_445 hw => ?_)
    obtain ⟨k_446, -⟩ := hw
    replace hE := hE.trans (Lt_in k_446)
    refine lv_istore_n (lv' := [(3, .int r_445), (0, .ref r0), (1, .ref t0), (2, .int x)]) hx hb dX10_kindle_17 rfl hl (by decide +kernel) rfl (fun ls hl => ?_)
    refine lv_aload_n hx hb dX10_kindle_18 rfl (lv_at hl 2 rfl) ?_
    refine lv_iload_n hx hb dX10_kindle_19 rfl (lv_at hl 3 rfl) ?_
    refine lv_iconst (v := 5) hx hb dX10_kindle_20 (by decide +kernel) ?_
    refine pci (va_runVN (As := [.int x, .int 5]) (rest := []) ⟨hx, hb, hml, hown, hts⟩ (w_fact l D K t0 x 5 t1 (.ref t3) (.ref t2) (.ref l0) (.int n) (.int lt) (.int nf) (.int fi) k_8 k_9 f1 s.heap.size) ⟨va_cnB 2 hts gX10_kindle_X9_fact_n24 rfl rfl rfl (nst_at hN 51 rfl) (hts _ mm_X10_kindle_145) (by decide +kernel) ⟨Nat.le_of_ble_eq_true rfl, Nat.le_of_ble_eq_true rfl⟩, (hts _ mm_X10_kindle_381), (hts _ mm_X10_kindle_2)⟩ (mkV hK hN (hP.sub [5, 6] rfl) (hD.sub [5, 6] (by decide +kernel) rfl) (ci := 9) (q0 := 0) rfl rfl) rfl rfl hl.1 rfl (lv_room (Nat.le_of_ble_eq_true rfl)) dX10_kindle_21 ⟨Nat.le_of_ble_eq_true rfl, Nat.le_of_ble_eq_true rfl⟩) (fun r_447 hw => ?_)
    obtain ⟨k_448, -⟩ := hw
    replace hE := hE.trans (Lt_in k_448)
    refine lv_istore (lv' := [(4, .int r_447), (3, .int r_445), (0, .ref r0), (1, .ref t0), (2, .int x)]) hx hb dX10_kindle_24 hl (by decide +kernel) rfl (fun ls hl => ?_)
    refine lv_aload_n hx hb dX10_kindle_26 rfl (lv_at hl 2 rfl) ?_
    refine va_get (ci := 10) (v := .ref a0) (C := RX10) (T := TX10) (N := 1) hx hb hts hw10 hown hK hP 0 rfl rfl 0 (by decide +kernel) (hts _ mm_X10_kindle_269) (fun _ h9 => h9) rfl dX10_kindle_27 ?_
    refine lv_aload_n hx hb dX10_kindle_30 rfl (lv_at hl 3 rfl) ?_
    refine lv_iload_n hx hb dX10_kindle_31 rfl (lv_at hl 4 rfl) ?_
    refine lv_iload hx hb dX10_kindle_32 (lv_at hl 0 rfl) ?_
    refine lv_iconst (v := 0) hx hb dX10_kindle_34 (by decide +kernel) ?_
    refine kcv (S := Su) (wr := [(r0, .inr (10, [.ref a0])), (m0, .inr (3, [.ref m1, .int br])), (m1, .inl (K 0, 64, .inl fs)), (t3, .inl (K 0, 24, .inl f3)), (l0, .inl (K 4, 6, .inr (.inr (.inr (.inr fl)))))]) (va_runVN (As := [.ref t0, .int x, .int r_447, .int 0]) (rest := []) ⟨hx, hb, hml, hown, hts⟩ (w_face l D K a0 t0 x r_447 0 (.ref m0) w0 fw t1 (.ref t3) t2 (.ref l0) (.int n) (.int lt) (.int nf) (.int fi) k_8 k_9 f1 f2 s.heap.size) ⟨va_cnB 4 hts gX10_kindle_X0_face_n28 rfl rfl rfl (nst_at hN 52 rfl) (hts _ mm_X10_kindle_151) (by decide +kernel) ⟨Nat.le_of_ble_eq_true rfl, Nat.le_of_ble_eq_true rfl⟩, (hts _ mm_X10_kindle_404), (hts _ mm_X10_kindle_10)⟩ (mkV hK hN (hP.sub [1, 4, 5, 6, 7] rfl) (hD.sub [1, 4, 5, 6, 7] (by decide +kernel) rfl) (ci := 0) (q0 := 0) rfl rfl) rfl rfl hl.1 rfl (lv_room (Nat.le_of_ble_eq_true rfl)) dX10_kindle_35 ⟨Nat.le_of_ble_eq_true rfl, Nat.le_of_ble_eq_true rfl⟩) hP hD hS hA [1, 4, 5, 6, 7] [0, 2, 3, 8, 9] rfl rfl (by decide +kernel) (by decide +kernel) (fun u_450 H locs hw hP0 hD0 hS0 => ?_)
    clear hP hD hS
    have hP := hP0
    have hD := hD0
    have hS := hS0
    clear hP0 hD0 hS0
    replace hP : va_P D vwCl [(r0, .inr (10, [.ref a0])), (m0, .inr (3, [.ref m1, .int br])), (m1, .inl (K 0, 64, .inl fs)), (t3, .inl (K 0, 24, .inl f3)), (l0, .inl (K 4, 6, .inr (.inr (.inr (.inr fl))))), (a0, .inr (0, [.ref m0, .ref w0])), (w0, .inl (K 0, 9, .inl (u_450.2.1 0))), (t0, .inr (9, [.ref t1, .ref t3, .ref t2, .ref l0, .int n, .int lt, .int nf, .int fi, k_8, k_9])), (t1, .inl (K 0, 56, .inl f1)), (t2, .inl (K 0, 6, .inl f2))] H := hP
    replace hD : va_D A [(r0, .inr (10, [.ref a0])), (m0, .inr (3, [.ref m1, .int br])), (m1, .inl (K 0, 64, .inl fs)), (t3, .inl (K 0, 24, .inl f3)), (l0, .inl (K 4, 6, .inr (.inr (.inr (.inr fl))))), (a0, .inr (0, [.ref m0, .ref w0])), (w0, .inl (K 0, 9, .inl (u_450.2.1 0))), (t0, .inr (9, [.ref t1, .ref t3, .ref t2, .ref l0, .int n, .int lt, .int nf, .int fi, k_8, k_9])), (t1, .inl (K 0, 56, .inl f1)), (t2, .inl (K 0, 6, .inl f2))] := hD
    obtain ⟨k_451, -⟩ := hw
    replace hE := hE.trans (Lt_in k_451)
    refine lv_iload_n hx hb dX10_kindle_38 rfl (lv_at hl 1 rfl) ?_
    refine lv_iconst (v := 1) hx hb dX10_kindle_39 (by decide +kernel) ?_
    have j_540 : ∀ (v_538 : Int32) (f_539 : Nat → Int32) (hv_538 : 0 ≤ v_538.toInt ∧ v_538.toInt ≤ 1) (hE : E_w_kindle G x br fs fw n lt nf fi f1 f2 f3 fl = E_w_kindle_j59 f1 (u_450.2.1 0) v_538 f_539) (H : Heap) (locs : List Loc) (hP : va_P D vwCl [(r0, .inr (10, [.ref a0])), (m0, .inr (3, [.ref m1, .int v_538])), (m1, .inl (K 0, 64, .inl f_539)), (t3, .inl (K 0, 24, .inl f3)), (l0, .inl (K 4, 6, .inr (.inr (.inr (.inr fl))))), (a0, .inr (0, [.ref m0, .ref w0])), (w0, .inl (K 0, 9, .inl (u_450.2.1 0))), (t0, .inr (9, [.ref t1, .ref t3, .ref t2, .ref l0, .int n, .int lt, .int nf, .int fi, k_8, k_9])), (t1, .inl (K 0, 56, .inl f1)), (t2, .inl (K 0, 6, .inl f2))] H) (hD : va_D A [(r0, .inr (10, [.ref a0])), (m0, .inr (3, [.ref m1, .int v_538])), (m1, .inl (K 0, 64, .inl f_539)), (t3, .inl (K 0, 24, .inl f3)), (l0, .inl (K 4, 6, .inr (.inr (.inr (.inr fl))))), (a0, .inr (0, [.ref m0, .ref w0])), (w0, .inl (K 0, 9, .inl (u_450.2.1 0))), (t0, .inr (9, [.ref t1, .ref t3, .ref t2, .ref l0, .int n, .int lt, .int nf, .int fi, k_8, k_9])), (t1, .inl (K 0, 56, .inl f1)), (t2, .inl (K 0, 6, .inl f2))]) (hS : va_S A s.heap H locs) (ls : Array Slot) (hl : lv_has ls 6 []), W p l e ({ frames := 3, cells := 0, slots := 0, locals := 81 }) s m (([.ref r0, .ref t0, .int x] : List Value).toArray) below meth c H locs 0 0 Q (F0 m 59 ls []) := by
      clear hE hP hD hS hl
      intro v_538 f_539 hv_538 hE H locs hP hD hS ls hl
      replace hE := hE.trans (E_w_kindle_j59.eq_def _ _ _ _)
      refine lv_bipush (v := (-3)) hx hb dX10_kindle_59 (by decide +kernel) ?_
      rw [← hQ]
      have hP9 := hP.sub (ws' := [(r0, .inr (10, [.ref a0])), (a0, .inr (0, [.ref m0, .ref w0])), (m0, .inr (3, [.ref m1, .int v_538])), (m1, .inl (K 0, 64, .inl f_539)), (w0, .inl (K 0, 9, .inl (u_450.2.1 0))), (t0, .inr (9, [.ref t1, .ref t3, .ref t2, .ref l0, .int n, .int lt, .int nf, .int fi, k_8, k_9])), (t1, .inl (K 0, 56, .inl f1)), (t2, .inl (K 0, 6, .inl f2)), (t3, .inl (K 0, 24, .inl f3)), (l0, .inl (K 4, 6, .inr (.inr (.inr (.inr fl)))))]) [0, 5, 1, 2, 6, 7, 8, 9, 3, 4] rfl
      have hD9 := hD.sub (ws' := [(r0, .inr (10, [.ref a0])), (a0, .inr (0, [.ref m0, .ref w0])), (m0, .inr (3, [.ref m1, .int v_538])), (m1, .inl (K 0, 64, .inl f_539)), (w0, .inl (K 0, 9, .inl (u_450.2.1 0))), (t0, .inr (9, [.ref t1, .ref t3, .ref t2, .ref l0, .int n, .int lt, .int nf, .int fi, k_8, k_9])), (t1, .inl (K 0, 56, .inl f1)), (t2, .inl (K 0, 6, .inl f2)), (t3, .inl (K 0, 24, .inl f3)), (l0, .inl (K 4, 6, .inr (.inr (.inr (.inr fl)))))]) [0, 5, 1, 2, 6, 7, 8, 9, 3, 4] (by decide +kernel) rfl
      exact W.iret (v := (-3)) hx hb hr (fun t ht hW => ⟨⟨(-3), ((fun _ => 0, fun i => match i with | 0 => f_539 | 1 => (u_450.2.1 0) | _ => f1, fun _ => fun _ => 0, fun i => match i with | _ => v_538, fun _ => 0, fun _ => fun _ => none) : Su), rfl, ⟨(show ((-3) : Int32).toInt ≤ 20 by decide), (show 0 ≤ (v_538 : Int32).toInt ∧ (v_538 : Int32).toInt ≤ 1 by omega), zgt, hE.symm, trivial⟩, (⟨by rw [ht]; exact hP9, hD9⟩ : Wd D A _ t)⟩, hS.F ht⟩) hS.2.2 dX10_kindle_61
    refine lv_icmp_lt (tgt := 59) hx hb dX10_kindle_40 (by decide +kernel) (fun c_541 => ?_) (fun c_541 => ?_)
    · have c_541i := i_lt (x := r_445.toInt) (y := 1) rfl rfl c_541
      replace hE := hE.trans (if_pos c_541)
      exact j_540 br fs (by omega) hE _ _ hP hD hS ls (lv_sub hl [] rfl)
    · have c_541i := i_nlt (x := r_445.toInt) (y := 1) rfl rfl c_541
      replace hE := hE.trans (if_neg c_541)
      refine lv_aload_n hx hb dX10_kindle_43 rfl (lv_at hl 2 rfl) ?_
      refine va_get (ci := 10) (v := .ref a0) (C := RX10) (T := TX10) (N := 1) hx hb hts hw10 hown hK hP 0 rfl rfl 0 (by decide +kernel) (hts _ mm_X10_kindle_269) (fun _ h9 => h9) rfl dX10_kindle_44 ?_
      refine lv_aload_n hx hb dX10_kindle_47 rfl (lv_at hl 3 rfl) ?_
      refine pcq (va_runVN (As := []) (rest := [.ref a0]) ⟨hx, hb, hml, hown, hts⟩ (w_lawInForce l D K g L G t0 (.ref t1) (.ref t3) (.ref t2) l0 (.int n) lt nf (.int fi) k_8 k_9 fl H.size (by first | omega | decide) zfl) ⟨va_cnB 0 hts gX10_kindle_X9_lawInForce_n32 rfl rfl rfl (nst_at hN 53 rfl) (hts _ mm_X10_kindle_145) (by decide +kernel) ⟨Nat.le_of_ble_eq_true rfl, Nat.le_of_ble_eq_true rfl⟩, (hts _ mm_X10_kindle_406), (hts _ mm_X10_kindle_11)⟩ (mkVY hK hN (hP.sub [7, 4] rfl) (hD.sub [7, 4] (by decide +kernel) rfl) (ci := 9) (q0 := 0) rfl rfl (fun U hU hW => ⟨Gl.at hG hS hW hU (fun _ h9 => h9.elim), Pool.at hPl hS hU (fun _ h9 => h9.elim), Ro.heap hU (Ro.nil)⟩)) rfl rfl hl.1 rfl (lv_room (Nat.le_of_ble_eq_true rfl)) dX10_kindle_48 ⟨Nat.le_of_ble_eq_true rfl, Nat.le_of_ble_eq_true rfl⟩) (fun r_542 hw => ?_)
      obtain ⟨hw, k_544⟩ := hw
      have hr_542 : InLo L r_542 := hw
      replace hE := hE.trans (Lt_in k_544)
      refine lv_iconst (v := 3) hx hb dX10_kindle_51 (by decide +kernel) ?_
      rcases r_542 with _ | q_545
      · replace hE := hE.trans Oc_n
        have hl : lv_has ls 6 [(4, .int r_447), (3, .int r_445), (0, .ref r0), (1, .ref t0), (2, .int x)] := hl
        refine W.eq (g2 := F0 m 52 ls [.int 3, .null, .ref a0]) rfl ?_
        refine kci (S := Su) (wr := [(r0, .inr (10, [.ref a0])), (t3, .inl (K 0, 24, .inl f3)), (l0, .inl (K 4, 6, .inr (.inr (.inr (.inr fl))))), (t0, .inr (9, [.ref t1, .ref t3, .ref t2, .ref l0, .int n, .int lt, .int nf, .int fi, k_8, k_9])), (t1, .inl (K 0, 56, .inl f1)), (t2, .inl (K 0, 6, .inl f2))]) (va_runVN (As := [.null, .int 3]) (rest := []) ⟨hx, hb, hml, hown, hts⟩ (w_told_n l D K g L G a0 3 m0 w0 m1 br fs (u_450.2.1 0) H.size (by first | omega | decide) (by first | omega | decide)) ⟨va_cnB 2 hts gX10_kindle_X0_told_n36 rfl rfl rfl (nst_at hN 54 rfl) (hts _ mm_X10_kindle_151) (by decide +kernel) ⟨Nat.le_of_ble_eq_true rfl, Nat.le_of_ble_eq_true rfl⟩, (hts _ mm_X10_kindle_411), (hts _ mm_X10_kindle_13)⟩ (mkVY hK hN (hP.sub [5, 1, 2, 6] rfl) (hD.sub [5, 1, 2, 6] (by decide +kernel) rfl) (ci := 0) (q0 := 0) rfl rfl (fun U hU hW => ⟨Gl.at hG hS hW hU (fun q h => va_free hD hS hA [5, 1, 2, 6] rfl q h), Pool.at hPl hS hU (fun q h => va_free hD hS hA [5, 1, 2, 6] rfl q h), Ro.heap hU (Ro.nil)⟩)) rfl rfl hl.1 rfl (lv_room (Nat.le_of_ble_eq_true rfl)) dX10_kindle_52 ⟨Nat.le_of_ble_eq_true rfl, Nat.le_of_ble_eq_true rfl⟩) hP hD hS hA [5, 1, 2, 6] [0, 3, 4, 7, 8, 9] rfl rfl (by decide +kernel) (by decide +kernel) (fun r_546 u_547 H locs hw hP0 hD0 hS0 => ?_)
        clear hP hD hS
        have hP := hP0
        have hD := hD0
        have hS := hS0
        clear hP0 hD0 hS0
        replace hP : va_P D vwCl [(r0, .inr (10, [.ref a0])), (t3, .inl (K 0, 24, .inl f3)), (l0, .inl (K 4, 6, .inr (.inr (.inr (.inr fl))))), (t0, .inr (9, [.ref t1, .ref t3, .ref t2, .ref l0, .int n, .int lt, .int nf, .int fi, k_8, k_9])), (t1, .inl (K 0, 56, .inl f1)), (t2, .inl (K 0, 6, .inl f2)), (a0, .inr (0, [.ref m0, .ref w0])), (m0, .inr (3, [.ref m1, .int br])), (m1, .inl (K 0, 64, .inl fs)), (w0, .inl (K 0, 9, .inl (u_450.2.1 0)))] H := hP
        replace hD : va_D A [(r0, .inr (10, [.ref a0])), (t3, .inl (K 0, 24, .inl f3)), (l0, .inl (K 4, 6, .inr (.inr (.inr (.inr fl))))), (t0, .inr (9, [.ref t1, .ref t3, .ref t2, .ref l0, .int n, .int lt, .int nf, .int fi, k_8, k_9])), (t1, .inl (K 0, 56, .inl f1)), (t2, .inl (K 0, 6, .inl f2)), (a0, .inr (0, [.ref m0, .ref w0])), (m0, .inr (3, [.ref m1, .int br])), (m1, .inl (K 0, 64, .inl fs)), (w0, .inl (K 0, 9, .inl (u_450.2.1 0)))] := hD
        obtain ⟨h_549, k_548, -⟩ := hw
        replace hE := hE.trans (Lt_in k_548)
        refine lv_iconst (v := 1) hx hb dX10_kindle_55 (by decide +kernel) ?_
        refine lv_icmp_ne (tgt := 62) hx hb dX10_kindle_56 (by decide +kernel) (fun c_550 => ?_) (fun c_550 => ?_)
        · have c_550i := i_ne (x := r_546.toInt) (y := 1) rfl rfl c_550
          replace hE := hE.trans (if_neg c_550)
          refine lv_bipush (v := 20) hx hb dX10_kindle_62 (by decide +kernel) ?_
          refine lv_iload hx hb dX10_kindle_64 (lv_at hl 0 rfl) ?_
          refine lv_aload_n hx hb dX10_kindle_66 rfl (lv_at hl 2 rfl) ?_
          refine va_get (ci := 10) (v := .ref a0) (C := RX10) (T := TX10) (N := 1) hx hb hts hw10 hown hK hP 0 rfl rfl 0 (by decide +kernel) (hts _ mm_X10_kindle_269) (fun _ h9 => h9) rfl dX10_kindle_67 ?_
          refine lv_aload_n hx hb dX10_kindle_70 rfl (lv_at hl 3 rfl) ?_
          refine pcq (va_runVN (As := []) (rest := [.ref a0, .int r_447, .int 20]) ⟨hx, hb, hml, hown, hts⟩ (w_lawInForce l D K g L G t0 (.ref t1) (.ref t3) (.ref t2) l0 (.int n) lt nf (.int fi) k_8 k_9 fl H.size (by first | omega | decide) zfl) ⟨va_cnB 0 hts gX10_kindle_X9_lawInForce_n32 rfl rfl rfl (nst_at hN 53 rfl) (hts _ mm_X10_kindle_145) (by decide +kernel) ⟨Nat.le_of_ble_eq_true rfl, Nat.le_of_ble_eq_true rfl⟩, (hts _ mm_X10_kindle_406), (hts _ mm_X10_kindle_11)⟩ (mkVY hK hN (hP.sub [3, 2] rfl) (hD.sub [3, 2] (by decide +kernel) rfl) (ci := 9) (q0 := 0) rfl rfl (fun U hU hW => ⟨Gl.at hG hS hW hU (fun _ h9 => h9.elim), Pool.at hPl hS hU (fun _ h9 => h9.elim), Ro.heap hU (Ro.nil)⟩)) rfl rfl hl.1 rfl (lv_room (Nat.le_of_ble_eq_true rfl)) dX10_kindle_71 ⟨Nat.le_of_ble_eq_true rfl, Nat.le_of_ble_eq_true rfl⟩) (fun r_551 hw => ?_)
          obtain ⟨hw, k_553⟩ := hw
          have hr_551 : InLo L r_551 := hw
          replace hE := hE.trans (Lt_in k_553)
          refine lv_iconst (v := 1) hx hb dX10_kindle_74 (by decide +kernel) ?_
          rcases r_551 with _ | q_554
          · replace hE := hE.trans Oc_n
            have hl : lv_has ls 6 [(4, .int r_447), (3, .int r_445), (0, .ref r0), (1, .ref t0), (2, .int x)] := hl
            refine W.eq (g2 := F0 m 75 ls [.int 1, .null, .ref a0, .int r_447, .int 20]) rfl ?_
            refine kci (S := Su) (wr := [(r0, .inr (10, [.ref a0])), (t3, .inl (K 0, 24, .inl f3)), (l0, .inl (K 4, 6, .inr (.inr (.inr (.inr fl))))), (t0, .inr (9, [.ref t1, .ref t3, .ref t2, .ref l0, .int n, .int lt, .int nf, .int fi, k_8, k_9])), (t1, .inl (K 0, 56, .inl f1)), (t2, .inl (K 0, 6, .inl f2))]) (va_runVN (As := [.null, .int 1]) (rest := [.int r_447, .int 20]) ⟨hx, hb, hml, hown, hts⟩ (w_told_n l D K g L G a0 1 m0 w0 m1 br fs (u_450.2.1 0) H.size (by first | omega | decide) (by first | omega | decide)) ⟨va_cnB 2 hts gX10_kindle_X0_told_n36 rfl rfl rfl (nst_at hN 54 rfl) (hts _ mm_X10_kindle_151) (by decide +kernel) ⟨Nat.le_of_ble_eq_true rfl, Nat.le_of_ble_eq_true rfl⟩, (hts _ mm_X10_kindle_411), (hts _ mm_X10_kindle_13)⟩ (mkVY hK hN (hP.sub [6, 7, 8, 9] rfl) (hD.sub [6, 7, 8, 9] (by decide +kernel) rfl) (ci := 0) (q0 := 0) rfl rfl (fun U hU hW => ⟨Gl.at hG hS hW hU (fun q h => va_free hD hS hA [6, 7, 8, 9] rfl q h), Pool.at hPl hS hU (fun q h => va_free hD hS hA [6, 7, 8, 9] rfl q h), Ro.heap hU (Ro.nil)⟩)) rfl rfl hl.1 rfl (lv_room (Nat.le_of_ble_eq_true rfl)) dX10_kindle_75 ⟨Nat.le_of_ble_eq_true rfl, Nat.le_of_ble_eq_true rfl⟩) hP hD hS hA [6, 7, 8, 9] [0, 1, 2, 3, 4, 5] rfl rfl (by decide +kernel) (by decide +kernel) (fun r_555 u_556 H locs hw hP0 hD0 hS0 => ?_)
            clear hP hD hS
            have hP := hP0
            have hD := hD0
            have hS := hS0
            clear hP0 hD0 hS0
            replace hP : va_P D vwCl [(r0, .inr (10, [.ref a0])), (t3, .inl (K 0, 24, .inl f3)), (l0, .inl (K 4, 6, .inr (.inr (.inr (.inr fl))))), (t0, .inr (9, [.ref t1, .ref t3, .ref t2, .ref l0, .int n, .int lt, .int nf, .int fi, k_8, k_9])), (t1, .inl (K 0, 56, .inl f1)), (t2, .inl (K 0, 6, .inl f2)), (a0, .inr (0, [.ref m0, .ref w0])), (m0, .inr (3, [.ref m1, .int br])), (m1, .inl (K 0, 64, .inl fs)), (w0, .inl (K 0, 9, .inl (u_450.2.1 0)))] H := hP
            replace hD : va_D A [(r0, .inr (10, [.ref a0])), (t3, .inl (K 0, 24, .inl f3)), (l0, .inl (K 4, 6, .inr (.inr (.inr (.inr fl))))), (t0, .inr (9, [.ref t1, .ref t3, .ref t2, .ref l0, .int n, .int lt, .int nf, .int fi, k_8, k_9])), (t1, .inl (K 0, 56, .inl f1)), (t2, .inl (K 0, 6, .inl f2)), (a0, .inr (0, [.ref m0, .ref w0])), (m0, .inr (3, [.ref m1, .int br])), (m1, .inl (K 0, 64, .inl fs)), (w0, .inl (K 0, 9, .inl (u_450.2.1 0)))] := hD
            obtain ⟨h_558, k_557, -⟩ := hw
            replace hE := hE.trans (Lt_in k_557)
            refine lv_iadd hx hb dX10_kindle_78 ?_
            refine lv_topi (fun x_559 ex_559 => ?_)
            replace hE := hE.trans (Lt_in ex_559)
            refine va_mmin hx hb (hml.trans hl.1.symm) hown (hts _ mm_X10_kindle_600) (hts _ mm_X10_kindle_426) (hts _ mm_X10_kindle_157) (hts _ mm_X10_kindle_427) (Nat.le_of_ble_eq_true rfl) (Nat.le_of_ble_eq_true rfl) (Nat.le_of_ble_eq_true rfl) (Nat.le_of_ble_eq_true rfl) dX10_kindle_79 ?_
            refine lv_topi (fun x_560 ex_560 => ?_)
            replace hE := hE.trans (Lt_in ex_560)
            have hx_560 : (20 ≤ x_559.toInt ∧ x_560.toInt = 20) ∨ (x_559.toInt < 20 ∧ x_560.toInt = x_559.toInt) := by rw [ex_560]; exact i_min (show (20 : Int32).toInt = 20 from rfl) rfl
            replace hx_560 : x_560.toInt ≤ x_559.toInt ∧ x_560.toInt ≤ 20 := by omega
            refine lv_istore (lv' := [(5, .int x_560), (4, .int r_447), (3, .int r_445), (0, .ref r0), (1, .ref t0), (2, .int x)]) hx hb dX10_kindle_82 hl (by decide +kernel) rfl (fun ls hl => ?_)
            refine lv_aload_n hx hb dX10_kindle_84 rfl (lv_at hl 4 rfl) ?_
            refine lv_iload_n hx hb dX10_kindle_85 rfl (lv_at hl 5 rfl) ?_
            refine lv_iconst (v := 2) hx hb dX10_kindle_86 (by decide +kernel) ?_
            refine lv_iload_n hx hb dX10_kindle_87 rfl (lv_at hl 2 rfl) ?_
            refine lv_iconst (v := 1) hx hb dX10_kindle_88 (by decide +kernel) ?_
            refine lv_isub hx hb dX10_kindle_89 ?_
            refine lv_topi (fun x_561 ex_561 => ?_)
            replace hE := hE.trans (Lt_in ex_561)
            have hx_561 : x_561.toInt = (r_445.toInt - 1) := by rw [ex_561]; exact i_sub rfl (show (1 : Int32).toInt = 1 from rfl) (by have q1 := i_rng (a := r_445) rfl; omega)
            refine kcv (S := Su) (wr := [(r0, .inr (10, [.ref a0])), (t3, .inl (K 0, 24, .inl f3)), (l0, .inl (K 4, 6, .inr (.inr (.inr (.inr fl))))), (t2, .inl (K 0, 6, .inl f2)), (a0, .inr (0, [.ref m0, .ref w0])), (m0, .inr (3, [.ref m1, .int br])), (m1, .inl (K 0, 64, .inl fs)), (w0, .inl (K 0, 9, .inl (u_450.2.1 0)))]) (va_runVN (As := [.int x, .int 2, .int x_561]) (rest := []) ⟨hx, hb, hml, hown, hts⟩ (w_put_2 l D K t0 x x_561 t1 (.ref t3) (.ref t2) (.ref l0) (.int n) (.int lt) (.int nf) (.int fi) k_8 k_9 f1 gt H.size zgt) ⟨va_cnB 3 hts gX10_kindle_X9_put_n45 rfl rfl rfl (nst_at hN 55 rfl) (hts _ mm_X10_kindle_145) (by decide +kernel) ⟨Nat.le_of_ble_eq_true rfl, Nat.le_of_ble_eq_true rfl⟩, (hts _ mm_X10_kindle_388), (hts _ mm_X10_kindle_5)⟩ (mkV hK hN (hP.sub [3, 4] rfl) (hD.sub [3, 4] (by decide +kernel) rfl) (ci := 9) (q0 := 0) rfl rfl) rfl rfl hl.1 rfl (lv_room (Nat.le_of_ble_eq_true rfl)) dX10_kindle_90 ⟨Nat.le_of_ble_eq_true rfl, Nat.le_of_ble_eq_true rfl⟩) hP hD hS hA [3, 4] [0, 1, 2, 5, 6, 7, 8, 9] rfl rfl (by decide +kernel) (by decide +kernel) (fun u_563 H locs hw hP0 hD0 hS0 => ?_)
            clear hP hD hS
            have hP := hP0
            have hD := hD0
            have hS := hS0
            clear hP0 hD0 hS0
            replace hP : va_P D vwCl [(r0, .inr (10, [.ref a0])), (t3, .inl (K 0, 24, .inl f3)), (l0, .inl (K 4, 6, .inr (.inr (.inr (.inr fl))))), (t2, .inl (K 0, 6, .inl f2)), (a0, .inr (0, [.ref m0, .ref w0])), (m0, .inr (3, [.ref m1, .int br])), (m1, .inl (K 0, 64, .inl fs)), (w0, .inl (K 0, 9, .inl (u_450.2.1 0))), (t0, .inr (9, [.ref t1, .ref t3, .ref t2, .ref l0, .int n, .int lt, .int nf, .int fi, k_8, k_9])), (t1, .inl (K 0, 56, .inl (u_563.2.1 0)))] H := hP
            replace hD : va_D A [(r0, .inr (10, [.ref a0])), (t3, .inl (K 0, 24, .inl f3)), (l0, .inl (K 4, 6, .inr (.inr (.inr (.inr fl))))), (t2, .inl (K 0, 6, .inl f2)), (a0, .inr (0, [.ref m0, .ref w0])), (m0, .inr (3, [.ref m1, .int br])), (m1, .inl (K 0, 64, .inl fs)), (w0, .inl (K 0, 9, .inl (u_450.2.1 0))), (t0, .inr (9, [.ref t1, .ref t3, .ref t2, .ref l0, .int n, .int lt, .int nf, .int fi, k_8, k_9])), (t1, .inl (K 0, 56, .inl (u_563.2.1 0)))] := hD
            obtain ⟨k_564, k_565, -⟩ := hw
            replace hE := hE.trans (Lt_in k_565)
            refine lv_aload_n hx hb dX10_kindle_93 rfl (lv_at hl 4 rfl) ?_
            refine lv_iload_n hx hb dX10_kindle_94 rfl (lv_at hl 5 rfl) ?_
            refine lv_iconst (v := 5) hx hb dX10_kindle_95 (by decide +kernel) ?_
            refine lv_iload hx hb dX10_kindle_96 (lv_at hl 0 rfl) ?_
            refine kcv (S := Su) (wr := [(r0, .inr (10, [.ref a0])), (t3, .inl (K 0, 24, .inl f3)), (l0, .inl (K 4, 6, .inr (.inr (.inr (.inr fl))))), (t2, .inl (K 0, 6, .inl f2)), (a0, .inr (0, [.ref m0, .ref w0])), (m0, .inr (3, [.ref m1, .int br])), (m1, .inl (K 0, 64, .inl fs)), (w0, .inl (K 0, 9, .inl (u_450.2.1 0)))]) (va_runVN (As := [.int x, .int 5, .int x_560]) (rest := []) ⟨hx, hb, hml, hown, hts⟩ (w_put_5 l D K t0 x x_560 t1 (.ref t3) (.ref t2) (.ref l0) (.int n) (.int lt) (.int nf) (.int fi) k_8 k_9 (u_563.2.1 0) gt H.size k_564) ⟨va_cnB 3 hts gX10_kindle_X9_put_n45 rfl rfl rfl (nst_at hN 55 rfl) (hts _ mm_X10_kindle_145) (by decide +kernel) ⟨Nat.le_of_ble_eq_true rfl, Nat.le_of_ble_eq_true rfl⟩, (hts _ mm_X10_kindle_388), (hts _ mm_X10_kindle_5)⟩ (mkV hK hN (hP.sub [8, 9] rfl) (hD.sub [8, 9] (by decide +kernel) rfl) (ci := 9) (q0 := 0) rfl rfl) rfl rfl hl.1 rfl (lv_room (Nat.le_of_ble_eq_true rfl)) dX10_kindle_98 ⟨Nat.le_of_ble_eq_true rfl, Nat.le_of_ble_eq_true rfl⟩) hP hD hS hA [8, 9] [0, 1, 2, 3, 4, 5, 6, 7] rfl rfl (by decide +kernel) (by decide +kernel) (fun u_567 H locs hw hP0 hD0 hS0 => ?_)
            clear hP hD hS
            have hP := hP0
            have hD := hD0
            have hS := hS0
            clear hP0 hD0 hS0
            replace hP : va_P D vwCl [(r0, .inr (10, [.ref a0])), (t3, .inl (K 0, 24, .inl f3)), (l0, .inl (K 4, 6, .inr (.inr (.inr (.inr fl))))), (t2, .inl (K 0, 6, .inl f2)), (a0, .inr (0, [.ref m0, .ref w0])), (m0, .inr (3, [.ref m1, .int br])), (m1, .inl (K 0, 64, .inl fs)), (w0, .inl (K 0, 9, .inl (u_450.2.1 0))), (t0, .inr (9, [.ref t1, .ref t3, .ref t2, .ref l0, .int n, .int lt, .int nf, .int fi, k_8, k_9])), (t1, .inl (K 0, 56, .inl (u_567.2.1 0)))] H := hP
            replace hD : va_D A [(r0, .inr (10, [.ref a0])), (t3, .inl (K 0, 24, .inl f3)), (l0, .inl (K 4, 6, .inr (.inr (.inr (.inr fl))))), (t2, .inl (K 0, 6, .inl f2)), (a0, .inr (0, [.ref m0, .ref w0])), (m0, .inr (3, [.ref m1, .int br])), (m1, .inl (K 0, 64, .inl fs)), (w0, .inl (K 0, 9, .inl (u_450.2.1 0))), (t0, .inr (9, [.ref t1, .ref t3, .ref t2, .ref l0, .int n, .int lt, .int nf, .int fi, k_8, k_9])), (t1, .inl (K 0, 56, .inl (u_567.2.1 0)))] := hD
            obtain ⟨k_568, k_569, -⟩ := hw
            replace hE := hE.trans (Lt_in k_569)
            refine lv_iload hx hb dX10_kindle_101 (lv_at hl 0 rfl) ?_
            rw [← hQ]
            have hP9 := hP.sub (ws' := [(r0, .inr (10, [.ref a0])), (a0, .inr (0, [.ref m0, .ref w0])), (m0, .inr (3, [.ref m1, .int br])), (m1, .inl (K 0, 64, .inl fs)), (w0, .inl (K 0, 9, .inl (u_450.2.1 0))), (t0, .inr (9, [.ref t1, .ref t3, .ref t2, .ref l0, .int n, .int lt, .int nf, .int fi, k_8, k_9])), (t1, .inl (K 0, 56, .inl (u_567.2.1 0))), (t2, .inl (K 0, 6, .inl f2)), (t3, .inl (K 0, 24, .inl f3)), (l0, .inl (K 4, 6, .inr (.inr (.inr (.inr fl)))))]) [0, 4, 5, 6, 7, 8, 9, 3, 1, 2] rfl
            have hD9 := hD.sub (ws' := [(r0, .inr (10, [.ref a0])), (a0, .inr (0, [.ref m0, .ref w0])), (m0, .inr (3, [.ref m1, .int br])), (m1, .inl (K 0, 64, .inl fs)), (w0, .inl (K 0, 9, .inl (u_450.2.1 0))), (t0, .inr (9, [.ref t1, .ref t3, .ref t2, .ref l0, .int n, .int lt, .int nf, .int fi, k_8, k_9])), (t1, .inl (K 0, 56, .inl (u_567.2.1 0))), (t2, .inl (K 0, 6, .inl f2)), (t3, .inl (K 0, 24, .inl f3)), (l0, .inl (K 4, 6, .inr (.inr (.inr (.inr fl)))))]) [0, 4, 5, 6, 7, 8, 9, 3, 1, 2] (by decide +kernel) rfl
            exact W.iret (v := x_560) hx hb hr (fun t ht hW => ⟨⟨x_560, ((fun _ => 0, fun i => match i with | 0 => fs | 1 => (u_450.2.1 0) | _ => (u_567.2.1 0), fun _ => fun _ => 0, fun i => match i with | _ => br, fun _ => 0, fun _ => fun _ => none) : Su), rfl, ⟨(show x_560.toInt ≤ 20 by omega), (show 0 ≤ (br : Int32).toInt ∧ (br : Int32).toInt ≤ 1 by omega), k_568, hE.symm, trivial⟩, (⟨by rw [ht]; exact hP9, hD9⟩ : Wd D A _ t)⟩, hS.F ht⟩) hS.2.2 dX10_kindle_103
          · replace hE := hE.trans Oc_s
            have hl : lv_has ls 6 [(4, .int r_447), (3, .int r_445), (0, .ref r0), (1, .ref t0), (2, .int x)] := hl
            refine W.eq (g2 := F0 m 75 ls [.int 1, .ref q_554, .ref a0, .int r_447, .int 20]) rfl ?_
            refine kci (S := Su) (wr := [(r0, .inr (10, [.ref a0])), (t3, .inl (K 0, 24, .inl f3)), (l0, .inl (K 4, 6, .inr (.inr (.inr (.inr fl))))), (t0, .inr (9, [.ref t1, .ref t3, .ref t2, .ref l0, .int n, .int lt, .int nf, .int fi, k_8, k_9])), (t1, .inl (K 0, 56, .inl f1)), (t2, .inl (K 0, 6, .inl f2))]) (va_runVN (As := [.ref q_554, .int 1]) (rest := [.int r_447, .int 20]) ⟨hx, hb, hml, hown, hts⟩ (w_told l D K g L G a0 q_554 1 m0 w0 m1 br fs (u_450.2.1 0) H.size hr_551 (by first | omega | decide) (by first | omega | decide)) ⟨va_cnB 2 hts gX10_kindle_X0_told_n36 rfl rfl rfl (nst_at hN 54 rfl) (hts _ mm_X10_kindle_151) (by decide +kernel) ⟨Nat.le_of_ble_eq_true rfl, Nat.le_of_ble_eq_true rfl⟩, (hts _ mm_X10_kindle_411), (hts _ mm_X10_kindle_13)⟩ (mkVY hK hN (hP.sub [6, 7, 8, 9] rfl) (hD.sub [6, 7, 8, 9] (by decide +kernel) rfl) (ci := 0) (q0 := 0) rfl rfl (fun U hU hW => ⟨Gl.at hG hS hW hU (fun q h => va_free hD hS hA [6, 7, 8, 9] rfl q h), Pool.at hPl hS hU (fun q h => va_free hD hS hA [6, 7, 8, 9] rfl q h), Ro.heap hU (Ro.nil)⟩)) rfl rfl hl.1 rfl (lv_room (Nat.le_of_ble_eq_true rfl)) dX10_kindle_75 ⟨Nat.le_of_ble_eq_true rfl, Nat.le_of_ble_eq_true rfl⟩) hP hD hS hA [6, 7, 8, 9] [0, 1, 2, 3, 4, 5] rfl rfl (by decide +kernel) (by decide +kernel) (fun r_570 u_571 H locs hw hP0 hD0 hS0 => ?_)
            clear hP hD hS
            have hP := hP0
            have hD := hD0
            have hS := hS0
            clear hP0 hD0 hS0
            replace hP : va_P D vwCl [(r0, .inr (10, [.ref a0])), (t3, .inl (K 0, 24, .inl f3)), (l0, .inl (K 4, 6, .inr (.inr (.inr (.inr fl))))), (t0, .inr (9, [.ref t1, .ref t3, .ref t2, .ref l0, .int n, .int lt, .int nf, .int fi, k_8, k_9])), (t1, .inl (K 0, 56, .inl f1)), (t2, .inl (K 0, 6, .inl f2)), (a0, .inr (0, [.ref m0, .ref w0])), (m0, .inr (3, [.ref m1, .int (u_571.2.2.2.1 0)])), (m1, .inl (K 0, 64, .inl (u_571.2.1 0))), (w0, .inl (K 0, 9, .inl (u_450.2.1 0)))] H := hP
            replace hD : va_D A [(r0, .inr (10, [.ref a0])), (t3, .inl (K 0, 24, .inl f3)), (l0, .inl (K 4, 6, .inr (.inr (.inr (.inr fl))))), (t0, .inr (9, [.ref t1, .ref t3, .ref t2, .ref l0, .int n, .int lt, .int nf, .int fi, k_8, k_9])), (t1, .inl (K 0, 56, .inl f1)), (t2, .inl (K 0, 6, .inl f2)), (a0, .inr (0, [.ref m0, .ref w0])), (m0, .inr (3, [.ref m1, .int (u_571.2.2.2.1 0)])), (m1, .inl (K 0, 64, .inl (u_571.2.1 0))), (w0, .inl (K 0, 9, .inl (u_450.2.1 0)))] := hD
            obtain ⟨h_574, k_572, k_573, -⟩ := hw
            replace hE := (hE.trans (Lt2_in k_573)).trans (Lt2_in rfl)
            refine lv_iadd hx hb dX10_kindle_78 ?_
            refine lv_topi (fun x_575 ex_575 => ?_)
            replace hE := hE.trans (Lt_in ex_575)
            refine va_mmin hx hb (hml.trans hl.1.symm) hown (hts _ mm_X10_kindle_600) (hts _ mm_X10_kindle_426) (hts _ mm_X10_kindle_157) (hts _ mm_X10_kindle_427) (Nat.le_of_ble_eq_true rfl) (Nat.le_of_ble_eq_true rfl) (Nat.le_of_ble_eq_true rfl) (Nat.le_of_ble_eq_true rfl) dX10_kindle_79 ?_
            refine lv_topi (fun x_576 ex_576 => ?_)
            replace hE := hE.trans (Lt_in ex_576)
            have hx_576 : (20 ≤ x_575.toInt ∧ x_576.toInt = 20) ∨ (x_575.toInt < 20 ∧ x_576.toInt = x_575.toInt) := by rw [ex_576]; exact i_min (show (20 : Int32).toInt = 20 from rfl) rfl
            replace hx_576 : x_576.toInt ≤ x_575.toInt ∧ x_576.toInt ≤ 20 := by omega
            refine lv_istore (lv' := [(5, .int x_576), (4, .int r_447), (3, .int r_445), (0, .ref r0), (1, .ref t0), (2, .int x)]) hx hb dX10_kindle_82 hl (by decide +kernel) rfl (fun ls hl => ?_)
            refine lv_aload_n hx hb dX10_kindle_84 rfl (lv_at hl 4 rfl) ?_
            refine lv_iload_n hx hb dX10_kindle_85 rfl (lv_at hl 5 rfl) ?_
            refine lv_iconst (v := 2) hx hb dX10_kindle_86 (by decide +kernel) ?_
            refine lv_iload_n hx hb dX10_kindle_87 rfl (lv_at hl 2 rfl) ?_
            refine lv_iconst (v := 1) hx hb dX10_kindle_88 (by decide +kernel) ?_
            refine lv_isub hx hb dX10_kindle_89 ?_
            refine lv_topi (fun x_577 ex_577 => ?_)
            replace hE := hE.trans (Lt_in ex_577)
            have hx_577 : x_577.toInt = (r_445.toInt - 1) := by rw [ex_577]; exact i_sub rfl (show (1 : Int32).toInt = 1 from rfl) (by have q1 := i_rng (a := r_445) rfl; omega)
            refine kcv (S := Su) (wr := [(r0, .inr (10, [.ref a0])), (t3, .inl (K 0, 24, .inl f3)), (l0, .inl (K 4, 6, .inr (.inr (.inr (.inr fl))))), (t2, .inl (K 0, 6, .inl f2)), (a0, .inr (0, [.ref m0, .ref w0])), (m0, .inr (3, [.ref m1, .int (u_571.2.2.2.1 0)])), (m1, .inl (K 0, 64, .inl (u_571.2.1 0))), (w0, .inl (K 0, 9, .inl (u_450.2.1 0)))]) (va_runVN (As := [.int x, .int 2, .int x_577]) (rest := []) ⟨hx, hb, hml, hown, hts⟩ (w_put_2 l D K t0 x x_577 t1 (.ref t3) (.ref t2) (.ref l0) (.int n) (.int lt) (.int nf) (.int fi) k_8 k_9 f1 gt H.size zgt) ⟨va_cnB 3 hts gX10_kindle_X9_put_n45 rfl rfl rfl (nst_at hN 55 rfl) (hts _ mm_X10_kindle_145) (by decide +kernel) ⟨Nat.le_of_ble_eq_true rfl, Nat.le_of_ble_eq_true rfl⟩, (hts _ mm_X10_kindle_388), (hts _ mm_X10_kindle_5)⟩ (mkV hK hN (hP.sub [3, 4] rfl) (hD.sub [3, 4] (by decide +kernel) rfl) (ci := 9) (q0 := 0) rfl rfl) rfl rfl hl.1 rfl (lv_room (Nat.le_of_ble_eq_true rfl)) dX10_kindle_90 ⟨Nat.le_of_ble_eq_true rfl, Nat.le_of_ble_eq_true rfl⟩) hP hD hS hA [3, 4] [0, 1, 2, 5, 6, 7, 8, 9] rfl rfl (by decide +kernel) (by decide +kernel) (fun u_579 H locs hw hP0 hD0 hS0 => ?_)
            clear hP hD hS
            have hP := hP0
            have hD := hD0
            have hS := hS0
            clear hP0 hD0 hS0
            replace hP : va_P D vwCl [(r0, .inr (10, [.ref a0])), (t3, .inl (K 0, 24, .inl f3)), (l0, .inl (K 4, 6, .inr (.inr (.inr (.inr fl))))), (t2, .inl (K 0, 6, .inl f2)), (a0, .inr (0, [.ref m0, .ref w0])), (m0, .inr (3, [.ref m1, .int (u_571.2.2.2.1 0)])), (m1, .inl (K 0, 64, .inl (u_571.2.1 0))), (w0, .inl (K 0, 9, .inl (u_450.2.1 0))), (t0, .inr (9, [.ref t1, .ref t3, .ref t2, .ref l0, .int n, .int lt, .int nf, .int fi, k_8, k_9])), (t1, .inl (K 0, 56, .inl (u_579.2.1 0)))] H := hP
            replace hD : va_D A [(r0, .inr (10, [.ref a0])), (t3, .inl (K 0, 24, .inl f3)), (l0, .inl (K 4, 6, .inr (.inr (.inr (.inr fl))))), (t2, .inl (K 0, 6, .inl f2)), (a0, .inr (0, [.ref m0, .ref w0])), (m0, .inr (3, [.ref m1, .int (u_571.2.2.2.1 0)])), (m1, .inl (K 0, 64, .inl (u_571.2.1 0))), (w0, .inl (K 0, 9, .inl (u_450.2.1 0))), (t0, .inr (9, [.ref t1, .ref t3, .ref t2, .ref l0, .int n, .int lt, .int nf, .int fi, k_8, k_9])), (t1, .inl (K 0, 56, .inl (u_579.2.1 0)))] := hD
            obtain ⟨k_580, k_581, -⟩ := hw
            replace hE := hE.trans (Lt_in k_581)
            refine lv_aload_n hx hb dX10_kindle_93 rfl (lv_at hl 4 rfl) ?_
            refine lv_iload_n hx hb dX10_kindle_94 rfl (lv_at hl 5 rfl) ?_
            refine lv_iconst (v := 5) hx hb dX10_kindle_95 (by decide +kernel) ?_
            refine lv_iload hx hb dX10_kindle_96 (lv_at hl 0 rfl) ?_
            refine kcv (S := Su) (wr := [(r0, .inr (10, [.ref a0])), (t3, .inl (K 0, 24, .inl f3)), (l0, .inl (K 4, 6, .inr (.inr (.inr (.inr fl))))), (t2, .inl (K 0, 6, .inl f2)), (a0, .inr (0, [.ref m0, .ref w0])), (m0, .inr (3, [.ref m1, .int (u_571.2.2.2.1 0)])), (m1, .inl (K 0, 64, .inl (u_571.2.1 0))), (w0, .inl (K 0, 9, .inl (u_450.2.1 0)))]) (va_runVN (As := [.int x, .int 5, .int x_576]) (rest := []) ⟨hx, hb, hml, hown, hts⟩ (w_put_5 l D K t0 x x_576 t1 (.ref t3) (.ref t2) (.ref l0) (.int n) (.int lt) (.int nf) (.int fi) k_8 k_9 (u_579.2.1 0) gt H.size k_580) ⟨va_cnB 3 hts gX10_kindle_X9_put_n45 rfl rfl rfl (nst_at hN 55 rfl) (hts _ mm_X10_kindle_145) (by decide +kernel) ⟨Nat.le_of_ble_eq_true rfl, Nat.le_of_ble_eq_true rfl⟩, (hts _ mm_X10_kindle_388), (hts _ mm_X10_kindle_5)⟩ (mkV hK hN (hP.sub [8, 9] rfl) (hD.sub [8, 9] (by decide +kernel) rfl) (ci := 9) (q0 := 0) rfl rfl) rfl rfl hl.1 rfl (lv_room (Nat.le_of_ble_eq_true rfl)) dX10_kindle_98 ⟨Nat.le_of_ble_eq_true rfl, Nat.le_of_ble_eq_true rfl⟩) hP hD hS hA [8, 9] [0, 1, 2, 3, 4, 5, 6, 7] rfl rfl (by decide +kernel) (by decide +kernel) (fun u_583 H locs hw hP0 hD0 hS0 => ?_)
            clear hP hD hS
            have hP := hP0
            have hD := hD0
            have hS := hS0
            clear hP0 hD0 hS0
            replace hP : va_P D vwCl [(r0, .inr (10, [.ref a0])), (t3, .inl (K 0, 24, .inl f3)), (l0, .inl (K 4, 6, .inr (.inr (.inr (.inr fl))))), (t2, .inl (K 0, 6, .inl f2)), (a0, .inr (0, [.ref m0, .ref w0])), (m0, .inr (3, [.ref m1, .int (u_571.2.2.2.1 0)])), (m1, .inl (K 0, 64, .inl (u_571.2.1 0))), (w0, .inl (K 0, 9, .inl (u_450.2.1 0))), (t0, .inr (9, [.ref t1, .ref t3, .ref t2, .ref l0, .int n, .int lt, .int nf, .int fi, k_8, k_9])), (t1, .inl (K 0, 56, .inl (u_583.2.1 0)))] H := hP
            replace hD : va_D A [(r0, .inr (10, [.ref a0])), (t3, .inl (K 0, 24, .inl f3)), (l0, .inl (K 4, 6, .inr (.inr (.inr (.inr fl))))), (t2, .inl (K 0, 6, .inl f2)), (a0, .inr (0, [.ref m0, .ref w0])), (m0, .inr (3, [.ref m1, .int (u_571.2.2.2.1 0)])), (m1, .inl (K 0, 64, .inl (u_571.2.1 0))), (w0, .inl (K 0, 9, .inl (u_450.2.1 0))), (t0, .inr (9, [.ref t1, .ref t3, .ref t2, .ref l0, .int n, .int lt, .int nf, .int fi, k_8, k_9])), (t1, .inl (K 0, 56, .inl (u_583.2.1 0)))] := hD
            obtain ⟨k_584, k_585, -⟩ := hw
            replace hE := hE.trans (Lt_in k_585)
            refine lv_iload hx hb dX10_kindle_101 (lv_at hl 0 rfl) ?_
            rw [← hQ]
            have hP9 := hP.sub (ws' := [(r0, .inr (10, [.ref a0])), (a0, .inr (0, [.ref m0, .ref w0])), (m0, .inr (3, [.ref m1, .int (u_571.2.2.2.1 0)])), (m1, .inl (K 0, 64, .inl (u_571.2.1 0))), (w0, .inl (K 0, 9, .inl (u_450.2.1 0))), (t0, .inr (9, [.ref t1, .ref t3, .ref t2, .ref l0, .int n, .int lt, .int nf, .int fi, k_8, k_9])), (t1, .inl (K 0, 56, .inl (u_583.2.1 0))), (t2, .inl (K 0, 6, .inl f2)), (t3, .inl (K 0, 24, .inl f3)), (l0, .inl (K 4, 6, .inr (.inr (.inr (.inr fl)))))]) [0, 4, 5, 6, 7, 8, 9, 3, 1, 2] rfl
            have hD9 := hD.sub (ws' := [(r0, .inr (10, [.ref a0])), (a0, .inr (0, [.ref m0, .ref w0])), (m0, .inr (3, [.ref m1, .int (u_571.2.2.2.1 0)])), (m1, .inl (K 0, 64, .inl (u_571.2.1 0))), (w0, .inl (K 0, 9, .inl (u_450.2.1 0))), (t0, .inr (9, [.ref t1, .ref t3, .ref t2, .ref l0, .int n, .int lt, .int nf, .int fi, k_8, k_9])), (t1, .inl (K 0, 56, .inl (u_583.2.1 0))), (t2, .inl (K 0, 6, .inl f2)), (t3, .inl (K 0, 24, .inl f3)), (l0, .inl (K 4, 6, .inr (.inr (.inr (.inr fl)))))]) [0, 4, 5, 6, 7, 8, 9, 3, 1, 2] (by decide +kernel) rfl
            exact W.iret (v := x_576) hx hb hr (fun t ht hW => ⟨⟨x_576, ((fun _ => 0, fun i => match i with | 0 => (u_571.2.1 0) | 1 => (u_450.2.1 0) | _ => (u_583.2.1 0), fun _ => fun _ => 0, fun i => match i with | _ => (u_571.2.2.2.1 0), fun _ => 0, fun _ => fun _ => none) : Su), rfl, ⟨(show x_576.toInt ≤ 20 by omega), (show 0 ≤ ((u_571.2.2.2.1 0) : Int32).toInt ∧ ((u_571.2.2.2.1 0) : Int32).toInt ≤ 1 by omega), k_584, hE.symm, trivial⟩, (⟨by rw [ht]; exact hP9, hD9⟩ : Wd D A _ t)⟩, hS.F ht⟩) hS.2.2 dX10_kindle_103
        · have c_550i := i_eq (x := r_546.toInt) (y := 1) rfl rfl c_550
          replace hE := hE.trans (if_pos c_550)
          exact j_540 br fs (by omega) hE _ _ (hP.sub [0, 7, 8, 1, 2, 6, 9, 3, 4, 5] rfl) (hD.sub [0, 7, 8, 1, 2, 6, 9, 3, 4, 5] (by decide +kernel) rfl) hS ls (lv_sub hl [] rfl)
      · replace hE := hE.trans Oc_s
        have hl : lv_has ls 6 [(4, .int r_447), (3, .int r_445), (0, .ref r0), (1, .ref t0), (2, .int x)] := hl
        refine W.eq (g2 := F0 m 52 ls [.int 3, .ref q_545, .ref a0]) rfl ?_
        refine kci (S := Su) (wr := [(r0, .inr (10, [.ref a0])), (t3, .inl (K 0, 24, .inl f3)), (l0, .inl (K 4, 6, .inr (.inr (.inr (.inr fl))))), (t0, .inr (9, [.ref t1, .ref t3, .ref t2, .ref l0, .int n, .int lt, .int nf, .int fi, k_8, k_9])), (t1, .inl (K 0, 56, .inl f1)), (t2, .inl (K 0, 6, .inl f2))]) (va_runVN (As := [.ref q_545, .int 3]) (rest := []) ⟨hx, hb, hml, hown, hts⟩ (w_told l D K g L G a0 q_545 3 m0 w0 m1 br fs (u_450.2.1 0) H.size hr_542 (by first | omega | decide) (by first | omega | decide)) ⟨va_cnB 2 hts gX10_kindle_X0_told_n36 rfl rfl rfl (nst_at hN 54 rfl) (hts _ mm_X10_kindle_151) (by decide +kernel) ⟨Nat.le_of_ble_eq_true rfl, Nat.le_of_ble_eq_true rfl⟩, (hts _ mm_X10_kindle_411), (hts _ mm_X10_kindle_13)⟩ (mkVY hK hN (hP.sub [5, 1, 2, 6] rfl) (hD.sub [5, 1, 2, 6] (by decide +kernel) rfl) (ci := 0) (q0 := 0) rfl rfl (fun U hU hW => ⟨Gl.at hG hS hW hU (fun q h => va_free hD hS hA [5, 1, 2, 6] rfl q h), Pool.at hPl hS hU (fun q h => va_free hD hS hA [5, 1, 2, 6] rfl q h), Ro.heap hU (Ro.nil)⟩)) rfl rfl hl.1 rfl (lv_room (Nat.le_of_ble_eq_true rfl)) dX10_kindle_52 ⟨Nat.le_of_ble_eq_true rfl, Nat.le_of_ble_eq_true rfl⟩) hP hD hS hA [5, 1, 2, 6] [0, 3, 4, 7, 8, 9] rfl rfl (by decide +kernel) (by decide +kernel) (fun r_586 u_587 H locs hw hP0 hD0 hS0 => ?_)
        clear hP hD hS
        have hP := hP0
        have hD := hD0
        have hS := hS0
        clear hP0 hD0 hS0
        replace hP : va_P D vwCl [(r0, .inr (10, [.ref a0])), (t3, .inl (K 0, 24, .inl f3)), (l0, .inl (K 4, 6, .inr (.inr (.inr (.inr fl))))), (t0, .inr (9, [.ref t1, .ref t3, .ref t2, .ref l0, .int n, .int lt, .int nf, .int fi, k_8, k_9])), (t1, .inl (K 0, 56, .inl f1)), (t2, .inl (K 0, 6, .inl f2)), (a0, .inr (0, [.ref m0, .ref w0])), (m0, .inr (3, [.ref m1, .int (u_587.2.2.2.1 0)])), (m1, .inl (K 0, 64, .inl (u_587.2.1 0))), (w0, .inl (K 0, 9, .inl (u_450.2.1 0)))] H := hP
        replace hD : va_D A [(r0, .inr (10, [.ref a0])), (t3, .inl (K 0, 24, .inl f3)), (l0, .inl (K 4, 6, .inr (.inr (.inr (.inr fl))))), (t0, .inr (9, [.ref t1, .ref t3, .ref t2, .ref l0, .int n, .int lt, .int nf, .int fi, k_8, k_9])), (t1, .inl (K 0, 56, .inl f1)), (t2, .inl (K 0, 6, .inl f2)), (a0, .inr (0, [.ref m0, .ref w0])), (m0, .inr (3, [.ref m1, .int (u_587.2.2.2.1 0)])), (m1, .inl (K 0, 64, .inl (u_587.2.1 0))), (w0, .inl (K 0, 9, .inl (u_450.2.1 0)))] := hD
        obtain ⟨h_590, k_588, k_589, -⟩ := hw
        replace hE := (hE.trans (Lt2_in k_589)).trans (Lt2_in rfl)
        refine lv_iconst (v := 1) hx hb dX10_kindle_55 (by decide +kernel) ?_
        refine lv_icmp_ne (tgt := 62) hx hb dX10_kindle_56 (by decide +kernel) (fun c_591 => ?_) (fun c_591 => ?_)
        · have c_591i := i_ne (x := r_586.toInt) (y := 1) rfl rfl c_591
          replace hE := hE.trans (if_neg c_591)
          refine lv_bipush (v := 20) hx hb dX10_kindle_62 (by decide +kernel) ?_
          refine lv_iload hx hb dX10_kindle_64 (lv_at hl 0 rfl) ?_
          refine lv_aload_n hx hb dX10_kindle_66 rfl (lv_at hl 2 rfl) ?_
          refine va_get (ci := 10) (v := .ref a0) (C := RX10) (T := TX10) (N := 1) hx hb hts hw10 hown hK hP 0 rfl rfl 0 (by decide +kernel) (hts _ mm_X10_kindle_269) (fun _ h9 => h9) rfl dX10_kindle_67 ?_
          refine lv_aload_n hx hb dX10_kindle_70 rfl (lv_at hl 3 rfl) ?_
          refine pcq (va_runVN (As := []) (rest := [.ref a0, .int r_447, .int 20]) ⟨hx, hb, hml, hown, hts⟩ (w_lawInForce l D K g L G t0 (.ref t1) (.ref t3) (.ref t2) l0 (.int n) lt nf (.int fi) k_8 k_9 fl H.size (by first | omega | decide) zfl) ⟨va_cnB 0 hts gX10_kindle_X9_lawInForce_n32 rfl rfl rfl (nst_at hN 53 rfl) (hts _ mm_X10_kindle_145) (by decide +kernel) ⟨Nat.le_of_ble_eq_true rfl, Nat.le_of_ble_eq_true rfl⟩, (hts _ mm_X10_kindle_406), (hts _ mm_X10_kindle_11)⟩ (mkVY hK hN (hP.sub [3, 2] rfl) (hD.sub [3, 2] (by decide +kernel) rfl) (ci := 9) (q0 := 0) rfl rfl (fun U hU hW => ⟨Gl.at hG hS hW hU (fun _ h9 => h9.elim), Pool.at hPl hS hU (fun _ h9 => h9.elim), Ro.heap hU (Ro.nil)⟩)) rfl rfl hl.1 rfl (lv_room (Nat.le_of_ble_eq_true rfl)) dX10_kindle_71 ⟨Nat.le_of_ble_eq_true rfl, Nat.le_of_ble_eq_true rfl⟩) (fun r_592 hw => ?_)
          obtain ⟨hw, k_594⟩ := hw
          have hr_592 : InLo L r_592 := hw
          replace hE := hE.trans (Lt_in k_594)
          refine lv_iconst (v := 1) hx hb dX10_kindle_74 (by decide +kernel) ?_
          rcases r_592 with _ | q_595
          · replace hE := hE.trans Oc_n
            have hl : lv_has ls 6 [(4, .int r_447), (3, .int r_445), (0, .ref r0), (1, .ref t0), (2, .int x)] := hl
            refine W.eq (g2 := F0 m 75 ls [.int 1, .null, .ref a0, .int r_447, .int 20]) rfl ?_
            refine kci (S := Su) (wr := [(r0, .inr (10, [.ref a0])), (t3, .inl (K 0, 24, .inl f3)), (l0, .inl (K 4, 6, .inr (.inr (.inr (.inr fl))))), (t0, .inr (9, [.ref t1, .ref t3, .ref t2, .ref l0, .int n, .int lt, .int nf, .int fi, k_8, k_9])), (t1, .inl (K 0, 56, .inl f1)), (t2, .inl (K 0, 6, .inl f2))]) (va_runVN (As := [.null, .int 1]) (rest := [.int r_447, .int 20]) ⟨hx, hb, hml, hown, hts⟩ (w_told_n l D K g L G a0 1 m0 w0 m1 (u_587.2.2.2.1 0) (u_587.2.1 0) (u_450.2.1 0) H.size (by first | omega | decide) (by first | omega | decide)) ⟨va_cnB 2 hts gX10_kindle_X0_told_n36 rfl rfl rfl (nst_at hN 54 rfl) (hts _ mm_X10_kindle_151) (by decide +kernel) ⟨Nat.le_of_ble_eq_true rfl, Nat.le_of_ble_eq_true rfl⟩, (hts _ mm_X10_kindle_411), (hts _ mm_X10_kindle_13)⟩ (mkVY hK hN (hP.sub [6, 7, 8, 9] rfl) (hD.sub [6, 7, 8, 9] (by decide +kernel) rfl) (ci := 0) (q0 := 0) rfl rfl (fun U hU hW => ⟨Gl.at hG hS hW hU (fun q h => va_free hD hS hA [6, 7, 8, 9] rfl q h), Pool.at hPl hS hU (fun q h => va_free hD hS hA [6, 7, 8, 9] rfl q h), Ro.heap hU (Ro.nil)⟩)) rfl rfl hl.1 rfl (lv_room (Nat.le_of_ble_eq_true rfl)) dX10_kindle_75 ⟨Nat.le_of_ble_eq_true rfl, Nat.le_of_ble_eq_true rfl⟩) hP hD hS hA [6, 7, 8, 9] [0, 1, 2, 3, 4, 5] rfl rfl (by decide +kernel) (by decide +kernel) (fun r_596 u_597 H locs hw hP0 hD0 hS0 => ?_)
            clear hP hD hS
            have hP := hP0
            have hD := hD0
            have hS := hS0
            clear hP0 hD0 hS0
            replace hP : va_P D vwCl [(r0, .inr (10, [.ref a0])), (t3, .inl (K 0, 24, .inl f3)), (l0, .inl (K 4, 6, .inr (.inr (.inr (.inr fl))))), (t0, .inr (9, [.ref t1, .ref t3, .ref t2, .ref l0, .int n, .int lt, .int nf, .int fi, k_8, k_9])), (t1, .inl (K 0, 56, .inl f1)), (t2, .inl (K 0, 6, .inl f2)), (a0, .inr (0, [.ref m0, .ref w0])), (m0, .inr (3, [.ref m1, .int (u_587.2.2.2.1 0)])), (m1, .inl (K 0, 64, .inl (u_587.2.1 0))), (w0, .inl (K 0, 9, .inl (u_450.2.1 0)))] H := hP
            replace hD : va_D A [(r0, .inr (10, [.ref a0])), (t3, .inl (K 0, 24, .inl f3)), (l0, .inl (K 4, 6, .inr (.inr (.inr (.inr fl))))), (t0, .inr (9, [.ref t1, .ref t3, .ref t2, .ref l0, .int n, .int lt, .int nf, .int fi, k_8, k_9])), (t1, .inl (K 0, 56, .inl f1)), (t2, .inl (K 0, 6, .inl f2)), (a0, .inr (0, [.ref m0, .ref w0])), (m0, .inr (3, [.ref m1, .int (u_587.2.2.2.1 0)])), (m1, .inl (K 0, 64, .inl (u_587.2.1 0))), (w0, .inl (K 0, 9, .inl (u_450.2.1 0)))] := hD
            obtain ⟨h_599, k_598, -⟩ := hw
            replace hE := hE.trans (Lt_in k_598)
            refine lv_iadd hx hb dX10_kindle_78 ?_
            refine lv_topi (fun x_600 ex_600 => ?_)
            replace hE := hE.trans (Lt_in ex_600)
            refine va_mmin hx hb (hml.trans hl.1.symm) hown (hts _ mm_X10_kindle_600) (hts _ mm_X10_kindle_426) (hts _ mm_X10_kindle_157) (hts _ mm_X10_kindle_427) (Nat.le_of_ble_eq_true rfl) (Nat.le_of_ble_eq_true rfl) (Nat.le_of_ble_eq_true rfl) (Nat.le_of_ble_eq_true rfl) dX10_kindle_79 ?_
            refine lv_topi (fun x_601 ex_601 => ?_)
            replace hE := hE.trans (Lt_in ex_601)
            have hx_601 : (20 ≤ x_600.toInt ∧ x_601.toInt = 20) ∨ (x_600.toInt < 20 ∧ x_601.toInt = x_600.toInt) := by rw [ex_601]; exact i_min (show (20 : Int32).toInt = 20 from rfl) rfl
            replace hx_601 : x_601.toInt ≤ x_600.toInt ∧ x_601.toInt ≤ 20 := by omega
            refine lv_istore (lv' := [(5, .int x_601), (4, .int r_447), (3, .int r_445), (0, .ref r0), (1, .ref t0), (2, .int x)]) hx hb dX10_kindle_82 hl (by decide +kernel) rfl (fun ls hl => ?_)
            refine lv_aload_n hx hb dX10_kindle_84 rfl (lv_at hl 4 rfl) ?_
            refine lv_iload_n hx hb dX10_kindle_85 rfl (lv_at hl 5 rfl) ?_
            refine lv_iconst (v := 2) hx hb dX10_kindle_86 (by decide +kernel) ?_
            refine lv_iload_n hx hb dX10_kindle_87 rfl (lv_at hl 2 rfl) ?_
            refine lv_iconst (v := 1) hx hb dX10_kindle_88 (by decide +kernel) ?_
            refine lv_isub hx hb dX10_kindle_89 ?_
            refine lv_topi (fun x_602 ex_602 => ?_)
            replace hE := hE.trans (Lt_in ex_602)
            have hx_602 : x_602.toInt = (r_445.toInt - 1) := by rw [ex_602]; exact i_sub rfl (show (1 : Int32).toInt = 1 from rfl) (by have q1 := i_rng (a := r_445) rfl; omega)
            refine kcv (S := Su) (wr := [(r0, .inr (10, [.ref a0])), (t3, .inl (K 0, 24, .inl f3)), (l0, .inl (K 4, 6, .inr (.inr (.inr (.inr fl))))), (t2, .inl (K 0, 6, .inl f2)), (a0, .inr (0, [.ref m0, .ref w0])), (m0, .inr (3, [.ref m1, .int (u_587.2.2.2.1 0)])), (m1, .inl (K 0, 64, .inl (u_587.2.1 0))), (w0, .inl (K 0, 9, .inl (u_450.2.1 0)))]) (va_runVN (As := [.int x, .int 2, .int x_602]) (rest := []) ⟨hx, hb, hml, hown, hts⟩ (w_put_2 l D K t0 x x_602 t1 (.ref t3) (.ref t2) (.ref l0) (.int n) (.int lt) (.int nf) (.int fi) k_8 k_9 f1 gt H.size zgt) ⟨va_cnB 3 hts gX10_kindle_X9_put_n45 rfl rfl rfl (nst_at hN 55 rfl) (hts _ mm_X10_kindle_145) (by decide +kernel) ⟨Nat.le_of_ble_eq_true rfl, Nat.le_of_ble_eq_true rfl⟩, (hts _ mm_X10_kindle_388), (hts _ mm_X10_kindle_5)⟩ (mkV hK hN (hP.sub [3, 4] rfl) (hD.sub [3, 4] (by decide +kernel) rfl) (ci := 9) (q0 := 0) rfl rfl) rfl rfl hl.1 rfl (lv_room (Nat.le_of_ble_eq_true rfl)) dX10_kindle_90 ⟨Nat.le_of_ble_eq_true rfl, Nat.le_of_ble_eq_true rfl⟩) hP hD hS hA [3, 4] [0, 1, 2, 5, 6, 7, 8, 9] rfl rfl (by decide +kernel) (by decide +kernel) (fun u_604 H locs hw hP0 hD0 hS0 => ?_)
            clear hP hD hS
            have hP := hP0
            have hD := hD0
            have hS := hS0
            clear hP0 hD0 hS0
            replace hP : va_P D vwCl [(r0, .inr (10, [.ref a0])), (t3, .inl (K 0, 24, .inl f3)), (l0, .inl (K 4, 6, .inr (.inr (.inr (.inr fl))))), (t2, .inl (K 0, 6, .inl f2)), (a0, .inr (0, [.ref m0, .ref w0])), (m0, .inr (3, [.ref m1, .int (u_587.2.2.2.1 0)])), (m1, .inl (K 0, 64, .inl (u_587.2.1 0))), (w0, .inl (K 0, 9, .inl (u_450.2.1 0))), (t0, .inr (9, [.ref t1, .ref t3, .ref t2, .ref l0, .int n, .int lt, .int nf, .int fi, k_8, k_9])), (t1, .inl (K 0, 56, .inl (u_604.2.1 0)))] H := hP
            replace hD : va_D A [(r0, .inr (10, [.ref a0])), (t3, .inl (K 0, 24, .inl f3)), (l0, .inl (K 4, 6, .inr (.inr (.inr (.inr fl))))), (t2, .inl (K 0, 6, .inl f2)), (a0, .inr (0, [.ref m0, .ref w0])), (m0, .inr (3, [.ref m1, .int (u_587.2.2.2.1 0)])), (m1, .inl (K 0, 64, .inl (u_587.2.1 0))), (w0, .inl (K 0, 9, .inl (u_450.2.1 0))), (t0, .inr (9, [.ref t1, .ref t3, .ref t2, .ref l0, .int n, .int lt, .int nf, .int fi, k_8, k_9])), (t1, .inl (K 0, 56, .inl (u_604.2.1 0)))] := hD
            obtain ⟨k_605, k_606, -⟩ := hw
            replace hE := hE.trans (Lt_in k_606)
            refine lv_aload_n hx hb dX10_kindle_93 rfl (lv_at hl 4 rfl) ?_
            refine lv_iload_n hx hb dX10_kindle_94 rfl (lv_at hl 5 rfl) ?_
            refine lv_iconst (v := 5) hx hb dX10_kindle_95 (by decide +kernel) ?_
            refine lv_iload hx hb dX10_kindle_96 (lv_at hl 0 rfl) ?_
            refine kcv (S := Su) (wr := [(r0, .inr (10, [.ref a0])), (t3, .inl (K 0, 24, .inl f3)), (l0, .inl (K 4, 6, .inr (.inr (.inr (.inr fl))))), (t2, .inl (K 0, 6, .inl f2)), (a0, .inr (0, [.ref m0, .ref w0])), (m0, .inr (3, [.ref m1, .int (u_587.2.2.2.1 0)])), (m1, .inl (K 0, 64, .inl (u_587.2.1 0))), (w0, .inl (K 0, 9, .inl (u_450.2.1 0)))]) (va_runVN (As := [.int x, .int 5, .int x_601]) (rest := []) ⟨hx, hb, hml, hown, hts⟩ (w_put_5 l D K t0 x x_601 t1 (.ref t3) (.ref t2) (.ref l0) (.int n) (.int lt) (.int nf) (.int fi) k_8 k_9 (u_604.2.1 0) gt H.size k_605) ⟨va_cnB 3 hts gX10_kindle_X9_put_n45 rfl rfl rfl (nst_at hN 55 rfl) (hts _ mm_X10_kindle_145) (by decide +kernel) ⟨Nat.le_of_ble_eq_true rfl, Nat.le_of_ble_eq_true rfl⟩, (hts _ mm_X10_kindle_388), (hts _ mm_X10_kindle_5)⟩ (mkV hK hN (hP.sub [8, 9] rfl) (hD.sub [8, 9] (by decide +kernel) rfl) (ci := 9) (q0 := 0) rfl rfl) rfl rfl hl.1 rfl (lv_room (Nat.le_of_ble_eq_true rfl)) dX10_kindle_98 ⟨Nat.le_of_ble_eq_true rfl, Nat.le_of_ble_eq_true rfl⟩) hP hD hS hA [8, 9] [0, 1, 2, 3, 4, 5, 6, 7] rfl rfl (by decide +kernel) (by decide +kernel) (fun u_608 H locs hw hP0 hD0 hS0 => ?_)
            clear hP hD hS
            have hP := hP0
            have hD := hD0
            have hS := hS0
            clear hP0 hD0 hS0
            replace hP : va_P D vwCl [(r0, .inr (10, [.ref a0])), (t3, .inl (K 0, 24, .inl f3)), (l0, .inl (K 4, 6, .inr (.inr (.inr (.inr fl))))), (t2, .inl (K 0, 6, .inl f2)), (a0, .inr (0, [.ref m0, .ref w0])), (m0, .inr (3, [.ref m1, .int (u_587.2.2.2.1 0)])), (m1, .inl (K 0, 64, .inl (u_587.2.1 0))), (w0, .inl (K 0, 9, .inl (u_450.2.1 0))), (t0, .inr (9, [.ref t1, .ref t3, .ref t2, .ref l0, .int n, .int lt, .int nf, .int fi, k_8, k_9])), (t1, .inl (K 0, 56, .inl (u_608.2.1 0)))] H := hP
            replace hD : va_D A [(r0, .inr (10, [.ref a0])), (t3, .inl (K 0, 24, .inl f3)), (l0, .inl (K 4, 6, .inr (.inr (.inr (.inr fl))))), (t2, .inl (K 0, 6, .inl f2)), (a0, .inr (0, [.ref m0, .ref w0])), (m0, .inr (3, [.ref m1, .int (u_587.2.2.2.1 0)])), (m1, .inl (K 0, 64, .inl (u_587.2.1 0))), (w0, .inl (K 0, 9, .inl (u_450.2.1 0))), (t0, .inr (9, [.ref t1, .ref t3, .ref t2, .ref l0, .int n, .int lt, .int nf, .int fi, k_8, k_9])), (t1, .inl (K 0, 56, .inl (u_608.2.1 0)))] := hD
            obtain ⟨k_609, k_610, -⟩ := hw
            replace hE := hE.trans (Lt_in k_610)
            refine lv_iload hx hb dX10_kindle_101 (lv_at hl 0 rfl) ?_
            rw [← hQ]
            have hP9 := hP.sub (ws' := [(r0, .inr (10, [.ref a0])), (a0, .inr (0, [.ref m0, .ref w0])), (m0, .inr (3, [.ref m1, .int (u_587.2.2.2.1 0)])), (m1, .inl (K 0, 64, .inl (u_587.2.1 0))), (w0, .inl (K 0, 9, .inl (u_450.2.1 0))), (t0, .inr (9, [.ref t1, .ref t3, .ref t2, .ref l0, .int n, .int lt, .int nf, .int fi, k_8, k_9])), (t1, .inl (K 0, 56, .inl (u_608.2.1 0))), (t2, .inl (K 0, 6, .inl f2)), (t3, .inl (K 0, 24, .inl f3)), (l0, .inl (K 4, 6, .inr (.inr (.inr (.inr fl)))))]) [0, 4, 5, 6, 7, 8, 9, 3, 1, 2] rfl
            have hD9 := hD.sub (ws' := [(r0, .inr (10, [.ref a0])), (a0, .inr (0, [.ref m0, .ref w0])), (m0, .inr (3, [.ref m1, .int (u_587.2.2.2.1 0)])), (m1, .inl (K 0, 64, .inl (u_587.2.1 0))), (w0, .inl (K 0, 9, .inl (u_450.2.1 0))), (t0, .inr (9, [.ref t1, .ref t3, .ref t2, .ref l0, .int n, .int lt, .int nf, .int fi, k_8, k_9])), (t1, .inl (K 0, 56, .inl (u_608.2.1 0))), (t2, .inl (K 0, 6, .inl f2)), (t3, .inl (K 0, 24, .inl f3)), (l0, .inl (K 4, 6, .inr (.inr (.inr (.inr fl)))))]) [0, 4, 5, 6, 7, 8, 9, 3, 1, 2] (by decide +kernel) rfl
            exact W.iret (v := x_601) hx hb hr (fun t ht hW => ⟨⟨x_601, ((fun _ => 0, fun i => match i with | 0 => (u_587.2.1 0) | 1 => (u_450.2.1 0) | _ => (u_608.2.1 0), fun _ => fun _ => 0, fun i => match i with | _ => (u_587.2.2.2.1 0), fun _ => 0, fun _ => fun _ => none) : Su), rfl, ⟨(show x_601.toInt ≤ 20 by omega), (show 0 ≤ ((u_587.2.2.2.1 0) : Int32).toInt ∧ ((u_587.2.2.2.1 0) : Int32).toInt ≤ 1 by omega), k_609, hE.symm, trivial⟩, (⟨by rw [ht]; exact hP9, hD9⟩ : Wd D A _ t)⟩, hS.F ht⟩) hS.2.2 dX10_kindle_103
          · replace hE := hE.trans Oc_s
            have hl : lv_has ls 6 [(4, .int r_447), (3, .int r_445), (0, .ref r0), (1, .ref t0), (2, .int x)] := hl
            refine W.eq (g2 := F0 m 75 ls [.int 1, .ref q_595, .ref a0, .int r_447, .int 20]) rfl ?_
            refine kci (S := Su) (wr := [(r0, .inr (10, [.ref a0])), (t3, .inl (K 0, 24, .inl f3)), (l0, .inl (K 4, 6, .inr (.inr (.inr (.inr fl))))), (t0, .inr (9, [.ref t1, .ref t3, .ref t2, .ref l0, .int n, .int lt, .int nf, .int fi, k_8, k_9])), (t1, .inl (K 0, 56, .inl f1)), (t2, .inl (K 0, 6, .inl f2))]) (va_runVN (As := [.ref q_595, .int 1]) (rest := [.int r_447, .int 20]) ⟨hx, hb, hml, hown, hts⟩ (w_told l D K g L G a0 q_595 1 m0 w0 m1 (u_587.2.2.2.1 0) (u_587.2.1 0) (u_450.2.1 0) H.size hr_592 (by first | omega | decide) (by first | omega | decide)) ⟨va_cnB 2 hts gX10_kindle_X0_told_n36 rfl rfl rfl (nst_at hN 54 rfl) (hts _ mm_X10_kindle_151) (by decide +kernel) ⟨Nat.le_of_ble_eq_true rfl, Nat.le_of_ble_eq_true rfl⟩, (hts _ mm_X10_kindle_411), (hts _ mm_X10_kindle_13)⟩ (mkVY hK hN (hP.sub [6, 7, 8, 9] rfl) (hD.sub [6, 7, 8, 9] (by decide +kernel) rfl) (ci := 0) (q0 := 0) rfl rfl (fun U hU hW => ⟨Gl.at hG hS hW hU (fun q h => va_free hD hS hA [6, 7, 8, 9] rfl q h), Pool.at hPl hS hU (fun q h => va_free hD hS hA [6, 7, 8, 9] rfl q h), Ro.heap hU (Ro.nil)⟩)) rfl rfl hl.1 rfl (lv_room (Nat.le_of_ble_eq_true rfl)) dX10_kindle_75 ⟨Nat.le_of_ble_eq_true rfl, Nat.le_of_ble_eq_true rfl⟩) hP hD hS hA [6, 7, 8, 9] [0, 1, 2, 3, 4, 5] rfl rfl (by decide +kernel) (by decide +kernel) (fun r_611 u_612 H locs hw hP0 hD0 hS0 => ?_)
            clear hP hD hS
            have hP := hP0
            have hD := hD0
            have hS := hS0
            clear hP0 hD0 hS0
            replace hP : va_P D vwCl [(r0, .inr (10, [.ref a0])), (t3, .inl (K 0, 24, .inl f3)), (l0, .inl (K 4, 6, .inr (.inr (.inr (.inr fl))))), (t0, .inr (9, [.ref t1, .ref t3, .ref t2, .ref l0, .int n, .int lt, .int nf, .int fi, k_8, k_9])), (t1, .inl (K 0, 56, .inl f1)), (t2, .inl (K 0, 6, .inl f2)), (a0, .inr (0, [.ref m0, .ref w0])), (m0, .inr (3, [.ref m1, .int (u_612.2.2.2.1 0)])), (m1, .inl (K 0, 64, .inl (u_612.2.1 0))), (w0, .inl (K 0, 9, .inl (u_450.2.1 0)))] H := hP
            replace hD : va_D A [(r0, .inr (10, [.ref a0])), (t3, .inl (K 0, 24, .inl f3)), (l0, .inl (K 4, 6, .inr (.inr (.inr (.inr fl))))), (t0, .inr (9, [.ref t1, .ref t3, .ref t2, .ref l0, .int n, .int lt, .int nf, .int fi, k_8, k_9])), (t1, .inl (K 0, 56, .inl f1)), (t2, .inl (K 0, 6, .inl f2)), (a0, .inr (0, [.ref m0, .ref w0])), (m0, .inr (3, [.ref m1, .int (u_612.2.2.2.1 0)])), (m1, .inl (K 0, 64, .inl (u_612.2.1 0))), (w0, .inl (K 0, 9, .inl (u_450.2.1 0)))] := hD
            obtain ⟨h_615, k_613, k_614, -⟩ := hw
            replace hE := (hE.trans (Lt2_in k_614)).trans (Lt2_in rfl)
            refine lv_iadd hx hb dX10_kindle_78 ?_
            refine lv_topi (fun x_616 ex_616 => ?_)
            replace hE := hE.trans (Lt_in ex_616)
            refine va_mmin hx hb (hml.trans hl.1.symm) hown (hts _ mm_X10_kindle_600) (hts _ mm_X10_kindle_426) (hts _ mm_X10_kindle_157) (hts _ mm_X10_kindle_427) (Nat.le_of_ble_eq_true rfl) (Nat.le_of_ble_eq_true rfl) (Nat.le_of_ble_eq_true rfl) (Nat.le_of_ble_eq_true rfl) dX10_kindle_79 ?_
            refine lv_topi (fun x_617 ex_617 => ?_)
            replace hE := hE.trans (Lt_in ex_617)
            have hx_617 : (20 ≤ x_616.toInt ∧ x_617.toInt = 20) ∨ (x_616.toInt < 20 ∧ x_617.toInt = x_616.toInt) := by rw [ex_617]; exact i_min (show (20 : Int32).toInt = 20 from rfl) rfl
            replace hx_617 : x_617.toInt ≤ x_616.toInt ∧ x_617.toInt ≤ 20 := by omega
            refine lv_istore (lv' := [(5, .int x_617), (4, .int r_447), (3, .int r_445), (0, .ref r0), (1, .ref t0), (2, .int x)]) hx hb dX10_kindle_82 hl (by decide +kernel) rfl (fun ls hl => ?_)
            refine lv_aload_n hx hb dX10_kindle_84 rfl (lv_at hl 4 rfl) ?_
            refine lv_iload_n hx hb dX10_kindle_85 rfl (lv_at hl 5 rfl) ?_
            refine lv_iconst (v := 2) hx hb dX10_kindle_86 (by decide +kernel) ?_
            refine lv_iload_n hx hb dX10_kindle_87 rfl (lv_at hl 2 rfl) ?_
            refine lv_iconst (v := 1) hx hb dX10_kindle_88 (by decide +kernel) ?_
            refine lv_isub hx hb dX10_kindle_89 ?_
            refine lv_topi (fun x_618 ex_618 => ?_)
            replace hE := hE.trans (Lt_in ex_618)
            have hx_618 : x_618.toInt = (r_445.toInt - 1) := by rw [ex_618]; exact i_sub rfl (show (1 : Int32).toInt = 1 from rfl) (by have q1 := i_rng (a := r_445) rfl; omega)
            refine kcv (S := Su) (wr := [(r0, .inr (10, [.ref a0])), (t3, .inl (K 0, 24, .inl f3)), (l0, .inl (K 4, 6, .inr (.inr (.inr (.inr fl))))), (t2, .inl (K 0, 6, .inl f2)), (a0, .inr (0, [.ref m0, .ref w0])), (m0, .inr (3, [.ref m1, .int (u_612.2.2.2.1 0)])), (m1, .inl (K 0, 64, .inl (u_612.2.1 0))), (w0, .inl (K 0, 9, .inl (u_450.2.1 0)))]) (va_runVN (As := [.int x, .int 2, .int x_618]) (rest := []) ⟨hx, hb, hml, hown, hts⟩ (w_put_2 l D K t0 x x_618 t1 (.ref t3) (.ref t2) (.ref l0) (.int n) (.int lt) (.int nf) (.int fi) k_8 k_9 f1 gt H.size zgt) ⟨va_cnB 3 hts gX10_kindle_X9_put_n45 rfl rfl rfl (nst_at hN 55 rfl) (hts _ mm_X10_kindle_145) (by decide +kernel) ⟨Nat.le_of_ble_eq_true rfl, Nat.le_of_ble_eq_true rfl⟩, (hts _ mm_X10_kindle_388), (hts _ mm_X10_kindle_5)⟩ (mkV hK hN (hP.sub [3, 4] rfl) (hD.sub [3, 4] (by decide +kernel) rfl) (ci := 9) (q0 := 0) rfl rfl) rfl rfl hl.1 rfl (lv_room (Nat.le_of_ble_eq_true rfl)) dX10_kindle_90 ⟨Nat.le_of_ble_eq_true rfl, Nat.le_of_ble_eq_true rfl⟩) hP hD hS hA [3, 4] [0, 1, 2, 5, 6, 7, 8, 9] rfl rfl (by decide +kernel) (by decide +kernel) (fun u_620 H locs hw hP0 hD0 hS0 => ?_)
            clear hP hD hS
            have hP := hP0
            have hD := hD0
            have hS := hS0
            clear hP0 hD0 hS0
            replace hP : va_P D vwCl [(r0, .inr (10, [.ref a0])), (t3, .inl (K 0, 24, .inl f3)), (l0, .inl (K 4, 6, .inr (.inr (.inr (.inr fl))))), (t2, .inl (K 0, 6, .inl f2)), (a0, .inr (0, [.ref m0, .ref w0])), (m0, .inr (3, [.ref m1, .int (u_612.2.2.2.1 0)])), (m1, .inl (K 0, 64, .inl (u_612.2.1 0))), (w0, .inl (K 0, 9, .inl (u_450.2.1 0))), (t0, .inr (9, [.ref t1, .ref t3, .ref t2, .ref l0, .int n, .int lt, .int nf, .int fi, k_8, k_9])), (t1, .inl (K 0, 56, .inl (u_620.2.1 0)))] H := hP
            replace hD : va_D A [(r0, .inr (10, [.ref a0])), (t3, .inl (K 0, 24, .inl f3)), (l0, .inl (K 4, 6, .inr (.inr (.inr (.inr fl))))), (t2, .inl (K 0, 6, .inl f2)), (a0, .inr (0, [.ref m0, .ref w0])), (m0, .inr (3, [.ref m1, .int (u_612.2.2.2.1 0)])), (m1, .inl (K 0, 64, .inl (u_612.2.1 0))), (w0, .inl (K 0, 9, .inl (u_450.2.1 0))), (t0, .inr (9, [.ref t1, .ref t3, .ref t2, .ref l0, .int n, .int lt, .int nf, .int fi, k_8, k_9])), (t1, .inl (K 0, 56, .inl (u_620.2.1 0)))] := hD
            obtain ⟨k_621, k_622, -⟩ := hw
            replace hE := hE.trans (Lt_in k_622)
            refine lv_aload_n hx hb dX10_kindle_93 rfl (lv_at hl 4 rfl) ?_
            refine lv_iload_n hx hb dX10_kindle_94 rfl (lv_at hl 5 rfl) ?_
            refine lv_iconst (v := 5) hx hb dX10_kindle_95 (by decide +kernel) ?_
            refine lv_iload hx hb dX10_kindle_96 (lv_at hl 0 rfl) ?_
            refine kcv (S := Su) (wr := [(r0, .inr (10, [.ref a0])), (t3, .inl (K 0, 24, .inl f3)), (l0, .inl (K 4, 6, .inr (.inr (.inr (.inr fl))))), (t2, .inl (K 0, 6, .inl f2)), (a0, .inr (0, [.ref m0, .ref w0])), (m0, .inr (3, [.ref m1, .int (u_612.2.2.2.1 0)])), (m1, .inl (K 0, 64, .inl (u_612.2.1 0))), (w0, .inl (K 0, 9, .inl (u_450.2.1 0)))]) (va_runVN (As := [.int x, .int 5, .int x_617]) (rest := []) ⟨hx, hb, hml, hown, hts⟩ (w_put_5 l D K t0 x x_617 t1 (.ref t3) (.ref t2) (.ref l0) (.int n) (.int lt) (.int nf) (.int fi) k_8 k_9 (u_620.2.1 0) gt H.size k_621) ⟨va_cnB 3 hts gX10_kindle_X9_put_n45 rfl rfl rfl (nst_at hN 55 rfl) (hts _ mm_X10_kindle_145) (by decide +kernel) ⟨Nat.le_of_ble_eq_true rfl, Nat.le_of_ble_eq_true rfl⟩, (hts _ mm_X10_kindle_388), (hts _ mm_X10_kindle_5)⟩ (mkV hK hN (hP.sub [8, 9] rfl) (hD.sub [8, 9] (by decide +kernel) rfl) (ci := 9) (q0 := 0) rfl rfl) rfl rfl hl.1 rfl (lv_room (Nat.le_of_ble_eq_true rfl)) dX10_kindle_98 ⟨Nat.le_of_ble_eq_true rfl, Nat.le_of_ble_eq_true rfl⟩) hP hD hS hA [8, 9] [0, 1, 2, 3, 4, 5, 6, 7] rfl rfl (by decide +kernel) (by decide +kernel) (fun u_624 H locs hw hP0 hD0 hS0 => ?_)
            clear hP hD hS
            have hP := hP0
            have hD := hD0
            have hS := hS0
            clear hP0 hD0 hS0
            replace hP : va_P D vwCl [(r0, .inr (10, [.ref a0])), (t3, .inl (K 0, 24, .inl f3)), (l0, .inl (K 4, 6, .inr (.inr (.inr (.inr fl))))), (t2, .inl (K 0, 6, .inl f2)), (a0, .inr (0, [.ref m0, .ref w0])), (m0, .inr (3, [.ref m1, .int (u_612.2.2.2.1 0)])), (m1, .inl (K 0, 64, .inl (u_612.2.1 0))), (w0, .inl (K 0, 9, .inl (u_450.2.1 0))), (t0, .inr (9, [.ref t1, .ref t3, .ref t2, .ref l0, .int n, .int lt, .int nf, .int fi, k_8, k_9])), (t1, .inl (K 0, 56, .inl (u_624.2.1 0)))] H := hP
            replace hD : va_D A [(r0, .inr (10, [.ref a0])), (t3, .inl (K 0, 24, .inl f3)), (l0, .inl (K 4, 6, .inr (.inr (.inr (.inr fl))))), (t2, .inl (K 0, 6, .inl f2)), (a0, .inr (0, [.ref m0, .ref w0])), (m0, .inr (3, [.ref m1, .int (u_612.2.2.2.1 0)])), (m1, .inl (K 0, 64, .inl (u_612.2.1 0))), (w0, .inl (K 0, 9, .inl (u_450.2.1 0))), (t0, .inr (9, [.ref t1, .ref t3, .ref t2, .ref l0, .int n, .int lt, .int nf, .int fi, k_8, k_9])), (t1, .inl (K 0, 56, .inl (u_624.2.1 0)))] := hD
            obtain ⟨k_625, k_626, -⟩ := hw
            replace hE := hE.trans (Lt_in k_626)
            refine lv_iload hx hb dX10_kindle_101 (lv_at hl 0 rfl) ?_
            rw [← hQ]
            have hP9 := hP.sub (ws' := [(r0, .inr (10, [.ref a0])), (a0, .inr (0, [.ref m0, .ref w0])), (m0, .inr (3, [.ref m1, .int (u_612.2.2.2.1 0)])), (m1, .inl (K 0, 64, .inl (u_612.2.1 0))), (w0, .inl (K 0, 9, .inl (u_450.2.1 0))), (t0, .inr (9, [.ref t1, .ref t3, .ref t2, .ref l0, .int n, .int lt, .int nf, .int fi, k_8, k_9])), (t1, .inl (K 0, 56, .inl (u_624.2.1 0))), (t2, .inl (K 0, 6, .inl f2)), (t3, .inl (K 0, 24, .inl f3)), (l0, .inl (K 4, 6, .inr (.inr (.inr (.inr fl)))))]) [0, 4, 5, 6, 7, 8, 9, 3, 1, 2] rfl
            have hD9 := hD.sub (ws' := [(r0, .inr (10, [.ref a0])), (a0, .inr (0, [.ref m0, .ref w0])), (m0, .inr (3, [.ref m1, .int (u_612.2.2.2.1 0)])), (m1, .inl (K 0, 64, .inl (u_612.2.1 0))), (w0, .inl (K 0, 9, .inl (u_450.2.1 0))), (t0, .inr (9, [.ref t1, .ref t3, .ref t2, .ref l0, .int n, .int lt, .int nf, .int fi, k_8, k_9])), (t1, .inl (K 0, 56, .inl (u_624.2.1 0))), (t2, .inl (K 0, 6, .inl f2)), (t3, .inl (K 0, 24, .inl f3)), (l0, .inl (K 4, 6, .inr (.inr (.inr (.inr fl)))))]) [0, 4, 5, 6, 7, 8, 9, 3, 1, 2] (by decide +kernel) rfl
            exact W.iret (v := x_617) hx hb hr (fun t ht hW => ⟨⟨x_617, ((fun _ => 0, fun i => match i with | 0 => (u_612.2.1 0) | 1 => (u_450.2.1 0) | _ => (u_624.2.1 0), fun _ => fun _ => 0, fun i => match i with | _ => (u_612.2.2.2.1 0), fun _ => 0, fun _ => fun _ => none) : Su), rfl, ⟨(show x_617.toInt ≤ 20 by omega), (show 0 ≤ ((u_612.2.2.2.1 0) : Int32).toInt ∧ ((u_612.2.2.2.1 0) : Int32).toInt ≤ 1 by omega), k_625, hE.symm, trivial⟩, (⟨by rw [ht]; exact hP9, hD9⟩ : Wd D A _ t)⟩, hS.F ht⟩) hS.2.2 dX10_kindle_103
        · have c_591i := i_eq (x := r_586.toInt) (y := 1) rfl rfl c_591
          replace hE := hE.trans (if_pos c_591)
          exact j_540 (u_587.2.2.2.1 0) (u_587.2.1 0) (by omega) hE _ _ (hP.sub [0, 7, 8, 1, 2, 6, 9, 3, 4, 5] rfl) (hD.sub [0, 7, 8, 1, 2, 6, 9, 3, 4, 5] (by decide +kernel) rfl) hS ls (lv_sub hl [] rfl)
  · replace hE := (hE).trans (if_neg (by first | decide | (intro h9; have h8 := congrArg Int32.toInt h9; omega)))
    refine lv_if_ne (tgt := 11) hx hb dX10_kindle_5 (by decide +kernel) (fun c_627 => absurd (by decide +kernel) c_627) (fun c_627 => ?_)
    refine lv_bipush (v := (-2)) hx hb dX10_kindle_8 (by decide +kernel) ?_
    rw [← hQ]
    have hP9 := hP.sub (ws' := [(r0, .inr (10, [.ref a0])), (a0, .inr (0, [.ref m0, .ref w0])), (m0, .inr (3, [.ref m1, .int br])), (m1, .inl (K 0, 64, .inl fs)), (w0, .inl (K 0, 9, .inl fw)), (t0, .inr (9, [.ref t1, .ref t3, .ref t2, .ref l0, .int n, .int lt, .int nf, .int fi, k_8, k_9])), (t1, .inl (K 0, 56, .inl f1)), (t2, .inl (K 0, 6, .inl f2)), (t3, .inl (K 0, 24, .inl f3)), (l0, .inl (K 4, 6, .inr (.inr (.inr (.inr fl)))))]) [0, 1, 2, 3, 4, 5, 6, 7, 8, 9] rfl
    have hD9 := hD.sub (ws' := [(r0, .inr (10, [.ref a0])), (a0, .inr (0, [.ref m0, .ref w0])), (m0, .inr (3, [.ref m1, .int br])), (m1, .inl (K 0, 64, .inl fs)), (w0, .inl (K 0, 9, .inl fw)), (t0, .inr (9, [.ref t1, .ref t3, .ref t2, .ref l0, .int n, .int lt, .int nf, .int fi, k_8, k_9])), (t1, .inl (K 0, 56, .inl f1)), (t2, .inl (K 0, 6, .inl f2)), (t3, .inl (K 0, 24, .inl f3)), (l0, .inl (K 4, 6, .inr (.inr (.inr (.inr fl)))))]) [0, 1, 2, 3, 4, 5, 6, 7, 8, 9] (by decide +kernel) rfl
    exact W.iret (v := (-2)) hx hb hr (fun t ht hW => ⟨⟨(-2), ((fun _ => 0, fun i => match i with | 0 => fs | 1 => fw | _ => f1, fun _ => fun _ => 0, fun i => match i with | _ => br, fun _ => 0, fun _ => fun _ => none) : Su), rfl, ⟨(show ((-2) : Int32).toInt ≤ 20 by decide), (show 0 ≤ (br : Int32).toInt ∧ (br : Int32).toInt ≤ 1 by omega), zgt, hE.symm, trivial⟩, (⟨by rw [ht]; exact hP9, hD9⟩ : Wd D A _ t)⟩, hS.F ht⟩) hS.2.2 dX10_kindle_10
set_option maxRecDepth 100000 in
noncomputable def E_w_quench (x : Int32) (y : Int32) (n : Int32) (f1 : Nat → Int32) : Int32 × (Nat → Int32) :=
  Lt (E_w_within y 1 20) (fun r_105 => if r_105 = 1 then (Lt (E_w_has x n) (fun r_111 => if r_111 = 1 then (Lt (E_w_fact x 5 f1) (fun r_117 => Lt (r_117 - y : Int32) (fun x_119 => Lt (if (0 : Int32) < (x_119 : Int32) then (x_119 : Int32) else (0 : Int32) : Int32) (fun x_120 => Lt (E_w_put_5 x x_120 f1) (fun u_122_2_1_0 => ((x_120, u_122_2_1_0) : Int32 × (Nat → Int32))))))) else ((((-2), f1) : Int32 × (Nat → Int32))))) else ((((-1), f1) : Int32 × (Nat → Int32))))
set_option maxHeartbeats 4000000 in
set_option maxRecDepth 100000 in
theorem w_quench (l : Launch) (D : va_G) (K : Nat → ClassId) (r0 : Nat) (t0 : Nat) (x : Int32) (y : Int32) (r_0 : Value) (t1 : Nat) (k_1 : Value) (k_2 : Value) (k_3 : Value) (n : Int32) (k_5 : Value) (k_6 : Value) (k_7 : Value) (k_8 : Value) (k_9 : Value) (f1 : Nat → Int32) (gt : Nat → Int32) (sz : Nat) (zn : 0 ≤ n.toInt ∧ n.toInt ≤ 8) (zgt : FzC gt f1) : Met l yX10_quench wsX10_quench ({ frames := 2, cells := 0, slots := 0, locals := 45 }) (va_Pc [.ref r0, .ref t0, .int x, .int y] (Pre D K [(r0, .inr (10, [r_0])), (t0, .inr (9, [.ref t1, k_1, k_2, k_3, .int n, k_5, k_6, k_7, k_8, k_9])), (t1, .inl (K 0, 56, .inl f1))] sz)) (va_Qi (S := Su) (fun (r : Int32) (u : Su) => ((-2) ≤ r.toInt) ∧ (FzC gt (u.2.1 0)) ∧ ((r, (u.2.1 0)) = E_w_quench x y n f1) ∧ True) (fun u t => Wd D (va_A [(r0, .inr (10, [r_0])), (t0, .inr (9, [.ref t1, k_1, k_2, k_3, .int n, k_5, k_6, k_7, k_8, k_9])), (t1, .inl (K 0, 56, .inl f1))] sz) ((fun u => [(r0, .inr (10, [r_0])), (t0, .inr (9, [.ref t1, k_1, k_2, k_3, .int n, k_5, k_6, k_7, k_8, k_9])), (t1, .inl (K 0, 56, .inl (u.2.1 0)))]) u) t) (va_A [(r0, .inr (10, [r_0])), (t0, .inr (9, [.ref t1, k_1, k_2, k_3, .int n, k_5, k_6, k_7, k_8, k_9])), (t1, .inl (K 0, 56, .inl f1))] sz)) 0 0 (va_A [(r0, .inr (10, [r_0])), (t0, .inr (9, [.ref t1, k_1, k_2, k_3, .int n, k_5, k_6, k_7, k_8, k_9])), (t1, .inl (K 0, 56, .inl f1))] sz) := by
  refine Met.ofW (cc := cX10_quench) (maxL := 5) (ret := (some .int)) (by decide +kernel) rfl ?_
  intro p e s m args below meth c s₁ B hml hv
  obtain ⟨rfl, hsz, hP, hK, hD0, hN⟩ := hv
  have hx := B.exec
  have hb := B.bytes
  have hr := B.returns
  have hts := atoms_spec (ws := wsX10_quench) B.pre
  have hown : s.vm.findClass RX10 = some m.cls := findClass_of_methodNamed B.named
  have hlocks := B.notSynchronized
  subst hsz
  have hD := hD0.self (sz := s.heap.size)
  generalize hAe : va_A [(r0, .inr (10, [r_0])), (t0, .inr (9, [.ref t1, k_1, k_2, k_3, .int n, k_5, k_6, k_7, k_8, k_9])), (t1, .inl (K 0, 56, .inl f1))] s.heap.size = A at hD ⊢
  have hA : ∀ q : Nat, s.heap.size ≤ q → A q := fun q h => by rw [← hAe]; exact Or.inr h
  clear hAe
  have hS : va_S A s.heap s.heap [] := va_S.rf
  replace hP : va_P D vwCl [(r0, .inr (10, [r_0])), (t0, .inr (9, [.ref t1, k_1, k_2, k_3, .int n, k_5, k_6, k_7, k_8, k_9])), (t1, .inl (K 0, 56, .inl f1))] s.heap := hP
  have hl := lv_entry [.ref r0, .ref t0, .int x, .int y] (n := 5) (Nat.le_of_ble_eq_true rfl)
  rw [lg_entry_eq]
  generalize (lg_sl [.ref r0, .ref t0, .int x, .int y] ++ List.replicate (5 - (lg_sl [.ref r0, .ref t0, .int x, .int y]).length) Slot.unset).toArray = ls at hl ⊢
  have hl : lv_has ls 5 [(0, .ref r0), (1, .ref t0), (2, .int x), (3, .int y)] := hl
  have hw9 : ∀ w ∈ wsX90, w ∈ wsX10_quench := fun w h => (List.mem_cons_of_mem _ (List.mem_append_right _ h))
  generalize hQ : MQ below _ _ s _ _ _ = Q
  have hE := E_w_quench.eq_def x y n f1
  refine lv_iload_n hx hb dX10_quench_0 rfl (lv_at hl 3 rfl) ?_
  refine lv_iconst (v := 1) hx hb dX10_quench_1 (by decide +kernel) ?_
  refine lv_bipush (v := 20) hx hb dX10_quench_2 (by decide +kernel) ?_
  refine pci (va_runSN (As := [.int y, .int 1, .int 20]) (rest := []) ⟨hx, hb, hml, hown, hts⟩ (w_within l D K y.toInt 1 20 y 1 20 s.heap.size rfl (show (1 : Int32).toInt = 1 from rfl) (show (20 : Int32).toInt = 20 from rfl)) ⟨va_cnB 3 hts gX10_quench_X11_within_n49 rfl rfl rfl (nst_at hN 57 rfl) (hts _ mm_X10_quench_144) (by decide +kernel) ⟨Nat.le_of_ble_eq_true rfl, Nat.le_of_ble_eq_true rfl⟩, (hts _ mm_X10_quench_373), trivial⟩ (mkS hK hN (va_P.nil) (va_D.nil (A := fun _ => True))) rfl rfl hl.1 rfl (lv_room (Nat.le_of_ble_eq_true rfl)) dX10_quench_4 ⟨Nat.le_of_ble_eq_true rfl, Nat.le_of_ble_eq_true rfl⟩) (fun r_105 hw => ?_)
  obtain ⟨hw, k_106, -⟩ := hw
  replace hE := hE.trans (Lt_in k_106)
  rcases hw with ⟨rfl, h_107, h_108⟩ | ⟨rfl, h_109⟩
  · replace hE := (hE).trans (if_pos rfl)
    refine lv_if_ne (tgt := 12) hx hb dX10_quench_7 (by decide +kernel) (fun c_110 => ?_) (fun c_110 => absurd c_110 (by decide +kernel))
    refine lv_aload_n hx hb dX10_quench_12 rfl (lv_at hl 1 rfl) ?_
    refine lv_iload_n hx hb dX10_quench_13 rfl (lv_at hl 2 rfl) ?_
    refine pci (va_runVN (As := [.int x]) (rest := []) ⟨hx, hb, hml, hown, hts⟩ (w_has l D K x.toInt n.toInt t0 x (.ref t1) k_1 k_2 k_3 n k_5 k_6 k_7 k_8 k_9 s.heap.size rfl rfl) ⟨va_cnB 1 hts gX10_quench_X9_has_n18 rfl rfl rfl (nst_at hN 50 rfl) (hts _ mm_X10_quench_145) (by decide +kernel) ⟨Nat.le_of_ble_eq_true rfl, Nat.le_of_ble_eq_true rfl⟩, (hts _ mm_X10_quench_397), (hts _ mm_X10_quench_7)⟩ (mkV hK hN (hP.sub [1] rfl) (hD.sub [1] (by decide +kernel) rfl) (ci := 9) (q0 := 0) rfl rfl) rfl rfl hl.1 rfl (lv_room (Nat.le_of_ble_eq_true rfl)) dX10_quench_14 ⟨Nat.le_of_ble_eq_true rfl, Nat.le_of_ble_eq_true rfl⟩) (fun r_111 hw => ?_)
    obtain ⟨hw, k_112, -⟩ := hw
    replace hE := hE.trans (Lt_in k_112)
    rcases hw with ⟨rfl, h_113, h_114⟩ | ⟨rfl, h_115⟩
    · replace hE := (hE).trans (if_pos rfl)
      refine lv_if_ne (tgt := 23) hx hb dX10_quench_17 (by decide +kernel) (fun c_116 => ?_) (fun c_116 => absurd c_116 (by decide +kernel))
      refine lv_iconst (v := 0) hx hb dX10_quench_23 (by decide +kernel) ?_
      refine lv_aload_n hx hb dX10_quench_24 rfl (lv_at hl 1 rfl) ?_
      refine lv_iload_n hx hb dX10_quench_25 rfl (lv_at hl 2 rfl) ?_
      refine lv_iconst (v := 5) hx hb dX10_quench_26 (by decide +kernel) ?_
      refine pci (va_runVN (As := [.int x, .int 5]) (rest := [.int 0]) ⟨hx, hb, hml, hown, hts⟩ (w_fact l D K t0 x 5 t1 k_1 k_2 k_3 (.int n) k_5 k_6 k_7 k_8 k_9 f1 s.heap.size) ⟨va_cnB 2 hts gX10_quench_X9_fact_n24 rfl rfl rfl (nst_at hN 51 rfl) (hts _ mm_X10_quench_145) (by decide +kernel) ⟨Nat.le_of_ble_eq_true rfl, Nat.le_of_ble_eq_true rfl⟩, (hts _ mm_X10_quench_381), (hts _ mm_X10_quench_2)⟩ (mkV hK hN (hP.sub [1, 2] rfl) (hD.sub [1, 2] (by decide +kernel) rfl) (ci := 9) (q0 := 0) rfl rfl) rfl rfl hl.1 rfl (lv_room (Nat.le_of_ble_eq_true rfl)) dX10_quench_27 ⟨Nat.le_of_ble_eq_true rfl, Nat.le_of_ble_eq_true rfl⟩) (fun r_117 hw => ?_)
      obtain ⟨k_118, -⟩ := hw
      replace hE := hE.trans (Lt_in k_118)
      refine lv_iload_n hx hb dX10_quench_30 rfl (lv_at hl 3 rfl) ?_
      refine lv_isub hx hb dX10_quench_31 ?_
      refine lv_topi (fun x_119 ex_119 => ?_)
      replace hE := hE.trans (Lt_in ex_119)
      refine va_mmax hx hb (hml.trans hl.1.symm) hown (hts _ mm_X10_quench_603) (hts _ mm_X10_quench_418) (hts _ mm_X10_quench_157) (hts _ mm_X10_quench_419) (Nat.le_of_ble_eq_true rfl) (Nat.le_of_ble_eq_true rfl) (Nat.le_of_ble_eq_true rfl) (Nat.le_of_ble_eq_true rfl) dX10_quench_32 ?_
      refine lv_topi (fun x_120 ex_120 => ?_)
      replace hE := hE.trans (Lt_in ex_120)
      have hx_120 : (x_119.toInt ≤ 0 ∧ x_120.toInt = 0) ∨ (0 < x_119.toInt ∧ x_120.toInt = x_119.toInt) := by rw [ex_120]; exact i_max (show (0 : Int32).toInt = 0 from rfl) rfl
      replace hx_120 : x_119.toInt ≤ x_120.toInt ∧ 0 ≤ x_120.toInt := by omega
      refine lv_istore (lv' := [(4, .int x_120), (0, .ref r0), (1, .ref t0), (2, .int x), (3, .int y)]) hx hb dX10_quench_35 hl (by decide +kernel) rfl (fun ls hl => ?_)
      refine lv_aload_n hx hb dX10_quench_37 rfl (lv_at hl 2 rfl) ?_
      refine lv_iload_n hx hb dX10_quench_38 rfl (lv_at hl 3 rfl) ?_
      refine lv_iconst (v := 5) hx hb dX10_quench_39 (by decide +kernel) ?_
      refine lv_iload hx hb dX10_quench_40 (lv_at hl 0 rfl) ?_
      refine kcv (S := Su) (wr := [(r0, .inr (10, [r_0]))]) (va_runVN (As := [.int x, .int 5, .int x_120]) (rest := []) ⟨hx, hb, hml, hown, hts⟩ (w_put_5 l D K t0 x x_120 t1 k_1 k_2 k_3 (.int n) k_5 k_6 k_7 k_8 k_9 f1 gt s.heap.size zgt) ⟨va_cnB 3 hts gX10_quench_X9_put_n45 rfl rfl rfl (nst_at hN 55 rfl) (hts _ mm_X10_quench_145) (by decide +kernel) ⟨Nat.le_of_ble_eq_true rfl, Nat.le_of_ble_eq_true rfl⟩, (hts _ mm_X10_quench_388), (hts _ mm_X10_quench_5)⟩ (mkV hK hN (hP.sub [1, 2] rfl) (hD.sub [1, 2] (by decide +kernel) rfl) (ci := 9) (q0 := 0) rfl rfl) rfl rfl hl.1 rfl (lv_room (Nat.le_of_ble_eq_true rfl)) dX10_quench_42 ⟨Nat.le_of_ble_eq_true rfl, Nat.le_of_ble_eq_true rfl⟩) hP hD hS hA [1, 2] [0] rfl rfl (by decide +kernel) (by decide +kernel) (fun u_122 H locs hw hP0 hD0 hS0 => ?_)
      clear hP hD hS
      have hP := hP0
      have hD := hD0
      have hS := hS0
      clear hP0 hD0 hS0
      replace hP : va_P D vwCl [(r0, .inr (10, [r_0])), (t0, .inr (9, [.ref t1, k_1, k_2, k_3, .int n, k_5, k_6, k_7, k_8, k_9])), (t1, .inl (K 0, 56, .inl (u_122.2.1 0)))] H := hP
      replace hD : va_D A [(r0, .inr (10, [r_0])), (t0, .inr (9, [.ref t1, k_1, k_2, k_3, .int n, k_5, k_6, k_7, k_8, k_9])), (t1, .inl (K 0, 56, .inl (u_122.2.1 0)))] := hD
      obtain ⟨k_123, k_124, -⟩ := hw
      replace hE := hE.trans (Lt_in k_124)
      refine lv_iload hx hb dX10_quench_45 (lv_at hl 0 rfl) ?_
      rw [← hQ]
      have hP9 := hP.sub (ws' := [(r0, .inr (10, [r_0])), (t0, .inr (9, [.ref t1, k_1, k_2, k_3, .int n, k_5, k_6, k_7, k_8, k_9])), (t1, .inl (K 0, 56, .inl (u_122.2.1 0)))]) [0, 1, 2] rfl
      have hD9 := hD.sub (ws' := [(r0, .inr (10, [r_0])), (t0, .inr (9, [.ref t1, k_1, k_2, k_3, .int n, k_5, k_6, k_7, k_8, k_9])), (t1, .inl (K 0, 56, .inl (u_122.2.1 0)))]) [0, 1, 2] (by decide +kernel) rfl
      exact W.iret (v := x_120) hx hb hr (fun t ht hW => ⟨⟨x_120, ((fun _ => 0, fun i => match i with | _ => (u_122.2.1 0), fun _ => fun _ => 0, fun _ => 0, fun _ => 0, fun _ => fun _ => none) : Su), rfl, ⟨(show (-2) ≤ x_120.toInt by omega), k_123, hE.symm, trivial⟩, (⟨by rw [ht]; exact hP9, hD9⟩ : Wd D A _ t)⟩, hS.F ht⟩) hS.2.2 dX10_quench_47
    · replace hE := (hE).trans (if_neg (by first | decide | (intro h9; have h8 := congrArg Int32.toInt h9; omega)))
      refine lv_if_ne (tgt := 23) hx hb dX10_quench_17 (by decide +kernel) (fun c_125 => absurd (by decide +kernel) c_125) (fun c_125 => ?_)
      refine lv_bipush (v := (-2)) hx hb dX10_quench_20 (by decide +kernel) ?_
      rw [← hQ]
      have hP9 := hP.sub (ws' := [(r0, .inr (10, [r_0])), (t0, .inr (9, [.ref t1, k_1, k_2, k_3, .int n, k_5, k_6, k_7, k_8, k_9])), (t1, .inl (K 0, 56, .inl f1))]) [0, 1, 2] rfl
      have hD9 := hD.sub (ws' := [(r0, .inr (10, [r_0])), (t0, .inr (9, [.ref t1, k_1, k_2, k_3, .int n, k_5, k_6, k_7, k_8, k_9])), (t1, .inl (K 0, 56, .inl f1))]) [0, 1, 2] (by decide +kernel) rfl
      exact W.iret (v := (-2)) hx hb hr (fun t ht hW => ⟨⟨(-2), ((fun _ => 0, fun i => match i with | _ => f1, fun _ => fun _ => 0, fun _ => 0, fun _ => 0, fun _ => fun _ => none) : Su), rfl, ⟨(show (-2) ≤ ((-2) : Int32).toInt by decide), zgt, hE.symm, trivial⟩, (⟨by rw [ht]; exact hP9, hD9⟩ : Wd D A _ t)⟩, hS.F ht⟩) hS.2.2 dX10_quench_22
  · replace hE := (hE).trans (if_neg (by first | decide | (intro h9; have h8 := congrArg Int32.toInt h9; omega)))
    refine lv_if_ne (tgt := 12) hx hb dX10_quench_7 (by decide +kernel) (fun c_126 => absurd (by decide +kernel) c_126) (fun c_126 => ?_)
    refine lv_iconst (v := (-1)) hx hb dX10_quench_10 (by decide +kernel) ?_
    rw [← hQ]
    have hP9 := hP.sub (ws' := [(r0, .inr (10, [r_0])), (t0, .inr (9, [.ref t1, k_1, k_2, k_3, .int n, k_5, k_6, k_7, k_8, k_9])), (t1, .inl (K 0, 56, .inl f1))]) [0, 1, 2] rfl
    have hD9 := hD.sub (ws' := [(r0, .inr (10, [r_0])), (t0, .inr (9, [.ref t1, k_1, k_2, k_3, .int n, k_5, k_6, k_7, k_8, k_9])), (t1, .inl (K 0, 56, .inl f1))]) [0, 1, 2] (by decide +kernel) rfl
    exact W.iret (v := (-1)) hx hb hr (fun t ht hW => ⟨⟨(-1), ((fun _ => 0, fun i => match i with | _ => f1, fun _ => fun _ => 0, fun _ => 0, fun _ => 0, fun _ => fun _ => none) : Su), rfl, ⟨(show (-2) ≤ ((-1) : Int32).toInt by decide), zgt, hE.symm, trivial⟩, (⟨by rw [ht]; exact hP9, hD9⟩ : Wd D A _ t)⟩, hS.F ht⟩) hS.2.2 dX10_quench_11
set_option maxRecDepth 100000 in
noncomputable def E_w_supply (x : Int32) (y : Int32) (n : Int32) (f1 : Nat → Int32) : Int32 × (Nat → Int32) :=
  Lt (E_w_within y 1 999) (fun r_105 => if r_105 = 1 then (Lt (E_w_has x n) (fun r_111 => if r_111 = 1 then (Lt (E_w_fact x 2 f1) (fun r_117 => Lt (r_117 + y : Int32) (fun x_119 => Lt (if (x_119 : Int32) < (999 : Int32) then (x_119 : Int32) else (999 : Int32) : Int32) (fun x_120 => Lt (E_w_put_2 x x_120 f1) (fun u_122_2_1_0 => ((x_120, u_122_2_1_0) : Int32 × (Nat → Int32))))))) else ((((-2), f1) : Int32 × (Nat → Int32))))) else ((((-1), f1) : Int32 × (Nat → Int32))))
set_option maxHeartbeats 4000000 in
set_option maxRecDepth 100000 in
theorem w_supply (l : Launch) (D : va_G) (K : Nat → ClassId) (r0 : Nat) (t0 : Nat) (x : Int32) (y : Int32) (r_0 : Value) (t1 : Nat) (k_1 : Value) (k_2 : Value) (k_3 : Value) (n : Int32) (k_5 : Value) (k_6 : Value) (k_7 : Value) (k_8 : Value) (k_9 : Value) (f1 : Nat → Int32) (gt : Nat → Int32) (sz : Nat) (zn : 0 ≤ n.toInt ∧ n.toInt ≤ 8) (zgt : FzC gt f1) : Met l yX10_supply wsX10_supply ({ frames := 2, cells := 0, slots := 0, locals := 45 }) (va_Pc [.ref r0, .ref t0, .int x, .int y] (Pre D K [(r0, .inr (10, [r_0])), (t0, .inr (9, [.ref t1, k_1, k_2, k_3, .int n, k_5, k_6, k_7, k_8, k_9])), (t1, .inl (K 0, 56, .inl f1))] sz)) (va_Qi (S := Su) (fun (r : Int32) (u : Su) => (r.toInt ≤ 999) ∧ (FzC gt (u.2.1 0)) ∧ ((r, (u.2.1 0)) = E_w_supply x y n f1) ∧ True) (fun u t => Wd D (va_A [(r0, .inr (10, [r_0])), (t0, .inr (9, [.ref t1, k_1, k_2, k_3, .int n, k_5, k_6, k_7, k_8, k_9])), (t1, .inl (K 0, 56, .inl f1))] sz) ((fun u => [(r0, .inr (10, [r_0])), (t0, .inr (9, [.ref t1, k_1, k_2, k_3, .int n, k_5, k_6, k_7, k_8, k_9])), (t1, .inl (K 0, 56, .inl (u.2.1 0)))]) u) t) (va_A [(r0, .inr (10, [r_0])), (t0, .inr (9, [.ref t1, k_1, k_2, k_3, .int n, k_5, k_6, k_7, k_8, k_9])), (t1, .inl (K 0, 56, .inl f1))] sz)) 0 0 (va_A [(r0, .inr (10, [r_0])), (t0, .inr (9, [.ref t1, k_1, k_2, k_3, .int n, k_5, k_6, k_7, k_8, k_9])), (t1, .inl (K 0, 56, .inl f1))] sz) := by
  refine Met.ofW (cc := cX10_supply) (maxL := 5) (ret := (some .int)) (by decide +kernel) rfl ?_
  intro p e s m args below meth c s₁ B hml hv
  obtain ⟨rfl, hsz, hP, hK, hD0, hN⟩ := hv
  have hx := B.exec
  have hb := B.bytes
  have hr := B.returns
  have hts := atoms_spec (ws := wsX10_supply) B.pre
  have hown : s.vm.findClass RX10 = some m.cls := findClass_of_methodNamed B.named
  have hlocks := B.notSynchronized
  subst hsz
  have hD := hD0.self (sz := s.heap.size)
  generalize hAe : va_A [(r0, .inr (10, [r_0])), (t0, .inr (9, [.ref t1, k_1, k_2, k_3, .int n, k_5, k_6, k_7, k_8, k_9])), (t1, .inl (K 0, 56, .inl f1))] s.heap.size = A at hD ⊢
  have hA : ∀ q : Nat, s.heap.size ≤ q → A q := fun q h => by rw [← hAe]; exact Or.inr h
  clear hAe
  have hS : va_S A s.heap s.heap [] := va_S.rf
  replace hP : va_P D vwCl [(r0, .inr (10, [r_0])), (t0, .inr (9, [.ref t1, k_1, k_2, k_3, .int n, k_5, k_6, k_7, k_8, k_9])), (t1, .inl (K 0, 56, .inl f1))] s.heap := hP
  have hl := lv_entry [.ref r0, .ref t0, .int x, .int y] (n := 5) (Nat.le_of_ble_eq_true rfl)
  rw [lg_entry_eq]
  generalize (lg_sl [.ref r0, .ref t0, .int x, .int y] ++ List.replicate (5 - (lg_sl [.ref r0, .ref t0, .int x, .int y]).length) Slot.unset).toArray = ls at hl ⊢
  have hl : lv_has ls 5 [(0, .ref r0), (1, .ref t0), (2, .int x), (3, .int y)] := hl
  have hw9 : ∀ w ∈ wsX90, w ∈ wsX10_supply := fun w h => (List.mem_cons_of_mem _ (List.mem_append_right _ h))
  generalize hQ : MQ below _ _ s _ _ _ = Q
  have hE := E_w_supply.eq_def x y n f1
  refine lv_iload_n hx hb dX10_supply_0 rfl (lv_at hl 3 rfl) ?_
  refine lv_iconst (v := 1) hx hb dX10_supply_1 (by decide +kernel) ?_
  refine lv_sipush (v := 999) hx hb dX10_supply_2 (by decide +kernel) ?_
  refine pci (va_runSN (As := [.int y, .int 1, .int 999]) (rest := []) ⟨hx, hb, hml, hown, hts⟩ (w_within l D K y.toInt 1 999 y 1 999 s.heap.size rfl (show (1 : Int32).toInt = 1 from rfl) (show (999 : Int32).toInt = 999 from rfl)) ⟨va_cnB 3 hts gX10_supply_X11_within_n49 rfl rfl rfl (nst_at hN 57 rfl) (hts _ mm_X10_supply_144) (by decide +kernel) ⟨Nat.le_of_ble_eq_true rfl, Nat.le_of_ble_eq_true rfl⟩, (hts _ mm_X10_supply_373), trivial⟩ (mkS hK hN (va_P.nil) (va_D.nil (A := fun _ => True))) rfl rfl hl.1 rfl (lv_room (Nat.le_of_ble_eq_true rfl)) dX10_supply_5 ⟨Nat.le_of_ble_eq_true rfl, Nat.le_of_ble_eq_true rfl⟩) (fun r_105 hw => ?_)
  obtain ⟨hw, k_106, -⟩ := hw
  replace hE := hE.trans (Lt_in k_106)
  rcases hw with ⟨rfl, h_107, h_108⟩ | ⟨rfl, h_109⟩
  · replace hE := (hE).trans (if_pos rfl)
    refine lv_if_ne (tgt := 13) hx hb dX10_supply_8 (by decide +kernel) (fun c_110 => ?_) (fun c_110 => absurd c_110 (by decide +kernel))
    refine lv_aload_n hx hb dX10_supply_13 rfl (lv_at hl 1 rfl) ?_
    refine lv_iload_n hx hb dX10_supply_14 rfl (lv_at hl 2 rfl) ?_
    refine pci (va_runVN (As := [.int x]) (rest := []) ⟨hx, hb, hml, hown, hts⟩ (w_has l D K x.toInt n.toInt t0 x (.ref t1) k_1 k_2 k_3 n k_5 k_6 k_7 k_8 k_9 s.heap.size rfl rfl) ⟨va_cnB 1 hts gX10_supply_X9_has_n18 rfl rfl rfl (nst_at hN 50 rfl) (hts _ mm_X10_supply_145) (by decide +kernel) ⟨Nat.le_of_ble_eq_true rfl, Nat.le_of_ble_eq_true rfl⟩, (hts _ mm_X10_supply_397), (hts _ mm_X10_supply_7)⟩ (mkV hK hN (hP.sub [1] rfl) (hD.sub [1] (by decide +kernel) rfl) (ci := 9) (q0 := 0) rfl rfl) rfl rfl hl.1 rfl (lv_room (Nat.le_of_ble_eq_true rfl)) dX10_supply_15 ⟨Nat.le_of_ble_eq_true rfl, Nat.le_of_ble_eq_true rfl⟩) (fun r_111 hw => ?_)
    obtain ⟨hw, k_112, -⟩ := hw
    replace hE := hE.trans (Lt_in k_112)
    rcases hw with ⟨rfl, h_113, h_114⟩ | ⟨rfl, h_115⟩
    · replace hE := (hE).trans (if_pos rfl)
      refine lv_if_ne (tgt := 24) hx hb dX10_supply_18 (by decide +kernel) (fun c_116 => ?_) (fun c_116 => absurd c_116 (by decide +kernel))
      refine lv_sipush (v := 999) hx hb dX10_supply_24 (by decide +kernel) ?_
      refine lv_aload_n hx hb dX10_supply_27 rfl (lv_at hl 1 rfl) ?_
      refine lv_iload_n hx hb dX10_supply_28 rfl (lv_at hl 2 rfl) ?_
      refine lv_iconst (v := 2) hx hb dX10_supply_29 (by decide +kernel) ?_
      refine pci (va_runVN (As := [.int x, .int 2]) (rest := [.int 999]) ⟨hx, hb, hml, hown, hts⟩ (w_fact l D K t0 x 2 t1 k_1 k_2 k_3 (.int n) k_5 k_6 k_7 k_8 k_9 f1 s.heap.size) ⟨va_cnB 2 hts gX10_supply_X9_fact_n24 rfl rfl rfl (nst_at hN 51 rfl) (hts _ mm_X10_supply_145) (by decide +kernel) ⟨Nat.le_of_ble_eq_true rfl, Nat.le_of_ble_eq_true rfl⟩, (hts _ mm_X10_supply_381), (hts _ mm_X10_supply_2)⟩ (mkV hK hN (hP.sub [1, 2] rfl) (hD.sub [1, 2] (by decide +kernel) rfl) (ci := 9) (q0 := 0) rfl rfl) rfl rfl hl.1 rfl (lv_room (Nat.le_of_ble_eq_true rfl)) dX10_supply_30 ⟨Nat.le_of_ble_eq_true rfl, Nat.le_of_ble_eq_true rfl⟩) (fun r_117 hw => ?_)
      obtain ⟨k_118, -⟩ := hw
      replace hE := hE.trans (Lt_in k_118)
      refine lv_iload_n hx hb dX10_supply_33 rfl (lv_at hl 3 rfl) ?_
      refine lv_iadd hx hb dX10_supply_34 ?_
      refine lv_topi (fun x_119 ex_119 => ?_)
      replace hE := hE.trans (Lt_in ex_119)
      refine va_mmin hx hb (hml.trans hl.1.symm) hown (hts _ mm_X10_supply_600) (hts _ mm_X10_supply_426) (hts _ mm_X10_supply_157) (hts _ mm_X10_supply_427) (Nat.le_of_ble_eq_true rfl) (Nat.le_of_ble_eq_true rfl) (Nat.le_of_ble_eq_true rfl) (Nat.le_of_ble_eq_true rfl) dX10_supply_35 ?_
      refine lv_topi (fun x_120 ex_120 => ?_)
      replace hE := hE.trans (Lt_in ex_120)
      have hx_120 : (999 ≤ x_119.toInt ∧ x_120.toInt = 999) ∨ (x_119.toInt < 999 ∧ x_120.toInt = x_119.toInt) := by rw [ex_120]; exact i_min (show (999 : Int32).toInt = 999 from rfl) rfl
      replace hx_120 : x_120.toInt ≤ x_119.toInt ∧ x_120.toInt ≤ 999 := by omega
      refine lv_istore (lv' := [(4, .int x_120), (0, .ref r0), (1, .ref t0), (2, .int x), (3, .int y)]) hx hb dX10_supply_38 hl (by decide +kernel) rfl (fun ls hl => ?_)
      refine lv_aload_n hx hb dX10_supply_40 rfl (lv_at hl 2 rfl) ?_
      refine lv_iload_n hx hb dX10_supply_41 rfl (lv_at hl 3 rfl) ?_
      refine lv_iconst (v := 2) hx hb dX10_supply_42 (by decide +kernel) ?_
      refine lv_iload hx hb dX10_supply_43 (lv_at hl 0 rfl) ?_
      refine kcv (S := Su) (wr := [(r0, .inr (10, [r_0]))]) (va_runVN (As := [.int x, .int 2, .int x_120]) (rest := []) ⟨hx, hb, hml, hown, hts⟩ (w_put_2 l D K t0 x x_120 t1 k_1 k_2 k_3 (.int n) k_5 k_6 k_7 k_8 k_9 f1 gt s.heap.size zgt) ⟨va_cnB 3 hts gX10_supply_X9_put_n45 rfl rfl rfl (nst_at hN 55 rfl) (hts _ mm_X10_supply_145) (by decide +kernel) ⟨Nat.le_of_ble_eq_true rfl, Nat.le_of_ble_eq_true rfl⟩, (hts _ mm_X10_supply_388), (hts _ mm_X10_supply_5)⟩ (mkV hK hN (hP.sub [1, 2] rfl) (hD.sub [1, 2] (by decide +kernel) rfl) (ci := 9) (q0 := 0) rfl rfl) rfl rfl hl.1 rfl (lv_room (Nat.le_of_ble_eq_true rfl)) dX10_supply_45 ⟨Nat.le_of_ble_eq_true rfl, Nat.le_of_ble_eq_true rfl⟩) hP hD hS hA [1, 2] [0] rfl rfl (by decide +kernel) (by decide +kernel) (fun u_122 H locs hw hP0 hD0 hS0 => ?_)
      clear hP hD hS
      have hP := hP0
      have hD := hD0
      have hS := hS0
      clear hP0 hD0 hS0
      replace hP : va_P D vwCl [(r0, .inr (10, [r_0])), (t0, .inr (9, [.ref t1, k_1, k_2, k_3, .int n, k_5, k_6, k_7, k_8, k_9])), (t1, .inl (K 0, 56, .inl (u_122.2.1 0)))] H := hP
      replace hD : va_D A [(r0, .inr (10, [r_0])), (t0, .inr (9, [.ref t1, k_1, k_2, k_3, .int n, k_5, k_6, k_7, k_8, k_9])), (t1, .inl (K 0, 56, .inl (u_122.2.1 0)))] := hD
      obtain ⟨k_123, k_124, -⟩ := hw
      replace hE := hE.trans (Lt_in k_124)
      refine lv_iload hx hb dX10_supply_48 (lv_at hl 0 rfl) ?_
      rw [← hQ]
      have hP9 := hP.sub (ws' := [(r0, .inr (10, [r_0])), (t0, .inr (9, [.ref t1, k_1, k_2, k_3, .int n, k_5, k_6, k_7, k_8, k_9])), (t1, .inl (K 0, 56, .inl (u_122.2.1 0)))]) [0, 1, 2] rfl
      have hD9 := hD.sub (ws' := [(r0, .inr (10, [r_0])), (t0, .inr (9, [.ref t1, k_1, k_2, k_3, .int n, k_5, k_6, k_7, k_8, k_9])), (t1, .inl (K 0, 56, .inl (u_122.2.1 0)))]) [0, 1, 2] (by decide +kernel) rfl
      exact W.iret (v := x_120) hx hb hr (fun t ht hW => ⟨⟨x_120, ((fun _ => 0, fun i => match i with | _ => (u_122.2.1 0), fun _ => fun _ => 0, fun _ => 0, fun _ => 0, fun _ => fun _ => none) : Su), rfl, ⟨(show x_120.toInt ≤ 999 by omega), k_123, hE.symm, trivial⟩, (⟨by rw [ht]; exact hP9, hD9⟩ : Wd D A _ t)⟩, hS.F ht⟩) hS.2.2 dX10_supply_50
    · replace hE := (hE).trans (if_neg (by first | decide | (intro h9; have h8 := congrArg Int32.toInt h9; omega)))
      refine lv_if_ne (tgt := 24) hx hb dX10_supply_18 (by decide +kernel) (fun c_125 => absurd (by decide +kernel) c_125) (fun c_125 => ?_)
      refine lv_bipush (v := (-2)) hx hb dX10_supply_21 (by decide +kernel) ?_
      rw [← hQ]
      have hP9 := hP.sub (ws' := [(r0, .inr (10, [r_0])), (t0, .inr (9, [.ref t1, k_1, k_2, k_3, .int n, k_5, k_6, k_7, k_8, k_9])), (t1, .inl (K 0, 56, .inl f1))]) [0, 1, 2] rfl
      have hD9 := hD.sub (ws' := [(r0, .inr (10, [r_0])), (t0, .inr (9, [.ref t1, k_1, k_2, k_3, .int n, k_5, k_6, k_7, k_8, k_9])), (t1, .inl (K 0, 56, .inl f1))]) [0, 1, 2] (by decide +kernel) rfl
      exact W.iret (v := (-2)) hx hb hr (fun t ht hW => ⟨⟨(-2), ((fun _ => 0, fun i => match i with | _ => f1, fun _ => fun _ => 0, fun _ => 0, fun _ => 0, fun _ => fun _ => none) : Su), rfl, ⟨(show ((-2) : Int32).toInt ≤ 999 by decide), zgt, hE.symm, trivial⟩, (⟨by rw [ht]; exact hP9, hD9⟩ : Wd D A _ t)⟩, hS.F ht⟩) hS.2.2 dX10_supply_23
  · replace hE := (hE).trans (if_neg (by first | decide | (intro h9; have h8 := congrArg Int32.toInt h9; omega)))
    refine lv_if_ne (tgt := 13) hx hb dX10_supply_8 (by decide +kernel) (fun c_126 => absurd (by decide +kernel) c_126) (fun c_126 => ?_)
    refine lv_iconst (v := (-1)) hx hb dX10_supply_11 (by decide +kernel) ?_
    rw [← hQ]
    have hP9 := hP.sub (ws' := [(r0, .inr (10, [r_0])), (t0, .inr (9, [.ref t1, k_1, k_2, k_3, .int n, k_5, k_6, k_7, k_8, k_9])), (t1, .inl (K 0, 56, .inl f1))]) [0, 1, 2] rfl
    have hD9 := hD.sub (ws' := [(r0, .inr (10, [r_0])), (t0, .inr (9, [.ref t1, k_1, k_2, k_3, .int n, k_5, k_6, k_7, k_8, k_9])), (t1, .inl (K 0, 56, .inl f1))]) [0, 1, 2] (by decide +kernel) rfl
    exact W.iret (v := (-1)) hx hb hr (fun t ht hW => ⟨⟨(-1), ((fun _ => 0, fun i => match i with | _ => f1, fun _ => fun _ => 0, fun _ => 0, fun _ => 0, fun _ => fun _ => none) : Su), rfl, ⟨(show ((-1) : Int32).toInt ≤ 999 by decide), zgt, hE.symm, trivial⟩, (⟨by rw [ht]; exact hP9, hD9⟩ : Wd D A _ t)⟩, hS.F ht⟩) hS.2.2 dX10_supply_12
