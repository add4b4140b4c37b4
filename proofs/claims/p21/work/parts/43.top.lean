theorem BX11_least_0 : bsegs (ByteArray.data cX11_least |>.toList.drop 0) 0 [(0, [42]), (1, [180, 0, 10]), (4, [27]), (5, [182, 0, 121]), (8, [153, 0, 26]), (11, [28]), (12, [4]), (13, [16, 12]), (15, [184, 0, 97]), (18, [153, 0, 16]), (21, [29]), (22, [3]), (23, [4]), (24, [28]), (25, [120]), (26, [4]), (27, [100]), (28, [184, 0, 97]), (31, [154, 0, 5]), (34, [2]), (35, [172]), (36, [21, 4]), (38, [2]), (39, [28])] = true := by decide +kernel
theorem dX11_least_0 : decode cX11_least 0 = .ok (.aload_n 0, 1) := dk_42 (bs_at BX11_least_0 0 rfl)
theorem dX11_least_1 : decode cX11_least 1 = .ok (.getfield 10, 3) := dk_180 0 10 (bs_at BX11_least_0 1 rfl) rfl
theorem dX11_least_4 : decode cX11_least 4 = .ok (.iload_n 1, 1) := dk_27 (bs_at BX11_least_0 2 rfl)
theorem dX11_least_5 : decode cX11_least 5 = .ok (.invokevirtual 121, 3) := dk_182 0 121 (bs_at BX11_least_0 3 rfl) rfl
theorem dX11_least_8 : decode cX11_least 8 = .ok (.ifCond .eq 26, 3) := dk_153 0 26 (bs_at BX11_least_0 4 rfl) rfl
theorem dX11_least_11 : decode cX11_least 11 = .ok (.iload_n 2, 1) := dk_28 (bs_at BX11_least_0 5 rfl)
theorem dX11_least_12 : decode cX11_least 12 = .ok (.iconst 1, 1) := dk_4 (bs_at BX11_least_0 6 rfl)
theorem dX11_least_13 : decode cX11_least 13 = .ok (.bipush 12, 2) := dk_16 12 (bs_at BX11_least_0 7 rfl) rfl
theorem dX11_least_15 : decode cX11_least 15 = .ok (.invokestatic 97, 3) := dk_184 0 97 (bs_at BX11_least_0 8 rfl) rfl
theorem dX11_least_18 : decode cX11_least 18 = .ok (.ifCond .eq 16, 3) := dk_153 0 16 (bs_at BX11_least_0 9 rfl) rfl
theorem dX11_least_21 : decode cX11_least 21 = .ok (.iload_n 3, 1) := dk_29 (bs_at BX11_least_0 10 rfl)
theorem dX11_least_22 : decode cX11_least 22 = .ok (.iconst 0, 1) := dk_3 (bs_at BX11_least_0 11 rfl)
theorem dX11_least_23 : decode cX11_least 23 = .ok (.iconst 1, 1) := dk_4 (bs_at BX11_least_0 12 rfl)
theorem dX11_least_24 : decode cX11_least 24 = .ok (.iload_n 2, 1) := dk_28 (bs_at BX11_least_0 13 rfl)
theorem dX11_least_25 : decode cX11_least 25 = .ok (.ishl, 1) := dk_120 (bs_at BX11_least_0 14 rfl)
theorem dX11_least_26 : decode cX11_least 26 = .ok (.iconst 1, 1) := dk_4 (bs_at BX11_least_0 15 rfl)
theorem dX11_least_27 : decode cX11_least 27 = .ok (.isub, 1) := dk_100 (bs_at BX11_least_0 16 rfl)
theorem dX11_least_28 : decode cX11_least 28 = .ok (.invokestatic 97, 3) := dk_184 0 97 (bs_at BX11_least_0 17 rfl) rfl
theorem dX11_least_31 : decode cX11_least 31 = .ok (.ifCond .ne 5, 3) := dk_154 0 5 (bs_at BX11_least_0 18 rfl) rfl
theorem dX11_least_34 : decode cX11_least 34 = .ok (.iconst (-1), 1) := dk_2 (bs_at BX11_least_0 19 rfl)
theorem dX11_least_35 : decode cX11_least 35 = .ok (.ireturn, 1) := dk_172 (bs_at BX11_least_0 20 rfl)
theorem dX11_least_36 : decode cX11_least 36 = .ok (.iload 4, 2) := dk_21 4 (bs_at BX11_least_0 21 rfl)
theorem dX11_least_38 : decode cX11_least 38 = .ok (.iconst (-1), 1) := dk_2 (bs_at BX11_least_0 22 rfl)
theorem dX11_least_39 : decode cX11_least 39 = .ok (.iload_n 2, 1) := dk_28 (bs_at BX11_least_0 23 rfl)
theorem BX11_least_40 : bsegs (ByteArray.data cX11_least |>.toList.drop 40) 40 [(40, [4]), (41, [100]), (42, [184, 0, 97]), (45, [153, 0, 22]), (48, [42]), (49, [180, 0, 68]), (52, [42]), (53, [180, 0, 10]), (56, [27]), (57, [28]), (58, [29]), (59, [21, 4]), (61, [182, 0, 245]), (64, [167, 0, 4]), (67, [2]), (68, [172])] = true := by decide +kernel
theorem dX11_least_40 : decode cX11_least 40 = .ok (.iconst 1, 1) := dk_4 (bs_at BX11_least_40 0 rfl)
theorem dX11_least_41 : decode cX11_least 41 = .ok (.isub, 1) := dk_100 (bs_at BX11_least_40 1 rfl)
theorem dX11_least_42 : decode cX11_least 42 = .ok (.invokestatic 97, 3) := dk_184 0 97 (bs_at BX11_least_40 2 rfl) rfl
theorem dX11_least_45 : decode cX11_least 45 = .ok (.ifCond .eq 22, 3) := dk_153 0 22 (bs_at BX11_least_40 3 rfl) rfl
theorem dX11_least_48 : decode cX11_least 48 = .ok (.aload_n 0, 1) := dk_42 (bs_at BX11_least_40 4 rfl)
theorem dX11_least_49 : decode cX11_least 49 = .ok (.getfield 68, 3) := dk_180 0 68 (bs_at BX11_least_40 5 rfl) rfl
theorem dX11_least_52 : decode cX11_least 52 = .ok (.aload_n 0, 1) := dk_42 (bs_at BX11_least_40 6 rfl)
theorem dX11_least_53 : decode cX11_least 53 = .ok (.getfield 10, 3) := dk_180 0 10 (bs_at BX11_least_40 7 rfl) rfl
theorem dX11_least_56 : decode cX11_least 56 = .ok (.iload_n 1, 1) := dk_27 (bs_at BX11_least_40 8 rfl)
theorem dX11_least_57 : decode cX11_least 57 = .ok (.iload_n 2, 1) := dk_28 (bs_at BX11_least_40 9 rfl)
theorem dX11_least_58 : decode cX11_least 58 = .ok (.iload_n 3, 1) := dk_29 (bs_at BX11_least_40 10 rfl)
theorem dX11_least_59 : decode cX11_least 59 = .ok (.iload 4, 2) := dk_21 4 (bs_at BX11_least_40 11 rfl)
theorem dX11_least_61 : decode cX11_least 61 = .ok (.invokevirtual 245, 3) := dk_182 0 245 (bs_at BX11_least_40 12 rfl) rfl
theorem dX11_least_64 : decode cX11_least 64 = .ok (.goto 4, 3) := dk_167 0 4 (bs_at BX11_least_40 13 rfl) rfl
theorem dX11_least_67 : decode cX11_least 67 = .ok (.iconst (-1), 1) := dk_2 (bs_at BX11_least_40 14 rfl)
theorem dX11_least_68 : decode cX11_least 68 = .ok (.ireturn, 1) := dk_172 (bs_at BX11_least_40 15 rfl)
theorem BX11_rings_0 : bsegs (ByteArray.data cX11_rings |>.toList.drop 0) 0 [(0, [42]), (1, [180, 0, 10]), (4, [27]), (5, [182, 0, 121]), (8, [153, 0, 18]), (11, [42]), (12, [180, 0, 75]), (15, [42]), (16, [180, 0, 10]), (19, [27]), (20, [182, 0, 249]), (23, [167, 0, 4]), (26, [2]), (27, [172])] = true := by decide +kernel
theorem dX11_rings_0 : decode cX11_rings 0 = .ok (.aload_n 0, 1) := dk_42 (bs_at BX11_rings_0 0 rfl)
theorem dX11_rings_1 : decode cX11_rings 1 = .ok (.getfield 10, 3) := dk_180 0 10 (bs_at BX11_rings_0 1 rfl) rfl
theorem dX11_rings_4 : decode cX11_rings 4 = .ok (.iload_n 1, 1) := dk_27 (bs_at BX11_rings_0 2 rfl)
theorem dX11_rings_5 : decode cX11_rings 5 = .ok (.invokevirtual 121, 3) := dk_182 0 121 (bs_at BX11_rings_0 3 rfl) rfl
theorem dX11_rings_8 : decode cX11_rings 8 = .ok (.ifCond .eq 18, 3) := dk_153 0 18 (bs_at BX11_rings_0 4 rfl) rfl
theorem dX11_rings_11 : decode cX11_rings 11 = .ok (.aload_n 0, 1) := dk_42 (bs_at BX11_rings_0 5 rfl)
theorem dX11_rings_12 : decode cX11_rings 12 = .ok (.getfield 75, 3) := dk_180 0 75 (bs_at BX11_rings_0 6 rfl) rfl
theorem dX11_rings_15 : decode cX11_rings 15 = .ok (.aload_n 0, 1) := dk_42 (bs_at BX11_rings_0 7 rfl)
theorem dX11_rings_16 : decode cX11_rings 16 = .ok (.getfield 10, 3) := dk_180 0 10 (bs_at BX11_rings_0 8 rfl) rfl
theorem dX11_rings_19 : decode cX11_rings 19 = .ok (.iload_n 1, 1) := dk_27 (bs_at BX11_rings_0 9 rfl)
theorem dX11_rings_20 : decode cX11_rings 20 = .ok (.invokevirtual 249, 3) := dk_182 0 249 (bs_at BX11_rings_0 10 rfl) rfl
theorem dX11_rings_23 : decode cX11_rings 23 = .ok (.goto 4, 3) := dk_167 0 4 (bs_at BX11_rings_0 11 rfl) rfl
theorem dX11_rings_26 : decode cX11_rings 26 = .ok (.iconst (-1), 1) := dk_2 (bs_at BX11_rings_0 12 rfl)
theorem dX11_rings_27 : decode cX11_rings 27 = .ok (.ireturn, 1) := dk_172 (bs_at BX11_rings_0 13 rfl)
theorem BX11_tune_0 : bsegs (ByteArray.data cX11_tune |>.toList.drop 0) 0 [(0, [27]), (1, [3]), (2, [6]), (3, [184, 0, 97]), (6, [154, 0, 5]), (9, [2]), (10, [172]), (11, [28]), (12, [154, 0, 16]), (15, [42]), (16, [180, 0, 75]), (19, [42]), (20, [180, 0, 10]), (23, [27]), (24, [182, 0, 252]), (27, [172]), (28, [28]), (29, [4]), (30, [16, 8]), (32, [184, 0, 97]), (35, [153, 0, 9]), (38, [28]), (39, [4]), (40, [100])] = true := by decide +kernel
theorem dX11_tune_0 : decode cX11_tune 0 = .ok (.iload_n 1, 1) := dk_27 (bs_at BX11_tune_0 0 rfl)
theorem dX11_tune_1 : decode cX11_tune 1 = .ok (.iconst 0, 1) := dk_3 (bs_at BX11_tune_0 1 rfl)
theorem dX11_tune_2 : decode cX11_tune 2 = .ok (.iconst 3, 1) := dk_6 (bs_at BX11_tune_0 2 rfl)
theorem dX11_tune_3 : decode cX11_tune 3 = .ok (.invokestatic 97, 3) := dk_184 0 97 (bs_at BX11_tune_0 3 rfl) rfl
theorem dX11_tune_6 : decode cX11_tune 6 = .ok (.ifCond .ne 5, 3) := dk_154 0 5 (bs_at BX11_tune_0 4 rfl) rfl
theorem dX11_tune_9 : decode cX11_tune 9 = .ok (.iconst (-1), 1) := dk_2 (bs_at BX11_tune_0 5 rfl)
theorem dX11_tune_10 : decode cX11_tune 10 = .ok (.ireturn, 1) := dk_172 (bs_at BX11_tune_0 6 rfl)
theorem dX11_tune_11 : decode cX11_tune 11 = .ok (.iload_n 2, 1) := dk_28 (bs_at BX11_tune_0 7 rfl)
theorem dX11_tune_12 : decode cX11_tune 12 = .ok (.ifCond .ne 16, 3) := dk_154 0 16 (bs_at BX11_tune_0 8 rfl) rfl
theorem dX11_tune_15 : decode cX11_tune 15 = .ok (.aload_n 0, 1) := dk_42 (bs_at BX11_tune_0 9 rfl)
theorem dX11_tune_16 : decode cX11_tune 16 = .ok (.getfield 75, 3) := dk_180 0 75 (bs_at BX11_tune_0 10 rfl) rfl
theorem dX11_tune_19 : decode cX11_tune 19 = .ok (.aload_n 0, 1) := dk_42 (bs_at BX11_tune_0 11 rfl)
theorem dX11_tune_20 : decode cX11_tune 20 = .ok (.getfield 10, 3) := dk_180 0 10 (bs_at BX11_tune_0 12 rfl) rfl
theorem dX11_tune_23 : decode cX11_tune 23 = .ok (.iload_n 1, 1) := dk_27 (bs_at BX11_tune_0 13 rfl)
theorem dX11_tune_24 : decode cX11_tune 24 = .ok (.invokevirtual 252, 3) := dk_182 0 252 (bs_at BX11_tune_0 14 rfl) rfl
theorem dX11_tune_27 : decode cX11_tune 27 = .ok (.ireturn, 1) := dk_172 (bs_at BX11_tune_0 15 rfl)
theorem dX11_tune_28 : decode cX11_tune 28 = .ok (.iload_n 2, 1) := dk_28 (bs_at BX11_tune_0 16 rfl)
theorem dX11_tune_29 : decode cX11_tune 29 = .ok (.iconst 1, 1) := dk_4 (bs_at BX11_tune_0 17 rfl)
theorem dX11_tune_30 : decode cX11_tune 30 = .ok (.bipush 8, 2) := dk_16 8 (bs_at BX11_tune_0 18 rfl) rfl
theorem dX11_tune_32 : decode cX11_tune 32 = .ok (.invokestatic 97, 3) := dk_184 0 97 (bs_at BX11_tune_0 19 rfl) rfl
theorem dX11_tune_35 : decode cX11_tune 35 = .ok (.ifCond .eq 9, 3) := dk_153 0 9 (bs_at BX11_tune_0 20 rfl) rfl
theorem dX11_tune_38 : decode cX11_tune 38 = .ok (.iload_n 2, 1) := dk_28 (bs_at BX11_tune_0 21 rfl)
theorem dX11_tune_39 : decode cX11_tune 39 = .ok (.iconst 1, 1) := dk_4 (bs_at BX11_tune_0 22 rfl)
theorem dX11_tune_40 : decode cX11_tune 40 = .ok (.isub, 1) := dk_100 (bs_at BX11_tune_0 23 rfl)
theorem BX11_tune_41 : bsegs (ByteArray.data cX11_tune |>.toList.drop 41) 41 [(41, [167, 0, 4]), (44, [2]), (45, [62]), (46, [42]), (47, [180, 0, 10]), (50, [29]), (51, [182, 0, 121]), (54, [153, 0, 16]), (57, [42]), (58, [180, 0, 10]), (61, [29]), (62, [4]), (63, [182, 0, 125]), (66, [27]), (67, [159, 0, 5]), (70, [2]), (71, [172]), (72, [42]), (73, [180, 0, 75]), (76, [42]), (77, [180, 0, 10]), (80, [27]), (81, [182, 0, 252]), (84, [87])] = true := by decide +kernel
theorem dX11_tune_41 : decode cX11_tune 41 = .ok (.goto 4, 3) := dk_167 0 4 (bs_at BX11_tune_41 0 rfl) rfl
theorem dX11_tune_44 : decode cX11_tune 44 = .ok (.iconst (-1), 1) := dk_2 (bs_at BX11_tune_41 1 rfl)
theorem dX11_tune_45 : decode cX11_tune 45 = .ok (.istore_n 3, 1) := dk_62 (bs_at BX11_tune_41 2 rfl)
theorem dX11_tune_46 : decode cX11_tune 46 = .ok (.aload_n 0, 1) := dk_42 (bs_at BX11_tune_41 3 rfl)
theorem dX11_tune_47 : decode cX11_tune 47 = .ok (.getfield 10, 3) := dk_180 0 10 (bs_at BX11_tune_41 4 rfl) rfl
theorem dX11_tune_50 : decode cX11_tune 50 = .ok (.iload_n 3, 1) := dk_29 (bs_at BX11_tune_41 5 rfl)
theorem dX11_tune_51 : decode cX11_tune 51 = .ok (.invokevirtual 121, 3) := dk_182 0 121 (bs_at BX11_tune_41 6 rfl) rfl
theorem dX11_tune_54 : decode cX11_tune 54 = .ok (.ifCond .eq 16, 3) := dk_153 0 16 (bs_at BX11_tune_41 7 rfl) rfl
theorem dX11_tune_57 : decode cX11_tune 57 = .ok (.aload_n 0, 1) := dk_42 (bs_at BX11_tune_41 8 rfl)
theorem dX11_tune_58 : decode cX11_tune 58 = .ok (.getfield 10, 3) := dk_180 0 10 (bs_at BX11_tune_41 9 rfl) rfl
theorem dX11_tune_61 : decode cX11_tune 61 = .ok (.iload_n 3, 1) := dk_29 (bs_at BX11_tune_41 10 rfl)
theorem dX11_tune_62 : decode cX11_tune 62 = .ok (.iconst 1, 1) := dk_4 (bs_at BX11_tune_41 11 rfl)
theorem dX11_tune_63 : decode cX11_tune 63 = .ok (.invokevirtual 125, 3) := dk_182 0 125 (bs_at BX11_tune_41 12 rfl) rfl
theorem dX11_tune_66 : decode cX11_tune 66 = .ok (.iload_n 1, 1) := dk_27 (bs_at BX11_tune_41 13 rfl)
theorem dX11_tune_67 : decode cX11_tune 67 = .ok (.if_icmp .eq 5, 3) := dk_159 0 5 (bs_at BX11_tune_41 14 rfl) rfl
theorem dX11_tune_70 : decode cX11_tune 70 = .ok (.iconst (-1), 1) := dk_2 (bs_at BX11_tune_41 15 rfl)
theorem dX11_tune_71 : decode cX11_tune 71 = .ok (.ireturn, 1) := dk_172 (bs_at BX11_tune_41 16 rfl)
theorem dX11_tune_72 : decode cX11_tune 72 = .ok (.aload_n 0, 1) := dk_42 (bs_at BX11_tune_41 17 rfl)
theorem dX11_tune_73 : decode cX11_tune 73 = .ok (.getfield 75, 3) := dk_180 0 75 (bs_at BX11_tune_41 18 rfl) rfl
theorem dX11_tune_76 : decode cX11_tune 76 = .ok (.aload_n 0, 1) := dk_42 (bs_at BX11_tune_41 19 rfl)
theorem dX11_tune_77 : decode cX11_tune 77 = .ok (.getfield 10, 3) := dk_180 0 10 (bs_at BX11_tune_41 20 rfl) rfl
theorem dX11_tune_80 : decode cX11_tune 80 = .ok (.iload_n 1, 1) := dk_27 (bs_at BX11_tune_41 21 rfl)
theorem dX11_tune_81 : decode cX11_tune 81 = .ok (.invokevirtual 252, 3) := dk_182 0 252 (bs_at BX11_tune_41 22 rfl) rfl
theorem dX11_tune_84 : decode cX11_tune 84 = .ok (.pop, 1) := dk_87 (bs_at BX11_tune_41 23 rfl)
theorem BX11_tune_85 : bsegs (ByteArray.data cX11_tune |>.toList.drop 85) 85 [(85, [42]), (86, [180, 0, 75]), (89, [29]), (90, [182, 0, 255]), (93, [172])] = true := by decide +kernel
theorem dX11_tune_85 : decode cX11_tune 85 = .ok (.aload_n 0, 1) := dk_42 (bs_at BX11_tune_85 0 rfl)
theorem dX11_tune_86 : decode cX11_tune 86 = .ok (.getfield 75, 3) := dk_180 0 75 (bs_at BX11_tune_85 1 rfl) rfl
theorem dX11_tune_89 : decode cX11_tune 89 = .ok (.iload_n 3, 1) := dk_29 (bs_at BX11_tune_85 2 rfl)
theorem dX11_tune_90 : decode cX11_tune 90 = .ok (.invokevirtual 255, 3) := dk_182 0 255 (bs_at BX11_tune_85 3 rfl) rfl
theorem dX11_tune_93 : decode cX11_tune 93 = .ok (.ireturn, 1) := dk_172 (bs_at BX11_tune_85 4 rfl)
theorem BX11_hear_0 : bsegs (ByteArray.data cX11_hear |>.toList.drop 0) 0 [(0, [27]), (1, [3]), (2, [16, 127]), (4, [184, 0, 97]), (7, [154, 0, 9]), (10, [42]), (11, [2]), (12, [182, 0, 101]), (15, [172]), (16, [42]), (17, [180, 0, 10]), (20, [180, 1, 2]), (23, [16, 6]), (25, [161, 0, 10]), (28, [42]), (29, [16, 251]), (31, [182, 0, 101]), (34, [172]), (35, [42]), (36, [180, 0, 10]), (39, [89]), (40, [180, 1, 5]), (43, [27]), (44, [128])] = true := by decide +kernel
theorem dX11_hear_0 : decode cX11_hear 0 = .ok (.iload_n 1, 1) := dk_27 (bs_at BX11_hear_0 0 rfl)
theorem dX11_hear_1 : decode cX11_hear 1 = .ok (.iconst 0, 1) := dk_3 (bs_at BX11_hear_0 1 rfl)
theorem dX11_hear_2 : decode cX11_hear 2 = .ok (.bipush 127, 2) := dk_16 127 (bs_at BX11_hear_0 2 rfl) rfl
theorem dX11_hear_4 : decode cX11_hear 4 = .ok (.invokestatic 97, 3) := dk_184 0 97 (bs_at BX11_hear_0 3 rfl) rfl
theorem dX11_hear_7 : decode cX11_hear 7 = .ok (.ifCond .ne 9, 3) := dk_154 0 9 (bs_at BX11_hear_0 4 rfl) rfl
theorem dX11_hear_10 : decode cX11_hear 10 = .ok (.aload_n 0, 1) := dk_42 (bs_at BX11_hear_0 5 rfl)
theorem dX11_hear_11 : decode cX11_hear 11 = .ok (.iconst (-1), 1) := dk_2 (bs_at BX11_hear_0 6 rfl)
theorem dX11_hear_12 : decode cX11_hear 12 = .ok (.invokevirtual 101, 3) := dk_182 0 101 (bs_at BX11_hear_0 7 rfl) rfl
theorem dX11_hear_15 : decode cX11_hear 15 = .ok (.ireturn, 1) := dk_172 (bs_at BX11_hear_0 8 rfl)
theorem dX11_hear_16 : decode cX11_hear 16 = .ok (.aload_n 0, 1) := dk_42 (bs_at BX11_hear_0 9 rfl)
theorem dX11_hear_17 : decode cX11_hear 17 = .ok (.getfield 10, 3) := dk_180 0 10 (bs_at BX11_hear_0 10 rfl) rfl
theorem dX11_hear_20 : decode cX11_hear 20 = .ok (.getfield 258, 3) := dk_180 1 2 (bs_at BX11_hear_0 11 rfl) rfl
theorem dX11_hear_23 : decode cX11_hear 23 = .ok (.bipush 6, 2) := dk_16 6 (bs_at BX11_hear_0 12 rfl) rfl
theorem dX11_hear_25 : decode cX11_hear 25 = .ok (.if_icmp .lt 10, 3) := dk_161 0 10 (bs_at BX11_hear_0 13 rfl) rfl
theorem dX11_hear_28 : decode cX11_hear 28 = .ok (.aload_n 0, 1) := dk_42 (bs_at BX11_hear_0 14 rfl)
theorem dX11_hear_29 : decode cX11_hear 29 = .ok (.bipush (-5), 2) := dk_16 251 (bs_at BX11_hear_0 15 rfl) rfl
theorem dX11_hear_31 : decode cX11_hear 31 = .ok (.invokevirtual 101, 3) := dk_182 0 101 (bs_at BX11_hear_0 16 rfl) rfl
theorem dX11_hear_34 : decode cX11_hear 34 = .ok (.ireturn, 1) := dk_172 (bs_at BX11_hear_0 17 rfl)
theorem dX11_hear_35 : decode cX11_hear 35 = .ok (.aload_n 0, 1) := dk_42 (bs_at BX11_hear_0 18 rfl)
theorem dX11_hear_36 : decode cX11_hear 36 = .ok (.getfield 10, 3) := dk_180 0 10 (bs_at BX11_hear_0 19 rfl) rfl
theorem dX11_hear_39 : decode cX11_hear 39 = .ok (.dup, 1) := dk_89 (bs_at BX11_hear_0 20 rfl)
theorem dX11_hear_40 : decode cX11_hear 40 = .ok (.getfield 261, 3) := dk_180 1 5 (bs_at BX11_hear_0 21 rfl) rfl
theorem dX11_hear_43 : decode cX11_hear 43 = .ok (.iload_n 1, 1) := dk_27 (bs_at BX11_hear_0 22 rfl)
theorem dX11_hear_44 : decode cX11_hear 44 = .ok (.ior, 1) := dk_128 (bs_at BX11_hear_0 23 rfl)
theorem BX11_hear_45 : bsegs (ByteArray.data cX11_hear |>.toList.drop 45) 45 [(45, [181, 1, 5]), (48, [42]), (49, [180, 0, 10]), (52, [89]), (53, [180, 1, 2]), (56, [4]), (57, [96]), (58, [181, 1, 2]), (61, [42]), (62, [42]), (63, [180, 0, 10]), (66, [180, 1, 2]), (69, [182, 0, 118]), (72, [172])] = true := by decide +kernel
theorem dX11_hear_45 : decode cX11_hear 45 = .ok (.putfield 261, 3) := dk_181 1 5 (bs_at BX11_hear_45 0 rfl) rfl
theorem dX11_hear_48 : decode cX11_hear 48 = .ok (.aload_n 0, 1) := dk_42 (bs_at BX11_hear_45 1 rfl)
theorem dX11_hear_49 : decode cX11_hear 49 = .ok (.getfield 10, 3) := dk_180 0 10 (bs_at BX11_hear_45 2 rfl) rfl
theorem dX11_hear_52 : decode cX11_hear 52 = .ok (.dup, 1) := dk_89 (bs_at BX11_hear_45 3 rfl)
theorem dX11_hear_53 : decode cX11_hear 53 = .ok (.getfield 258, 3) := dk_180 1 2 (bs_at BX11_hear_45 4 rfl) rfl
theorem dX11_hear_56 : decode cX11_hear 56 = .ok (.iconst 1, 1) := dk_4 (bs_at BX11_hear_45 5 rfl)
theorem dX11_hear_57 : decode cX11_hear 57 = .ok (.iadd, 1) := dk_96 (bs_at BX11_hear_45 6 rfl)
theorem dX11_hear_58 : decode cX11_hear 58 = .ok (.putfield 258, 3) := dk_181 1 2 (bs_at BX11_hear_45 7 rfl) rfl
theorem dX11_hear_61 : decode cX11_hear 61 = .ok (.aload_n 0, 1) := dk_42 (bs_at BX11_hear_45 8 rfl)
theorem dX11_hear_62 : decode cX11_hear 62 = .ok (.aload_n 0, 1) := dk_42 (bs_at BX11_hear_45 9 rfl)
theorem dX11_hear_63 : decode cX11_hear 63 = .ok (.getfield 10, 3) := dk_180 0 10 (bs_at BX11_hear_45 10 rfl) rfl
theorem dX11_hear_66 : decode cX11_hear 66 = .ok (.getfield 258, 3) := dk_180 1 2 (bs_at BX11_hear_45 11 rfl) rfl
theorem dX11_hear_69 : decode cX11_hear 69 = .ok (.invokevirtual 118, 3) := dk_182 0 118 (bs_at BX11_hear_45 12 rfl) rfl
theorem dX11_hear_72 : decode cX11_hear 72 = .ok (.ireturn, 1) := dk_172 (bs_at BX11_hear_45 13 rfl)
theorem BX11_forget_0 : bsegs (ByteArray.data cX11_forget |>.toList.drop 0) 0 [(0, [42]), (1, [180, 0, 10]), (4, [180, 1, 2]), (7, [60]), (8, [42]), (9, [180, 0, 10]), (12, [3]), (13, [181, 1, 2]), (16, [42]), (17, [180, 0, 10]), (20, [3]), (21, [181, 1, 5]), (24, [27]), (25, [172])] = true := by decide +kernel
theorem dX11_forget_0 : decode cX11_forget 0 = .ok (.aload_n 0, 1) := dk_42 (bs_at BX11_forget_0 0 rfl)
theorem dX11_forget_1 : decode cX11_forget 1 = .ok (.getfield 10, 3) := dk_180 0 10 (bs_at BX11_forget_0 1 rfl) rfl
theorem dX11_forget_4 : decode cX11_forget 4 = .ok (.getfield 258, 3) := dk_180 1 2 (bs_at BX11_forget_0 2 rfl) rfl
theorem dX11_forget_7 : decode cX11_forget 7 = .ok (.istore_n 1, 1) := dk_60 (bs_at BX11_forget_0 3 rfl)
theorem dX11_forget_8 : decode cX11_forget 8 = .ok (.aload_n 0, 1) := dk_42 (bs_at BX11_forget_0 4 rfl)
theorem dX11_forget_9 : decode cX11_forget 9 = .ok (.getfield 10, 3) := dk_180 0 10 (bs_at BX11_forget_0 5 rfl) rfl
theorem dX11_forget_12 : decode cX11_forget 12 = .ok (.iconst 0, 1) := dk_3 (bs_at BX11_forget_0 6 rfl)
theorem dX11_forget_13 : decode cX11_forget 13 = .ok (.putfield 258, 3) := dk_181 1 2 (bs_at BX11_forget_0 7 rfl) rfl
theorem dX11_forget_16 : decode cX11_forget 16 = .ok (.aload_n 0, 1) := dk_42 (bs_at BX11_forget_0 8 rfl)
theorem dX11_forget_17 : decode cX11_forget 17 = .ok (.getfield 10, 3) := dk_180 0 10 (bs_at BX11_forget_0 9 rfl) rfl
theorem dX11_forget_20 : decode cX11_forget 20 = .ok (.iconst 0, 1) := dk_3 (bs_at BX11_forget_0 10 rfl)
theorem dX11_forget_21 : decode cX11_forget 21 = .ok (.putfield 261, 3) := dk_181 1 5 (bs_at BX11_forget_0 11 rfl) rfl
theorem dX11_forget_24 : decode cX11_forget 24 = .ok (.iload_n 1, 1) := dk_27 (bs_at BX11_forget_0 12 rfl)
theorem dX11_forget_25 : decode cX11_forget 25 = .ok (.ireturn, 1) := dk_172 (bs_at BX11_forget_0 13 rfl)
theorem BX11_hill_0 : bsegs (ByteArray.data cX11_hill |>.toList.drop 0) 0 [(0, [42]), (1, [180, 0, 75]), (4, [42]), (5, [180, 0, 10]), (8, [27]), (9, [182, 1, 8]), (12, [172])] = true := by decide +kernel
theorem dX11_hill_0 : decode cX11_hill 0 = .ok (.aload_n 0, 1) := dk_42 (bs_at BX11_hill_0 0 rfl)
theorem dX11_hill_1 : decode cX11_hill 1 = .ok (.getfield 75, 3) := dk_180 0 75 (bs_at BX11_hill_0 1 rfl) rfl
theorem dX11_hill_4 : decode cX11_hill 4 = .ok (.aload_n 0, 1) := dk_42 (bs_at BX11_hill_0 2 rfl)
theorem dX11_hill_5 : decode cX11_hill 5 = .ok (.getfield 10, 3) := dk_180 0 10 (bs_at BX11_hill_0 3 rfl) rfl
theorem dX11_hill_8 : decode cX11_hill 8 = .ok (.iload_n 1, 1) := dk_27 (bs_at BX11_hill_0 4 rfl)
theorem dX11_hill_9 : decode cX11_hill 9 = .ok (.invokevirtual 264, 3) := dk_182 1 8 (bs_at BX11_hill_0 5 rfl) rfl
theorem dX11_hill_12 : decode cX11_hill 12 = .ok (.ireturn, 1) := dk_172 (bs_at BX11_hill_0 6 rfl)
theorem BX11_ask_0 : bsegs (ByteArray.data cX11_ask |>.toList.drop 0) 0 [(0, [27]), (1, [3]), (2, [4]), (3, [184, 0, 97]), (6, [153, 0, 18]), (9, [42]), (10, [180, 0, 75]), (13, [42]), (14, [180, 0, 10]), (17, [27]), (18, [182, 1, 11]), (21, [167, 0, 4]), (24, [2]), (25, [172])] = true := by decide +kernel
theorem dX11_ask_0 : decode cX11_ask 0 = .ok (.iload_n 1, 1) := dk_27 (bs_at BX11_ask_0 0 rfl)
theorem dX11_ask_1 : decode cX11_ask 1 = .ok (.iconst 0, 1) := dk_3 (bs_at BX11_ask_0 1 rfl)
theorem dX11_ask_2 : decode cX11_ask 2 = .ok (.iconst 1, 1) := dk_4 (bs_at BX11_ask_0 2 rfl)
theorem dX11_ask_3 : decode cX11_ask 3 = .ok (.invokestatic 97, 3) := dk_184 0 97 (bs_at BX11_ask_0 3 rfl) rfl
theorem dX11_ask_6 : decode cX11_ask 6 = .ok (.ifCond .eq 18, 3) := dk_153 0 18 (bs_at BX11_ask_0 4 rfl) rfl
theorem dX11_ask_9 : decode cX11_ask 9 = .ok (.aload_n 0, 1) := dk_42 (bs_at BX11_ask_0 5 rfl)
theorem dX11_ask_10 : decode cX11_ask 10 = .ok (.getfield 75, 3) := dk_180 0 75 (bs_at BX11_ask_0 6 rfl) rfl
theorem dX11_ask_13 : decode cX11_ask 13 = .ok (.aload_n 0, 1) := dk_42 (bs_at BX11_ask_0 7 rfl)
theorem dX11_ask_14 : decode cX11_ask 14 = .ok (.getfield 10, 3) := dk_180 0 10 (bs_at BX11_ask_0 8 rfl) rfl
theorem dX11_ask_17 : decode cX11_ask 17 = .ok (.iload_n 1, 1) := dk_27 (bs_at BX11_ask_0 9 rfl)
theorem dX11_ask_18 : decode cX11_ask 18 = .ok (.invokevirtual 267, 3) := dk_182 1 11 (bs_at BX11_ask_0 10 rfl) rfl
theorem dX11_ask_21 : decode cX11_ask 21 = .ok (.goto 4, 3) := dk_167 0 4 (bs_at BX11_ask_0 11 rfl) rfl
theorem dX11_ask_24 : decode cX11_ask 24 = .ok (.iconst (-1), 1) := dk_2 (bs_at BX11_ask_0 12 rfl)
theorem dX11_ask_25 : decode cX11_ask 25 = .ok (.ireturn, 1) := dk_172 (bs_at BX11_ask_0 13 rfl)
theorem BX11_chance_0 : bsegs (ByteArray.data cX11_chance |>.toList.drop 0) 0 [(0, [27]), (1, [3]), (2, [16, 127]), (4, [184, 0, 97]), (7, [153, 0, 18]), (10, [42]), (11, [180, 0, 75]), (14, [42]), (15, [180, 0, 10]), (18, [27]), (19, [182, 1, 14]), (22, [167, 0, 6]), (25, [20, 1, 18]), (28, [173])] = true := by decide +kernel
theorem dX11_chance_0 : decode cX11_chance 0 = .ok (.iload_n 1, 1) := dk_27 (bs_at BX11_chance_0 0 rfl)
theorem dX11_chance_1 : decode cX11_chance 1 = .ok (.iconst 0, 1) := dk_3 (bs_at BX11_chance_0 1 rfl)
theorem dX11_chance_2 : decode cX11_chance 2 = .ok (.bipush 127, 2) := dk_16 127 (bs_at BX11_chance_0 2 rfl) rfl
theorem dX11_chance_4 : decode cX11_chance 4 = .ok (.invokestatic 97, 3) := dk_184 0 97 (bs_at BX11_chance_0 3 rfl) rfl
theorem dX11_chance_7 : decode cX11_chance 7 = .ok (.ifCond .eq 18, 3) := dk_153 0 18 (bs_at BX11_chance_0 4 rfl) rfl
theorem dX11_chance_10 : decode cX11_chance 10 = .ok (.aload_n 0, 1) := dk_42 (bs_at BX11_chance_0 5 rfl)
theorem dX11_chance_11 : decode cX11_chance 11 = .ok (.getfield 75, 3) := dk_180 0 75 (bs_at BX11_chance_0 6 rfl) rfl
theorem dX11_chance_14 : decode cX11_chance 14 = .ok (.aload_n 0, 1) := dk_42 (bs_at BX11_chance_0 7 rfl)
theorem dX11_chance_15 : decode cX11_chance 15 = .ok (.getfield 10, 3) := dk_180 0 10 (bs_at BX11_chance_0 8 rfl) rfl
theorem dX11_chance_18 : decode cX11_chance 18 = .ok (.iload_n 1, 1) := dk_27 (bs_at BX11_chance_0 9 rfl)
theorem dX11_chance_19 : decode cX11_chance 19 = .ok (.invokevirtual 270, 3) := dk_182 1 14 (bs_at BX11_chance_0 10 rfl) rfl
theorem dX11_chance_22 : decode cX11_chance 22 = .ok (.goto 6, 3) := dk_167 0 6 (bs_at BX11_chance_0 11 rfl) rfl
theorem dX11_chance_25 : decode cX11_chance 25 = .ok (.ldc2_w 274, 3) := dk_20 1 18 (bs_at BX11_chance_0 12 rfl) rfl
theorem dX11_chance_28 : decode cX11_chance 28 = .ok (.lreturn, 1) := dk_173 (bs_at BX11_chance_0 13 rfl)
theorem BX11_compare_0 : bsegs (ByteArray.data cX11_compare |>.toList.drop 0) 0 [(0, [27]), (1, [2]), (2, [42]), (3, [180, 0, 10]), (6, [180, 0, 173]), (9, [4]), (10, [100]), (11, [184, 0, 97]), (14, [153, 0, 13]), (17, [28]), (18, [4]), (19, [16, 60]), (21, [184, 0, 97]), (24, [154, 0, 5]), (27, [2]), (28, [172]), (29, [42]), (30, [180, 0, 68]), (33, [42]), (34, [180, 0, 10]), (37, [42]), (38, [180, 0, 10]), (41, [27]), (42, [182, 1, 20])] = true := by decide +kernel
theorem dX11_compare_0 : decode cX11_compare 0 = .ok (.iload_n 1, 1) := dk_27 (bs_at BX11_compare_0 0 rfl)
theorem dX11_compare_1 : decode cX11_compare 1 = .ok (.iconst (-1), 1) := dk_2 (bs_at BX11_compare_0 1 rfl)
theorem dX11_compare_2 : decode cX11_compare 2 = .ok (.aload_n 0, 1) := dk_42 (bs_at BX11_compare_0 2 rfl)
theorem dX11_compare_3 : decode cX11_compare 3 = .ok (.getfield 10, 3) := dk_180 0 10 (bs_at BX11_compare_0 3 rfl) rfl
theorem dX11_compare_6 : decode cX11_compare 6 = .ok (.getfield 173, 3) := dk_180 0 173 (bs_at BX11_compare_0 4 rfl) rfl
theorem dX11_compare_9 : decode cX11_compare 9 = .ok (.iconst 1, 1) := dk_4 (bs_at BX11_compare_0 5 rfl)
theorem dX11_compare_10 : decode cX11_compare 10 = .ok (.isub, 1) := dk_100 (bs_at BX11_compare_0 6 rfl)
theorem dX11_compare_11 : decode cX11_compare 11 = .ok (.invokestatic 97, 3) := dk_184 0 97 (bs_at BX11_compare_0 7 rfl) rfl
theorem dX11_compare_14 : decode cX11_compare 14 = .ok (.ifCond .eq 13, 3) := dk_153 0 13 (bs_at BX11_compare_0 8 rfl) rfl
theorem dX11_compare_17 : decode cX11_compare 17 = .ok (.iload_n 2, 1) := dk_28 (bs_at BX11_compare_0 9 rfl)
theorem dX11_compare_18 : decode cX11_compare 18 = .ok (.iconst 1, 1) := dk_4 (bs_at BX11_compare_0 10 rfl)
theorem dX11_compare_19 : decode cX11_compare 19 = .ok (.bipush 60, 2) := dk_16 60 (bs_at BX11_compare_0 11 rfl) rfl
theorem dX11_compare_21 : decode cX11_compare 21 = .ok (.invokestatic 97, 3) := dk_184 0 97 (bs_at BX11_compare_0 12 rfl) rfl
theorem dX11_compare_24 : decode cX11_compare 24 = .ok (.ifCond .ne 5, 3) := dk_154 0 5 (bs_at BX11_compare_0 13 rfl) rfl
theorem dX11_compare_27 : decode cX11_compare 27 = .ok (.iconst (-1), 1) := dk_2 (bs_at BX11_compare_0 14 rfl)
theorem dX11_compare_28 : decode cX11_compare 28 = .ok (.ireturn, 1) := dk_172 (bs_at BX11_compare_0 15 rfl)
theorem dX11_compare_29 : decode cX11_compare 29 = .ok (.aload_n 0, 1) := dk_42 (bs_at BX11_compare_0 16 rfl)
theorem dX11_compare_30 : decode cX11_compare 30 = .ok (.getfield 68, 3) := dk_180 0 68 (bs_at BX11_compare_0 17 rfl) rfl
theorem dX11_compare_33 : decode cX11_compare 33 = .ok (.aload_n 0, 1) := dk_42 (bs_at BX11_compare_0 18 rfl)
theorem dX11_compare_34 : decode cX11_compare 34 = .ok (.getfield 10, 3) := dk_180 0 10 (bs_at BX11_compare_0 19 rfl) rfl
theorem dX11_compare_37 : decode cX11_compare 37 = .ok (.aload_n 0, 1) := dk_42 (bs_at BX11_compare_0 20 rfl)
theorem dX11_compare_38 : decode cX11_compare 38 = .ok (.getfield 10, 3) := dk_180 0 10 (bs_at BX11_compare_0 21 rfl) rfl
theorem dX11_compare_41 : decode cX11_compare 41 = .ok (.iload_n 1, 1) := dk_27 (bs_at BX11_compare_0 22 rfl)
theorem dX11_compare_42 : decode cX11_compare 42 = .ok (.invokevirtual 276, 3) := dk_182 1 20 (bs_at BX11_compare_0 23 rfl) rfl
theorem BX11_compare_45 : bsegs (ByteArray.data cX11_compare |>.toList.drop 45) 45 [(45, [28]), (46, [182, 1, 24]), (49, [172])] = true := by decide +kernel
theorem dX11_compare_45 : decode cX11_compare 45 = .ok (.iload_n 2, 1) := dk_28 (bs_at BX11_compare_45 0 rfl)
theorem dX11_compare_46 : decode cX11_compare 46 = .ok (.invokevirtual 280, 3) := dk_182 1 24 (bs_at BX11_compare_45 1 rfl) rfl
theorem dX11_compare_49 : decode cX11_compare 49 = .ok (.ireturn, 1) := dk_172 (bs_at BX11_compare_45 2 rfl)
theorem ggX11_least_X9_has : GoodIn wsX11_least wsX9_has := gi_ch ch_X11_least ch_X9_has (by decide +kernel)
set_option maxRecDepth 20000 in
theorem gX11_least_X9_has_n121 : GoodIn wsX11_least (wsX9_has) := ggX11_least_X9_has
theorem ggX11_least_X11_within : GoodIn wsX11_least wsX11_within := gi_ch ch_X11_least ch_X11_within (by decide +kernel)
theorem gX11_least_X11_within : GoodIn wsX11_least (va_wsS RX11 97 yX11_within wsX11_within) := gi_ch ch_X11_least (ch_s [372, 373, 144] rfl ch_X11_within) (by decide +kernel)
theorem ggX11_least_X5_leastCoal : GoodIn wsX11_least wsX5_leastCoal := gi_ch ch_X11_least ch_X5_leastCoal (by decide +kernel)
set_option maxRecDepth 20000 in
theorem gX11_least_X5_leastCoal_n245 : GoodIn wsX11_least (wsX5_leastCoal) := ggX11_least_X5_leastCoal
theorem ggX11_rings_X9_has : GoodIn wsX11_rings wsX9_has := gi_ch ch_X11_rings ch_X9_has (by decide +kernel)
set_option maxRecDepth 20000 in
theorem gX11_rings_X9_has_n121 : GoodIn wsX11_rings (wsX9_has) := ggX11_rings_X9_has
theorem ggX11_rings_X4_swapped : GoodIn wsX11_rings wsX4_swapped := gi_ch ch_X11_rings ch_X4_swapped (by decide +kernel)
set_option maxRecDepth 20000 in
theorem gX11_rings_X4_swapped_n249 : GoodIn wsX11_rings (wsX4_swapped) := ggX11_rings_X4_swapped
theorem ggX11_tune_X11_within : GoodIn wsX11_tune wsX11_within := gi_ch ch_X11_tune ch_X11_within (by decide +kernel)
theorem gX11_tune_X11_within : GoodIn wsX11_tune (va_wsS RX11 97 yX11_within wsX11_within) := gi_ch ch_X11_tune (ch_s [372, 373, 144] rfl ch_X11_within) (by decide +kernel)
theorem ggX11_tune_X9_has : GoodIn wsX11_tune wsX9_has := gi_ch ch_X11_tune ch_X9_has (by decide +kernel)
set_option maxRecDepth 20000 in
theorem gX11_tune_X9_has_n121 : GoodIn wsX11_tune (wsX9_has) := ggX11_tune_X9_has
theorem ggX11_tune_X9_fact : GoodIn wsX11_tune wsX9_fact := gi_ch ch_X11_tune ch_X9_fact (by decide +kernel)
set_option maxRecDepth 20000 in
theorem gX11_tune_X9_fact_n125 : GoodIn wsX11_tune (wsX9_fact) := ggX11_tune_X9_fact
theorem ggX11_tune_X4_retune : GoodIn wsX11_tune wsX4_retune := gi_ch ch_X11_tune ch_X4_retune (by decide +kernel)
set_option maxRecDepth 20000 in
theorem gX11_tune_X4_retune_n252 : GoodIn wsX11_tune (wsX4_retune) := ggX11_tune_X4_retune
theorem ggX11_tune_X4_tunedNote : GoodIn wsX11_tune wsX4_tunedNote := gi_ch ch_X11_tune ch_X4_tunedNote (by decide +kernel)
set_option maxRecDepth 20000 in
theorem gX11_tune_X4_tunedNote_n255 : GoodIn wsX11_tune (wsX4_tunedNote) := ggX11_tune_X4_tunedNote
theorem ggX11_hear_X11_within : GoodIn wsX11_hear wsX11_within := gi_ch ch_X11_hear ch_X11_within (by decide +kernel)
theorem gX11_hear_X11_within : GoodIn wsX11_hear (va_wsS RX11 97 yX11_within wsX11_within) := gi_ch ch_X11_hear (ch_s [372, 373, 144] rfl ch_X11_within) (by decide +kernel)
theorem ggX11_hear_X11_accept : GoodIn wsX11_hear wsX11_accept := gi_ch ch_X11_hear ch_X11_accept (by decide +kernel)
theorem gX11_hear_X11_accept : GoodIn wsX11_hear (wsV RX11 118 RX11 yX11_accept wsX11_accept) := gi_ch ch_X11_hear (ch_v [390, 391, 6, 144] rfl ch_X11_accept) (by decide +kernel)
theorem ggX11_hear_X11_refuse : GoodIn wsX11_hear wsX11_refuse := gi_ch ch_X11_hear ch_X11_refuse (by decide +kernel)
theorem gX11_hear_X11_refuse : GoodIn wsX11_hear (wsV RX11 101 RX11 yX11_refuse wsX11_refuse) := gi_ch ch_X11_hear (ch_v [375, 376, 0, 144] rfl ch_X11_refuse) (by decide +kernel)
theorem ggX11_hill_X4_hillSet : GoodIn wsX11_hill wsX4_hillSet := gi_ch ch_X11_hill ch_X4_hillSet (by decide +kernel)
set_option maxRecDepth 20000 in
theorem gX11_hill_X4_hillSet_n264 : GoodIn wsX11_hill (wsX4_hillSet) := ggX11_hill_X4_hillSet
theorem ggX11_ask_X11_within : GoodIn wsX11_ask wsX11_within := gi_ch ch_X11_ask ch_X11_within (by decide +kernel)
theorem gX11_ask_X11_within : GoodIn wsX11_ask (va_wsS RX11 97 yX11_within wsX11_within) := gi_ch ch_X11_ask (ch_s [372, 373, 144] rfl ch_X11_within) (by decide +kernel)
theorem ggX11_ask_X4_question : GoodIn wsX11_ask wsX4_question := gi_ch ch_X11_ask ch_X4_question (by decide +kernel)
set_option maxRecDepth 20000 in
theorem gX11_ask_X4_question_n267 : GoodIn wsX11_ask (wsX4_question) := ggX11_ask_X4_question
theorem ggX11_chance_X11_within : GoodIn wsX11_chance wsX11_within := gi_ch ch_X11_chance ch_X11_within (by decide +kernel)
theorem gX11_chance_X11_within : GoodIn wsX11_chance (va_wsS RX11 97 yX11_within wsX11_within) := gi_ch ch_X11_chance (ch_s [372, 373, 144] rfl ch_X11_within) (by decide +kernel)
theorem ggX11_chance_X4_odds : GoodIn wsX11_chance wsX4_odds := gi_ch ch_X11_chance ch_X4_odds (by decide +kernel)
set_option maxRecDepth 20000 in
theorem gX11_chance_X4_odds_n270 : GoodIn wsX11_chance (wsX4_odds) := ggX11_chance_X4_odds
theorem ggX11_compare_X11_within : GoodIn wsX11_compare wsX11_within := gi_ch ch_X11_compare ch_X11_within (by decide +kernel)
theorem gX11_compare_X11_within : GoodIn wsX11_compare (va_wsS RX11 97 yX11_within wsX11_within) := gi_ch ch_X11_compare (ch_s [372, 373, 144] rfl ch_X11_within) (by decide +kernel)
theorem ggX11_compare_X9_lawAt : GoodIn wsX11_compare wsX9_lawAt := gi_ch ch_X11_compare ch_X9_lawAt (by decide +kernel)
set_option maxRecDepth 20000 in
theorem gX11_compare_X9_lawAt_n276 : GoodIn wsX11_compare (wsX9_lawAt) := ggX11_compare_X9_lawAt
theorem ggX11_compare_X5_coalBy : GoodIn wsX11_compare wsX5_coalBy := gi_ch ch_X11_compare ch_X5_coalBy (by decide +kernel)
set_option maxRecDepth 20000 in
theorem gX11_compare_X5_coalBy_n280 : GoodIn wsX11_compare (wsX5_coalBy) := ggX11_compare_X5_coalBy
set_option maxRecDepth 100000 in
noncomputable def E_w_least_j34 (fb : Nat → Int32) (ff : Nat → Int32) (fo : Nat → Int32) (fk : Nat → Int32) (fa : Nat → Int32) (br : Int32) (fs : Nat → Int32) (fw : Nat → Int32) : Int32 × (Nat → Int32) × (Nat → Int32) × (Nat → Int32) × (Nat → Int32) × (Nat → Int32) × Int32 × (Nat → Int32) × (Nat → Int32) :=
  (((-1), fb, ff, fo, fk, fa, br, fs, fw) : Int32 × (Nat → Int32) × (Nat → Int32) × (Nat → Int32) × (Nat → Int32) × (Nat → Int32) × Int32 × (Nat → Int32) × (Nat → Int32))
set_option maxRecDepth 100000 in
noncomputable def E_w_least (G : Nat → LC) (x : Int32) (y : Int32) (z : Int32) (w : Int32) (fb : Nat → Int32) (ff : Nat → Int32) (fo : Nat → Int32) (fk : Nat → Int32) (fa : Nat → Int32) (br : Int32) (fs : Nat → Int32) (fw : Nat → Int32) (n : Int32) (lt : Int32) (nf : Int32) (fi : Int32) (f1 : Nat → Int32) (f2 : Nat → Int32) (f3 : Nat → Int32) (fl : Nat → Option Nat) : Int32 × (Nat → Int32) × (Nat → Int32) × (Nat → Int32) × (Nat → Int32) × (Nat → Int32) × Int32 × (Nat → Int32) × (Nat → Int32) :=
  Lt (E_w_has x n) (fun r_259 => if r_259 = 1 then (Lt (E_w_within y 1 12) (fun r_265 => if r_265 = 1 then (Lt (1 <<< (y &&& 31) : Int32) (fun x_271 => Lt (x_271 - 1 : Int32) (fun x_272 => Lt (E_w_within z 0 x_272) (fun r_273 => if r_273 = 1 then (Lt (y - 1 : Int32) (fun x_279 => Lt (E_w_within w (-1) x_279) (fun r_280 => if r_280 = 1 then (Lt2 (E_w_leastCoal G x y z w fb ff fo fk fa br fs fw n lt nf fi f1 f2 f3 fl) (fun r_286 q0_r_286 => Lt2 q0_r_286 (fun u_287_2_1_0 q1_u_287_2_1_0 => Lt2 q1_u_287_2_1_0 (fun u_287_2_1_1 q2_u_287_2_1_1 => Lt2 q2_u_287_2_1_1 (fun u_287_2_1_2 q3_u_287_2_1_2 => Lt2 q3_u_287_2_1_2 (fun u_287_2_1_3 q4_u_287_2_1_3 => Lt2 q4_u_287_2_1_3 (fun u_287_2_1_4 q5_u_287_2_1_4 => Lt2 q5_u_287_2_1_4 (fun u_287_2_2_2_1_0 q6_u_287_2_2_2_1_0 => Lt2 q6_u_287_2_2_2_1_0 (fun u_287_2_1_5 u_287_2_1_6 => ((r_286, u_287_2_1_0, u_287_2_1_1, u_287_2_1_2, u_287_2_1_3, u_287_2_1_4, u_287_2_2_2_1_0, u_287_2_1_5, u_287_2_1_6) : Int32 × (Nat → Int32) × (Nat → Int32) × (Nat → Int32) × (Nat → Int32) × (Nat → Int32) × Int32 × (Nat → Int32) × (Nat → Int32))))))))))) else ((((-1), fb, ff, fo, fk, fa, br, fs, fw) : Int32 × (Nat → Int32) × (Nat → Int32) × (Nat → Int32) × (Nat → Int32) × (Nat → Int32) × Int32 × (Nat → Int32) × (Nat → Int32)))))) else (E_w_least_j34 fb ff fo fk fa br fs fw))))) else (E_w_least_j34 fb ff fo fk fa br fs fw))) else (E_w_least_j34 fb ff fo fk fa br fs fw))
set_option maxHeartbeats 4000000 in
set_option maxRecDepth 100000 in
theorem w_least (l : Launch) (D : va_G) (K : Nat → ClassId) (g : Nat → Nat) (L : Nat → Prop) (G : Nat → LC) (o0 : Nat) (x : Int32) (y : Int32) (z : Int32) (w : Int32) (t0 : Nat) (o_1 : Value) (o_2 : Value) (o_3 : Value) (o_4 : Value) (o_5 : Value) (o_6 : Value) (o_7 : Value) (o_8 : Value) (o_9 : Value) (p0 : Nat) (o_11 : Value) (o_12 : Value) (o_13 : Value) (o_14 : Value) (o_15 : Value) (o_16 : Value) (a0 : Nat) (p1 : Nat) (p2 : Nat) (p3 : Nat) (p4 : Nat) (p5 : Nat) (fb : Nat → Int32) (ff : Nat → Int32) (fo : Nat → Int32) (fk : Nat → Int32) (fa : Nat → Int32) (m0 : Nat) (w0 : Nat) (m1 : Nat) (br : Int32) (fs : Nat → Int32) (fw : Nat → Int32) (t1 : Nat) (t3 : Nat) (t2 : Nat) (l0 : Nat) (n : Int32) (lt : Int32) (nf : Int32) (fi : Int32) (k_8 : Value) (k_9 : Value) (f1 : Nat → Int32) (gt : Nat → Int32) (f2 : Nat → Int32) (f3 : Nat → Int32) (gc : Nat → Int32) (fl : Nat → Option Nat) (sz : Nat) (zn : 0 ≤ n.toInt ∧ n.toInt ≤ 8) (zlt : 0 ≤ lt.toInt ∧ lt.toInt ≤ 6) (zbr : 0 ≤ br.toInt ∧ br.toInt ≤ 1) (zfb : Rg 21 0 999 fb) (zff : Rg 21 (-1) 20 ff) (zfo : Rg 273 0 1000 fo) (zfa : Rg 252 0 20 fa) (zgt : FzC gt f1) (zgc : FzH gc f3) (zfl : InL L fl) : Met l yX11_least wsX11_least ({ frames := 5, cells := 0, slots := 0, locals := 134 }) (va_Pc [.ref o0, .int x, .int y, .int z, .int w] (PreY D K [(o0, .inr (11, [.ref t0, o_1, o_2, o_3, o_4, o_5, o_6, o_7, o_8, o_9, .ref p0, o_11, o_12, o_13, o_14, o_15, o_16])), (p0, .inr (5, [.ref a0, .ref p1, .ref p2, .ref p3, .ref p4, .ref p5])), (p1, .inl (K 0, 21, .inl fb)), (p2, .inl (K 0, 21, .inl ff)), (p3, .inl (K 0, 273, .inl fo)), (p4, .inl (K 0, 252, .inl fk)), (p5, .inl (K 0, 252, .inl fa)), (a0, .inr (0, [.ref m0, .ref w0])), (m0, .inr (3, [.ref m1, .int br])), (m1, .inl (K 0, 64, .inl fs)), (w0, .inl (K 0, 9, .inl fw)), (t0, .inr (9, [.ref t1, .ref t3, .ref t2, .ref l0, .int n, .int lt, .int nf, .int fi, k_8, k_9])), (t1, .inl (K 0, 56, .inl f1)), (t2, .inl (K 0, 6, .inl f2)), (t3, .inl (K 0, 24, .inl f3)), (l0, .inl (K 4, 6, .inr (.inr (.inr (.inr fl)))))] [] sz g L G (va_A [(o0, .inr (11, [.ref t0, o_1, o_2, o_3, o_4, o_5, o_6, o_7, o_8, o_9, .ref p0, o_11, o_12, o_13, o_14, o_15, o_16])), (p0, .inr (5, [.ref a0, .ref p1, .ref p2, .ref p3, .ref p4, .ref p5])), (p1, .inl (K 0, 21, .inl fb)), (p2, .inl (K 0, 21, .inl ff)), (p3, .inl (K 0, 273, .inl fo)), (p4, .inl (K 0, 252, .inl fk)), (p5, .inl (K 0, 252, .inl fa)), (a0, .inr (0, [.ref m0, .ref w0])), (m0, .inr (3, [.ref m1, .int br])), (m1, .inl (K 0, 64, .inl fs)), (w0, .inl (K 0, 9, .inl fw)), (t0, .inr (9, [.ref t1, .ref t3, .ref t2, .ref l0, .int n, .int lt, .int nf, .int fi, k_8, k_9])), (t1, .inl (K 0, 56, .inl f1)), (t2, .inl (K 0, 6, .inl f2)), (t3, .inl (K 0, 24, .inl f3)), (l0, .inl (K 4, 6, .inr (.inr (.inr (.inr fl)))))] sz))) (va_Qi (S := Su) (fun (r : Int32) (u : Su) => (Rg 21 0 999 (u.2.1 0)) ∧ (Rg 21 (-1) 20 (u.2.1 1)) ∧ (Rg 273 0 1000 (u.2.1 2)) ∧ (Rg 252 0 20 (u.2.1 4)) ∧ (0 ≤ (u.2.2.2.1 0).toInt ∧ (u.2.2.2.1 0).toInt ≤ 1) ∧ ((r, (u.2.1 0), (u.2.1 1), (u.2.1 2), (u.2.1 3), (u.2.1 4), (u.2.2.2.1 0), (u.2.1 5), (u.2.1 6)) = E_w_least G x y z w fb ff fo fk fa br fs fw n lt nf fi f1 f2 f3 fl) ∧ True) (fun u t => Wd D (va_A [(o0, .inr (11, [.ref t0, o_1, o_2, o_3, o_4, o_5, o_6, o_7, o_8, o_9, .ref p0, o_11, o_12, o_13, o_14, o_15, o_16])), (p0, .inr (5, [.ref a0, .ref p1, .ref p2, .ref p3, .ref p4, .ref p5])), (p1, .inl (K 0, 21, .inl fb)), (p2, .inl (K 0, 21, .inl ff)), (p3, .inl (K 0, 273, .inl fo)), (p4, .inl (K 0, 252, .inl fk)), (p5, .inl (K 0, 252, .inl fa)), (a0, .inr (0, [.ref m0, .ref w0])), (m0, .inr (3, [.ref m1, .int br])), (m1, .inl (K 0, 64, .inl fs)), (w0, .inl (K 0, 9, .inl fw)), (t0, .inr (9, [.ref t1, .ref t3, .ref t2, .ref l0, .int n, .int lt, .int nf, .int fi, k_8, k_9])), (t1, .inl (K 0, 56, .inl f1)), (t2, .inl (K 0, 6, .inl f2)), (t3, .inl (K 0, 24, .inl f3)), (l0, .inl (K 4, 6, .inr (.inr (.inr (.inr fl)))))] sz) ((fun u => [(o0, .inr (11, [.ref t0, o_1, o_2, o_3, o_4, o_5, o_6, o_7, o_8, o_9, .ref p0, o_11, o_12, o_13, o_14, o_15, o_16])), (p0, .inr (5, [.ref a0, .ref p1, .ref p2, .ref p3, .ref p4, .ref p5])), (p1, .inl (K 0, 21, .inl (u.2.1 0))), (p2, .inl (K 0, 21, .inl (u.2.1 1))), (p3, .inl (K 0, 273, .inl (u.2.1 2))), (p4, .inl (K 0, 252, .inl (u.2.1 3))), (p5, .inl (K 0, 252, .inl (u.2.1 4))), (a0, .inr (0, [.ref m0, .ref w0])), (m0, .inr (3, [.ref m1, .int (u.2.2.2.1 0)])), (m1, .inl (K 0, 64, .inl (u.2.1 5))), (w0, .inl (K 0, 9, .inl (u.2.1 6))), (t0, .inr (9, [.ref t1, .ref t3, .ref t2, .ref l0, .int n, .int lt, .int nf, .int fi, k_8, k_9])), (t1, .inl (K 0, 56, .inl f1)), (t2, .inl (K 0, 6, .inl f2)), (t3, .inl (K 0, 24, .inl f3)), (l0, .inl (K 4, 6, .inr (.inr (.inr (.inr fl)))))]) u) t) (va_A [(o0, .inr (11, [.ref t0, o_1, o_2, o_3, o_4, o_5, o_6, o_7, o_8, o_9, .ref p0, o_11, o_12, o_13, o_14, o_15, o_16])), (p0, .inr (5, [.ref a0, .ref p1, .ref p2, .ref p3, .ref p4, .ref p5])), (p1, .inl (K 0, 21, .inl fb)), (p2, .inl (K 0, 21, .inl ff)), (p3, .inl (K 0, 273, .inl fo)), (p4, .inl (K 0, 252, .inl fk)), (p5, .inl (K 0, 252, .inl fa)), (a0, .inr (0, [.ref m0, .ref w0])), (m0, .inr (3, [.ref m1, .int br])), (m1, .inl (K 0, 64, .inl fs)), (w0, .inl (K 0, 9, .inl fw)), (t0, .inr (9, [.ref t1, .ref t3, .ref t2, .ref l0, .int n, .int lt, .int nf, .int fi, k_8, k_9])), (t1, .inl (K 0, 56, .inl f1)), (t2, .inl (K 0, 6, .inl f2)), (t3, .inl (K 0, 24, .inl f3)), (l0, .inl (K 4, 6, .inr (.inr (.inr (.inr fl)))))] sz)) 0 0 (va_A [(o0, .inr (11, [.ref t0, o_1, o_2, o_3, o_4, o_5, o_6, o_7, o_8, o_9, .ref p0, o_11, o_12, o_13, o_14, o_15, o_16])), (p0, .inr (5, [.ref a0, .ref p1, .ref p2, .ref p3, .ref p4, .ref p5])), (p1, .inl (K 0, 21, .inl fb)), (p2, .inl (K 0, 21, .inl ff)), (p3, .inl (K 0, 273, .inl fo)), (p4, .inl (K 0, 252, .inl fk)), (p5, .inl (K 0, 252, .inl fa)), (a0, .inr (0, [.ref m0, .ref w0])), (m0, .inr (3, [.ref m1, .int br])), (m1, .inl (K 0, 64, .inl fs)), (w0, .inl (K 0, 9, .inl fw)), (t0, .inr (9, [.ref t1, .ref t3, .ref t2, .ref l0, .int n, .int lt, .int nf, .int fi, k_8, k_9])), (t1, .inl (K 0, 56, .inl f1)), (t2, .inl (K 0, 6, .inl f2)), (t3, .inl (K 0, 24, .inl f3)), (l0, .inl (K 4, 6, .inr (.inr (.inr (.inr fl)))))] sz) := by
  refine Met.ofW (cc := cX11_least) (maxL := 5) (ret := (some .int)) (by decide +kernel) rfl ?_
  intro p e s m args below meth c s₁ B hml hv
  obtain ⟨rfl, ⟨hsz, hP, hK, hD0, hN⟩, hG, hPl, hRo⟩ := hv
  have hx := B.exec
  have hb := B.bytes
  have hr := B.returns
  have hts := atoms_spec (ws := wsX11_least) B.pre
  have hown : s.vm.findClass RX11 = some m.cls := findClass_of_methodNamed B.named
  have hlocks := B.notSynchronized
  subst hsz
  have hD := hD0.self (sz := s.heap.size)
  generalize hAe : va_A [(o0, .inr (11, [.ref t0, o_1, o_2, o_3, o_4, o_5, o_6, o_7, o_8, o_9, .ref p0, o_11, o_12, o_13, o_14, o_15, o_16])), (p0, .inr (5, [.ref a0, .ref p1, .ref p2, .ref p3, .ref p4, .ref p5])), (p1, .inl (K 0, 21, .inl fb)), (p2, .inl (K 0, 21, .inl ff)), (p3, .inl (K 0, 273, .inl fo)), (p4, .inl (K 0, 252, .inl fk)), (p5, .inl (K 0, 252, .inl fa)), (a0, .inr (0, [.ref m0, .ref w0])), (m0, .inr (3, [.ref m1, .int br])), (m1, .inl (K 0, 64, .inl fs)), (w0, .inl (K 0, 9, .inl fw)), (t0, .inr (9, [.ref t1, .ref t3, .ref t2, .ref l0, .int n, .int lt, .int nf, .int fi, k_8, k_9])), (t1, .inl (K 0, 56, .inl f1)), (t2, .inl (K 0, 6, .inl f2)), (t3, .inl (K 0, 24, .inl f3)), (l0, .inl (K 4, 6, .inr (.inr (.inr (.inr fl)))))] s.heap.size = A at hD hG hPl hRo ⊢
  have hA : ∀ q : Nat, s.heap.size ≤ q → A q := fun q h => by rw [← hAe]; exact Or.inr h
  clear hAe
  have hS : va_S A s.heap s.heap [] := va_S.rf
  replace hP : va_P D vwCl [(o0, .inr (11, [.ref t0, o_1, o_2, o_3, o_4, o_5, o_6, o_7, o_8, o_9, .ref p0, o_11, o_12, o_13, o_14, o_15, o_16])), (p0, .inr (5, [.ref a0, .ref p1, .ref p2, .ref p3, .ref p4, .ref p5])), (p1, .inl (K 0, 21, .inl fb)), (p2, .inl (K 0, 21, .inl ff)), (p3, .inl (K 0, 273, .inl fo)), (p4, .inl (K 0, 252, .inl fk)), (p5, .inl (K 0, 252, .inl fa)), (a0, .inr (0, [.ref m0, .ref w0])), (m0, .inr (3, [.ref m1, .int br])), (m1, .inl (K 0, 64, .inl fs)), (w0, .inl (K 0, 9, .inl fw)), (t0, .inr (9, [.ref t1, .ref t3, .ref t2, .ref l0, .int n, .int lt, .int nf, .int fi, k_8, k_9])), (t1, .inl (K 0, 56, .inl f1)), (t2, .inl (K 0, 6, .inl f2)), (t3, .inl (K 0, 24, .inl f3)), (l0, .inl (K 4, 6, .inr (.inr (.inr (.inr fl)))))] s.heap := hP
  have hl := lv_entry [.ref o0, .int x, .int y, .int z, .int w] (n := 5) (Nat.le_of_ble_eq_true rfl)
  rw [lg_entry_eq]
  generalize (lg_sl [.ref o0, .int x, .int y, .int z, .int w] ++ List.replicate (5 - (lg_sl [.ref o0, .int x, .int y, .int z, .int w]).length) Slot.unset).toArray = ls at hl ⊢
  have hl : lv_has ls 5 [(0, .ref o0), (1, .int x), (2, .int y), (3, .int z), (4, .int w)] := hl
  have hw0 : ∀ w ∈ wsX00, w ∈ wsX11_least := fun w h => (List.mem_cons_of_mem _ (List.mem_append_left _ (List.mem_append_left _ (List.mem_append_right _ h))))
  have hw3 : ∀ w ∈ wsX30, w ∈ wsX11_least := fun w h => (List.mem_cons_of_mem _ (List.mem_append_right _ h))
  have hw5 : ∀ w ∈ wsX50, w ∈ wsX11_least := fun w h => (List.mem_cons_of_mem _ (List.mem_append_left _ (List.mem_append_left _ (List.mem_append_left _ (List.mem_append_right _ h)))))
  have hw7 : ∀ w ∈ wsX70, w ∈ wsX11_least := fun w h => (List.mem_cons_of_mem _ (List.mem_append_left _ (List.mem_append_right _ h)))
  have hw9 : ∀ w ∈ wsX90, w ∈ wsX11_least := fun w h => (List.mem_cons_of_mem _ (List.mem_append_left _ (List.mem_append_left _ (List.mem_append_left _ (List.mem_append_left _ (List.mem_append_right _ h))))))
  have hw11 : ∀ w ∈ wsX110, w ∈ wsX11_least := fun w h => (List.mem_cons_of_mem _ (List.mem_append_left _ (List.mem_append_left _ (List.mem_append_left _ (List.mem_append_left _ (List.mem_append_left _ (List.mem_append_right _ h)))))))
  generalize hQ : MQ below _ _ s _ _ _ = Q
  have hE := E_w_least.eq_def G x y z w fb ff fo fk fa br fs fw n lt nf fi f1 f2 f3 fl
  refine lv_aload_n hx hb dX11_least_0 rfl (lv_at hl 0 rfl) ?_
  refine va_get (ci := 11) (v := .ref t0) (C := RX11) (T := TX11) (N := 17) hx hb hts hw11 hown hK hP 0 rfl rfl 0 (by decide +kernel) (hts _ mm_X11_least_334) (fun _ h9 => h9) rfl dX11_least_1 ?_
  refine lv_iload_n hx hb dX11_least_4 rfl (lv_at hl 1 rfl) ?_
  have j_258 : ∀ (hE : E_w_least G x y z w fb ff fo fk fa br fs fw n lt nf fi f1 f2 f3 fl = E_w_least_j34 fb ff fo fk fa br fs fw) (H : Heap) (locs : List Loc) (hP : va_P D vwCl [(o0, .inr (11, [.ref t0, o_1, o_2, o_3, o_4, o_5, o_6, o_7, o_8, o_9, .ref p0, o_11, o_12, o_13, o_14, o_15, o_16])), (p0, .inr (5, [.ref a0, .ref p1, .ref p2, .ref p3, .ref p4, .ref p5])), (p1, .inl (K 0, 21, .inl fb)), (p2, .inl (K 0, 21, .inl ff)), (p3, .inl (K 0, 273, .inl fo)), (p4, .inl (K 0, 252, .inl fk)), (p5, .inl (K 0, 252, .inl fa)), (a0, .inr (0, [.ref m0, .ref w0])), (m0, .inr (3, [.ref m1, .int br])), (m1, .inl (K 0, 64, .inl fs)), (w0, .inl (K 0, 9, .inl fw)), (t0, .inr (9, [.ref t1, .ref t3, .ref t2, .ref l0, .int n, .int lt, .int nf, .int fi, k_8, k_9])), (t1, .inl (K 0, 56, .inl f1)), (t2, .inl (K 0, 6, .inl f2)), (t3, .inl (K 0, 24, .inl f3)), (l0, .inl (K 4, 6, .inr (.inr (.inr (.inr fl)))))] H) (hD : va_D A [(o0, .inr (11, [.ref t0, o_1, o_2, o_3, o_4, o_5, o_6, o_7, o_8, o_9, .ref p0, o_11, o_12, o_13, o_14, o_15, o_16])), (p0, .inr (5, [.ref a0, .ref p1, .ref p2, .ref p3, .ref p4, .ref p5])), (p1, .inl (K 0, 21, .inl fb)), (p2, .inl (K 0, 21, .inl ff)), (p3, .inl (K 0, 273, .inl fo)), (p4, .inl (K 0, 252, .inl fk)), (p5, .inl (K 0, 252, .inl fa)), (a0, .inr (0, [.ref m0, .ref w0])), (m0, .inr (3, [.ref m1, .int br])), (m1, .inl (K 0, 64, .inl fs)), (w0, .inl (K 0, 9, .inl fw)), (t0, .inr (9, [.ref t1, .ref t3, .ref t2, .ref l0, .int n, .int lt, .int nf, .int fi, k_8, k_9])), (t1, .inl (K 0, 56, .inl f1)), (t2, .inl (K 0, 6, .inl f2)), (t3, .inl (K 0, 24, .inl f3)), (l0, .inl (K 4, 6, .inr (.inr (.inr (.inr fl)))))]) (hS : va_S A s.heap H locs) (ls : Array Slot) (hl : lv_has ls 5 []), W p l e ({ frames := 5, cells := 0, slots := 0, locals := 134 }) s m (([.ref o0, .int x, .int y, .int z, .int w] : List Value).toArray) below meth c H locs 0 0 Q (F0 m 34 ls []) := by
    clear hE hP hD hS hl
    intro hE H locs hP hD hS ls hl
    replace hE := hE.trans (E_w_least_j34.eq_def _ _ _ _ _ _ _ _)
    refine lv_iconst (v := (-1)) hx hb dX11_least_34 (by decide +kernel) ?_
    rw [← hQ]
    have hP9 := hP.sub (ws' := [(o0, .inr (11, [.ref t0, o_1, o_2, o_3, o_4, o_5, o_6, o_7, o_8, o_9, .ref p0, o_11, o_12, o_13, o_14, o_15, o_16])), (p0, .inr (5, [.ref a0, .ref p1, .ref p2, .ref p3, .ref p4, .ref p5])), (p1, .inl (K 0, 21, .inl fb)), (p2, .inl (K 0, 21, .inl ff)), (p3, .inl (K 0, 273, .inl fo)), (p4, .inl (K 0, 252, .inl fk)), (p5, .inl (K 0, 252, .inl fa)), (a0, .inr (0, [.ref m0, .ref w0])), (m0, .inr (3, [.ref m1, .int br])), (m1, .inl (K 0, 64, .inl fs)), (w0, .inl (K 0, 9, .inl fw)), (t0, .inr (9, [.ref t1, .ref t3, .ref t2, .ref l0, .int n, .int lt, .int nf, .int fi, k_8, k_9])), (t1, .inl (K 0, 56, .inl f1)), (t2, .inl (K 0, 6, .inl f2)), (t3, .inl (K 0, 24, .inl f3)), (l0, .inl (K 4, 6, .inr (.inr (.inr (.inr fl)))))]) [0, 1, 2, 3, 4, 5, 6, 7, 8, 9, 10, 11, 12, 13, 14, 15] rfl
    have hD9 := hD.sub (ws' := [(o0, .inr (11, [.ref t0, o_1, o_2, o_3, o_4, o_5, o_6, o_7, o_8, o_9, .ref p0, o_11, o_12, o_13, o_14, o_15, o_16])), (p0, .inr (5, [.ref a0, .ref p1, .ref p2, .ref p3, .ref p4, .ref p5])), (p1, .inl (K 0, 21, .inl fb)), (p2, .inl (K 0, 21, .inl ff)), (p3, .inl (K 0, 273, .inl fo)), (p4, .inl (K 0, 252, .inl fk)), (p5, .inl (K 0, 252, .inl fa)), (a0, .inr (0, [.ref m0, .ref w0])), (m0, .inr (3, [.ref m1, .int br])), (m1, .inl (K 0, 64, .inl fs)), (w0, .inl (K 0, 9, .inl fw)), (t0, .inr (9, [.ref t1, .ref t3, .ref t2, .ref l0, .int n, .int lt, .int nf, .int fi, k_8, k_9])), (t1, .inl (K 0, 56, .inl f1)), (t2, .inl (K 0, 6, .inl f2)), (t3, .inl (K 0, 24, .inl f3)), (l0, .inl (K 4, 6, .inr (.inr (.inr (.inr fl)))))]) [0, 1, 2, 3, 4, 5, 6, 7, 8, 9, 10, 11, 12, 13, 14, 15] (by decide +kernel) rfl
    exact W.iret (v := (-1)) hx hb hr (fun t ht hW => ⟨⟨(-1), ((fun _ => 0, fun i => ([fb, ff, fo, fk, fa, fs, fw] : List _).getD i (fun _ => 0), fun _ => fun _ => 0, fun i => match i with | _ => br, fun _ => 0, fun _ => fun _ => none) : Su), rfl, ⟨zfb, zff, zfo, zfa, (show 0 ≤ (br : Int32).toInt ∧ (br : Int32).toInt ≤ 1 by omega), hE.symm, trivial⟩, (⟨by rw [ht]; exact hP9, hD9⟩ : Wd D A _ t)⟩, hS.F ht⟩) hS.2.2 dX11_least_35
  refine pci (va_runVN (As := [.int x]) (rest := []) ⟨hx, hb, hml, hown, hts⟩ (w_has l D K x.toInt n.toInt t0 x (.ref t1) (.ref t3) (.ref t2) (.ref l0) n (.int lt) (.int nf) (.int fi) k_8 k_9 s.heap.size rfl rfl) ⟨va_cnB 1 hts gX11_least_X9_has_n121 rfl rfl rfl (nst_at hN 19 rfl) (hts _ mm_X11_least_145) (by decide +kernel) ⟨Nat.le_of_ble_eq_true rfl, Nat.le_of_ble_eq_true rfl⟩, (hts _ mm_X11_least_397), (hts _ mm_X11_least_7)⟩ (mkV hK hN (hP.sub [11] rfl) (hD.sub [11] (by decide +kernel) rfl) (ci := 9) (q0 := 0) rfl rfl) rfl rfl hl.1 rfl (lv_room (Nat.le_of_ble_eq_true rfl)) dX11_least_5 ⟨Nat.le_of_ble_eq_true rfl, Nat.le_of_ble_eq_true rfl⟩) (fun r_259 hw => ?_)
  obtain ⟨hw, k_260, -⟩ := hw
  replace hE := hE.trans (Lt_in k_260)
  rcases hw with ⟨rfl, h_261, h_262⟩ | ⟨rfl, h_263⟩
  · replace hE := (hE).trans (if_pos rfl)
    refine lv_if_eq (tgt := 34) hx hb dX11_least_8 (by decide +kernel) (fun c_264 => absurd c_264 (by decide +kernel)) (fun c_264 => ?_)
    refine lv_iload_n hx hb dX11_least_11 rfl (lv_at hl 2 rfl) ?_
    refine lv_iconst (v := 1) hx hb dX11_least_12 (by decide +kernel) ?_
    refine lv_bipush (v := 12) hx hb dX11_least_13 (by decide +kernel) ?_
    refine pci (va_runS (As := [.int y, .int 1, .int 12]) (rest := []) ⟨hx, hb, hml, hown, hts⟩ (w_within l D K y.toInt 1 12 y 1 12 s.heap.size rfl (show (1 : Int32).toInt = 1 from rfl) (show (12 : Int32).toInt = 12 from rfl)) (va_cwS 3 hts gX11_least_X11_within rfl rfl rfl (by decide +kernel) ⟨Nat.le_of_ble_eq_true rfl, Nat.le_of_ble_eq_true rfl⟩) (mkS hK hN (va_P.nil) (va_D.nil (A := fun _ => True))) rfl rfl hl.1 rfl (lv_room (Nat.le_of_ble_eq_true rfl)) dX11_least_15 ⟨Nat.le_of_ble_eq_true rfl, Nat.le_of_ble_eq_true rfl⟩) (fun r_265 hw => ?_)
    obtain ⟨hw, k_266, -⟩ := hw
    replace hE := hE.trans (Lt_in k_266)
    rcases hw with ⟨rfl, h_267, h_268⟩ | ⟨rfl, h_269⟩
    · replace hE := (hE).trans (if_pos rfl)
      refine lv_if_eq (tgt := 34) hx hb dX11_least_18 (by decide +kernel) (fun c_270 => absurd c_270 (by decide +kernel)) (fun c_270 => ?_)
      refine lv_iload_n hx hb dX11_least_21 rfl (lv_at hl 3 rfl) ?_
      refine lv_iconst (v := 0) hx hb dX11_least_22 (by decide +kernel) ?_
      refine lv_iconst (v := 1) hx hb dX11_least_23 (by decide +kernel) ?_
      refine lv_iload_n hx hb dX11_least_24 rfl (lv_at hl 2 rfl) ?_
      refine lv_ishl hx hb dX11_least_25 ?_
      refine lv_topi (fun x_271 ex_271 => ?_)
      replace hE := hE.trans (Lt_in ex_271)
      have hx_271 : 1 ≤ x_271.toInt ∧ x_271.toInt ≤ 4096 := by rw [ex_271]; exact i_shl1 rfl (n := 12) (by decide +kernel) (by omega)
      refine lv_iconst (v := 1) hx hb dX11_least_26 (by decide +kernel) ?_
      refine lv_isub hx hb dX11_least_27 ?_
      refine lv_topi (fun x_272 ex_272 => ?_)
      replace hE := hE.trans (Lt_in ex_272)
      have hx_272 : x_272.toInt = (x_271.toInt - 1) := by rw [ex_272]; exact i_sub rfl (show (1 : Int32).toInt = 1 from rfl) (by omega)
      refine pci (va_runS (As := [.int z, .int 0, .int x_272]) (rest := []) ⟨hx, hb, hml, hown, hts⟩ (w_within l D K z.toInt 0 (x_271.toInt - 1) z 0 x_272 s.heap.size rfl (show (0 : Int32).toInt = 0 from rfl) hx_272) (va_cwS 3 hts gX11_least_X11_within rfl rfl rfl (by decide +kernel) ⟨Nat.le_of_ble_eq_true rfl, Nat.le_of_ble_eq_true rfl⟩) (mkS hK hN (va_P.nil) (va_D.nil (A := fun _ => True))) rfl rfl hl.1 rfl (lv_room (Nat.le_of_ble_eq_true rfl)) dX11_least_28 ⟨Nat.le_of_ble_eq_true rfl, Nat.le_of_ble_eq_true rfl⟩) (fun r_273 hw => ?_)
      obtain ⟨hw, k_274, -⟩ := hw
      replace hE := hE.trans (Lt_in k_274)
      rcases hw with ⟨rfl, h_275, h_276⟩ | ⟨rfl, h_277⟩
      · replace hE := (hE).trans (if_pos rfl)
        refine lv_if_ne (tgt := 36) hx hb dX11_least_31 (by decide +kernel) (fun c_278 => ?_) (fun c_278 => absurd c_278 (by decide +kernel))
        refine lv_iload hx hb dX11_least_36 (lv_at hl 4 rfl) ?_
        refine lv_iconst (v := (-1)) hx hb dX11_least_38 (by decide +kernel) ?_
        refine lv_iload_n hx hb dX11_least_39 rfl (lv_at hl 2 rfl) ?_
        refine lv_iconst (v := 1) hx hb dX11_least_40 (by decide +kernel) ?_
        refine lv_isub hx hb dX11_least_41 ?_
        refine lv_topi (fun x_279 ex_279 => ?_)
        replace hE := hE.trans (Lt_in ex_279)
        have hx_279 : x_279.toInt = (y.toInt - 1) := by rw [ex_279]; exact i_sub rfl (show (1 : Int32).toInt = 1 from rfl) (by omega)
        refine pci (va_runS (As := [.int w, .int (-1), .int x_279]) (rest := []) ⟨hx, hb, hml, hown, hts⟩ (w_within l D K w.toInt (-1) (y.toInt - 1) w (-1) x_279 s.heap.size rfl (show ((-1) : Int32).toInt = (-1) from rfl) hx_279) (va_cwS 3 hts gX11_least_X11_within rfl rfl rfl (by decide +kernel) ⟨Nat.le_of_ble_eq_true rfl, Nat.le_of_ble_eq_true rfl⟩) (mkS hK hN (va_P.nil) (va_D.nil (A := fun _ => True))) rfl rfl hl.1 rfl (lv_room (Nat.le_of_ble_eq_true rfl)) dX11_least_42 ⟨Nat.le_of_ble_eq_true rfl, Nat.le_of_ble_eq_true rfl⟩) (fun r_280 hw => ?_)
        obtain ⟨hw, k_281, -⟩ := hw
        replace hE := hE.trans (Lt_in k_281)
        rcases hw with ⟨rfl, h_282, h_283⟩ | ⟨rfl, h_284⟩
        · replace hE := (hE).trans (if_pos rfl)
          refine lv_if_eq (tgt := 67) hx hb dX11_least_45 (by decide +kernel) (fun c_285 => absurd c_285 (by decide +kernel)) (fun c_285 => ?_)
          refine lv_aload_n hx hb dX11_least_48 rfl (lv_at hl 0 rfl) ?_
          refine va_get (ci := 11) (v := .ref p0) (C := RX11) (T := TX11) (N := 17) hx hb hts hw11 hown hK hP 0 rfl rfl 10 (by decide +kernel) (hts _ mm_X11_least_344) (fun _ h9 => h9) rfl dX11_least_49 ?_
          refine lv_aload_n hx hb dX11_least_52 rfl (lv_at hl 0 rfl) ?_
          refine va_get (ci := 11) (v := .ref t0) (C := RX11) (T := TX11) (N := 17) hx hb hts hw11 hown hK hP 0 rfl rfl 0 (by decide +kernel) (hts _ mm_X11_least_334) (fun _ h9 => h9) rfl dX11_least_53 ?_
          refine lv_iload_n hx hb dX11_least_56 rfl (lv_at hl 1 rfl) ?_
          refine lv_iload_n hx hb dX11_least_57 rfl (lv_at hl 2 rfl) ?_
          refine lv_iload_n hx hb dX11_least_58 rfl (lv_at hl 3 rfl) ?_
          refine lv_iload hx hb dX11_least_59 (lv_at hl 4 rfl) ?_
          refine kci (S := Su) (wr := [(o0, .inr (11, [.ref t0, o_1, o_2, o_3, o_4, o_5, o_6, o_7, o_8, o_9, .ref p0, o_11, o_12, o_13, o_14, o_15, o_16]))]) (va_runVN (As := [.ref t0, .int x, .int y, .int z, .int w]) (rest := []) ⟨hx, hb, hml, hown, hts⟩ (w_leastCoal l D K g L G p0 t0 x y z w a0 p1 p2 p3 p4 p5 fb ff fo fk fa m0 w0 m1 br fs fw t1 t3 t2 l0 n lt nf fi k_8 k_9 f1 gt f2 f3 gc fl s.heap.size (by first | omega | decide) (by first | omega | decide) (by first | omega | decide) (by first | omega | decide) (by first | omega | decide) zfb zff zfo zfa zgt zgc zfl) ⟨va_cnB 5 hts gX11_least_X5_leastCoal_n245 rfl rfl rfl (nst_at hN 76 rfl) (hts _ mm_X11_least_154) (by decide +kernel) ⟨Nat.le_of_ble_eq_true rfl, Nat.le_of_ble_eq_true rfl⟩, (hts _ mm_X11_least_683), (hts _ mm_X11_least_56)⟩ (mkVY hK hN (hP.sub [1, 2, 3, 4, 5, 6, 7, 8, 9, 10, 11, 12, 13, 14, 15] rfl) (hD.sub [1, 2, 3, 4, 5, 6, 7, 8, 9, 10, 11, 12, 13, 14, 15] (by decide +kernel) rfl) (ci := 5) (q0 := 0) rfl rfl (fun U hU hW => ⟨Gl.at hG hS hW hU (fun q h => va_free hD hS hA [1, 2, 3, 4, 5, 6, 7, 8, 9, 10, 11, 12, 13, 14, 15] rfl q h), Pool.at hPl hS hU (fun q h => va_free hD hS hA [1, 2, 3, 4, 5, 6, 7, 8, 9, 10, 11, 12, 13, 14, 15] rfl q h), Ro.heap hU (Ro.nil)⟩)) rfl rfl hl.1 rfl (lv_room (Nat.le_of_ble_eq_true rfl)) dX11_least_61 ⟨Nat.le_of_ble_eq_true rfl, Nat.le_of_ble_eq_true rfl⟩) hP hD hS hA [1, 2, 3, 4, 5, 6, 7, 8, 9, 10, 11, 12, 13, 14, 15] [0] rfl rfl (by decide +kernel) (by decide +kernel) (fun r_286 u_287 H locs hw hP0 hD0 hS0 => ?_)
          clear hP hD hS
          have hP := hP0
          have hD := hD0
          have hS := hS0
          clear hP0 hD0 hS0
          replace hP : va_P D vwCl [(o0, .inr (11, [.ref t0, o_1, o_2, o_3, o_4, o_5, o_6, o_7, o_8, o_9, .ref p0, o_11, o_12, o_13, o_14, o_15, o_16])), (p0, .inr (5, [.ref a0, .ref p1, .ref p2, .ref p3, .ref p4, .ref p5])), (p1, .inl (K 0, 21, .inl (u_287.2.1 0))), (p2, .inl (K 0, 21, .inl (u_287.2.1 1))), (p3, .inl (K 0, 273, .inl (u_287.2.1 2))), (p4, .inl (K 0, 252, .inl (u_287.2.1 3))), (p5, .inl (K 0, 252, .inl (u_287.2.1 4))), (a0, .inr (0, [.ref m0, .ref w0])), (m0, .inr (3, [.ref m1, .int (u_287.2.2.2.1 0)])), (m1, .inl (K 0, 64, .inl (u_287.2.1 5))), (w0, .inl (K 0, 9, .inl (u_287.2.1 6))), (t0, .inr (9, [.ref t1, .ref t3, .ref t2, .ref l0, .int n, .int lt, .int nf, .int fi, k_8, k_9])), (t1, .inl (K 0, 56, .inl f1)), (t2, .inl (K 0, 6, .inl f2)), (t3, .inl (K 0, 24, .inl f3)), (l0, .inl (K 4, 6, .inr (.inr (.inr (.inr fl)))))] H := hP
          replace hD : va_D A [(o0, .inr (11, [.ref t0, o_1, o_2, o_3, o_4, o_5, o_6, o_7, o_8, o_9, .ref p0, o_11, o_12, o_13, o_14, o_15, o_16])), (p0, .inr (5, [.ref a0, .ref p1, .ref p2, .ref p3, .ref p4, .ref p5])), (p1, .inl (K 0, 21, .inl (u_287.2.1 0))), (p2, .inl (K 0, 21, .inl (u_287.2.1 1))), (p3, .inl (K 0, 273, .inl (u_287.2.1 2))), (p4, .inl (K 0, 252, .inl (u_287.2.1 3))), (p5, .inl (K 0, 252, .inl (u_287.2.1 4))), (a0, .inr (0, [.ref m0, .ref w0])), (m0, .inr (3, [.ref m1, .int (u_287.2.2.2.1 0)])), (m1, .inl (K 0, 64, .inl (u_287.2.1 5))), (w0, .inl (K 0, 9, .inl (u_287.2.1 6))), (t0, .inr (9, [.ref t1, .ref t3, .ref t2, .ref l0, .int n, .int lt, .int nf, .int fi, k_8, k_9])), (t1, .inl (K 0, 56, .inl f1)), (t2, .inl (K 0, 6, .inl f2)), (t3, .inl (K 0, 24, .inl f3)), (l0, .inl (K 4, 6, .inr (.inr (.inr (.inr fl)))))] := hD
          obtain ⟨k_288, k_289, k_290, k_291, k_292, k_293, -⟩ := hw
          replace hE := (((((((hE.trans (Lt2_in k_293)).trans (Lt2_in rfl)).trans (Lt2_in rfl)).trans (Lt2_in rfl)).trans (Lt2_in rfl)).trans (Lt2_in rfl)).trans (Lt2_in rfl)).trans (Lt2_in rfl)
          refine lv_goto (tgt := 68) hx hb dX11_least_64 (by decide +kernel) ?_
          rw [← hQ]
          have hP9 := hP.sub (ws' := [(o0, .inr (11, [.ref t0, o_1, o_2, o_3, o_4, o_5, o_6, o_7, o_8, o_9, .ref p0, o_11, o_12, o_13, o_14, o_15, o_16])), (p0, .inr (5, [.ref a0, .ref p1, .ref p2, .ref p3, .ref p4, .ref p5])), (p1, .inl (K 0, 21, .inl (u_287.2.1 0))), (p2, .inl (K 0, 21, .inl (u_287.2.1 1))), (p3, .inl (K 0, 273, .inl (u_287.2.1 2))), (p4, .inl (K 0, 252, .inl (u_287.2.1 3))), (p5, .inl (K 0, 252, .inl (u_287.2.1 4))), (a0, .inr (0, [.ref m0, .ref w0])), (m0, .inr (3, [.ref m1, .int (u_287.2.2.2.1 0)])), (m1, .inl (K 0, 64, .inl (u_287.2.1 5))), (w0, .inl (K 0, 9, .inl (u_287.2.1 6))), (t0, .inr (9, [.ref t1, .ref t3, .ref t2, .ref l0, .int n, .int lt, .int nf, .int fi, k_8, k_9])), (t1, .inl (K 0, 56, .inl f1)), (t2, .inl (K 0, 6, .inl f2)), (t3, .inl (K 0, 24, .inl f3)), (l0, .inl (K 4, 6, .inr (.inr (.inr (.inr fl)))))]) [0, 1, 2, 3, 4, 5, 6, 7, 8, 9, 10, 11, 12, 13, 14, 15] rfl
          have hD9 := hD.sub (ws' := [(o0, .inr (11, [.ref t0, o_1, o_2, o_3, o_4, o_5, o_6, o_7, o_8, o_9, .ref p0, o_11, o_12, o_13, o_14, o_15, o_16])), (p0, .inr (5, [.ref a0, .ref p1, .ref p2, .ref p3, .ref p4, .ref p5])), (p1, .inl (K 0, 21, .inl (u_287.2.1 0))), (p2, .inl (K 0, 21, .inl (u_287.2.1 1))), (p3, .inl (K 0, 273, .inl (u_287.2.1 2))), (p4, .inl (K 0, 252, .inl (u_287.2.1 3))), (p5, .inl (K 0, 252, .inl (u_287.2.1 4))), (a0, .inr (0, [.ref m0, .ref w0])), (m0, .inr (3, [.ref m1, .int (u_287.2.2.2.1 0)])), (m1, .inl (K 0, 64, .inl (u_287.2.1 5))), (w0, .inl (K 0, 9, .inl (u_287.2.1 6))), (t0, .inr (9, [.ref t1, .ref t3, .ref t2, .ref l0, .int n, .int lt, .int nf, .int fi, k_8, k_9])), (t1, .inl (K 0, 56, .inl f1)), (t2, .inl (K 0, 6, .inl f2)), (t3, .inl (K 0, 24, .inl f3)), (l0, .inl (K 4, 6, .inr (.inr (.inr (.inr fl)))))]) [0, 1, 2, 3, 4, 5, 6, 7, 8, 9, 10, 11, 12, 13, 14, 15] (by decide +kernel) rfl
          exact W.iret (v := r_286) hx hb hr (fun t ht hW => ⟨⟨r_286, ((fun _ => 0, fun i => ([(u_287.2.1 0), (u_287.2.1 1), (u_287.2.1 2), (u_287.2.1 3), (u_287.2.1 4), (u_287.2.1 5), (u_287.2.1 6)] : List _).getD i (fun _ => 0), fun _ => fun _ => 0, fun i => match i with | _ => (u_287.2.2.2.1 0), fun _ => 0, fun _ => fun _ => none) : Su), rfl, ⟨k_288, k_289, k_290, k_291, (show 0 ≤ ((u_287.2.2.2.1 0) : Int32).toInt ∧ ((u_287.2.2.2.1 0) : Int32).toInt ≤ 1 by omega), hE.symm, trivial⟩, (⟨by rw [ht]; exact hP9, hD9⟩ : Wd D A _ t)⟩, hS.F ht⟩) hS.2.2 dX11_least_68
        · replace hE := (hE).trans (if_neg (by first | decide | (intro h9; have h8 := congrArg Int32.toInt h9; omega)))
          refine lv_if_eq (tgt := 67) hx hb dX11_least_45 (by decide +kernel) (fun c_294 => ?_) (fun c_294 => absurd (by decide +kernel) c_294)
          refine lv_iconst (v := (-1)) hx hb dX11_least_67 (by decide +kernel) ?_
          rw [← hQ]
          have hP9 := hP.sub (ws' := [(o0, .inr (11, [.ref t0, o_1, o_2, o_3, o_4, o_5, o_6, o_7, o_8, o_9, .ref p0, o_11, o_12, o_13, o_14, o_15, o_16])), (p0, .inr (5, [.ref a0, .ref p1, .ref p2, .ref p3, .ref p4, .ref p5])), (p1, .inl (K 0, 21, .inl fb)), (p2, .inl (K 0, 21, .inl ff)), (p3, .inl (K 0, 273, .inl fo)), (p4, .inl (K 0, 252, .inl fk)), (p5, .inl (K 0, 252, .inl fa)), (a0, .inr (0, [.ref m0, .ref w0])), (m0, .inr (3, [.ref m1, .int br])), (m1, .inl (K 0, 64, .inl fs)), (w0, .inl (K 0, 9, .inl fw)), (t0, .inr (9, [.ref t1, .ref t3, .ref t2, .ref l0, .int n, .int lt, .int nf, .int fi, k_8, k_9])), (t1, .inl (K 0, 56, .inl f1)), (t2, .inl (K 0, 6, .inl f2)), (t3, .inl (K 0, 24, .inl f3)), (l0, .inl (K 4, 6, .inr (.inr (.inr (.inr fl)))))]) [0, 1, 2, 3, 4, 5, 6, 7, 8, 9, 10, 11, 12, 13, 14, 15] rfl
          have hD9 := hD.sub (ws' := [(o0, .inr (11, [.ref t0, o_1, o_2, o_3, o_4, o_5, o_6, o_7, o_8, o_9, .ref p0, o_11, o_12, o_13, o_14, o_15, o_16])), (p0, .inr (5, [.ref a0, .ref p1, .ref p2, .ref p3, .ref p4, .ref p5])), (p1, .inl (K 0, 21, .inl fb)), (p2, .inl (K 0, 21, .inl ff)), (p3, .inl (K 0, 273, .inl fo)), (p4, .inl (K 0, 252, .inl fk)), (p5, .inl (K 0, 252, .inl fa)), (a0, .inr (0, [.ref m0, .ref w0])), (m0, .inr (3, [.ref m1, .int br])), (m1, .inl (K 0, 64, .inl fs)), (w0, .inl (K 0, 9, .inl fw)), (t0, .inr (9, [.ref t1, .ref t3, .ref t2, .ref l0, .int n, .int lt, .int nf, .int fi, k_8, k_9])), (t1, .inl (K 0, 56, .inl f1)), (t2, .inl (K 0, 6, .inl f2)), (t3, .inl (K 0, 24, .inl f3)), (l0, .inl (K 4, 6, .inr (.inr (.inr (.inr fl)))))]) [0, 1, 2, 3, 4, 5, 6, 7, 8, 9, 10, 11, 12, 13, 14, 15] (by decide +kernel) rfl
          exact W.iret (v := (-1)) hx hb hr (fun t ht hW => ⟨⟨(-1), ((fun _ => 0, fun i => ([fb, ff, fo, fk, fa, fs, fw] : List _).getD i (fun _ => 0), fun _ => fun _ => 0, fun i => match i with | _ => br, fun _ => 0, fun _ => fun _ => none) : Su), rfl, ⟨zfb, zff, zfo, zfa, (show 0 ≤ (br : Int32).toInt ∧ (br : Int32).toInt ≤ 1 by omega), hE.symm, trivial⟩, (⟨by rw [ht]; exact hP9, hD9⟩ : Wd D A _ t)⟩, hS.F ht⟩) hS.2.2 dX11_least_68
      · replace hE := (hE).trans (if_neg (by first | decide | (intro h9; have h8 := congrArg Int32.toInt h9; omega)))
        refine lv_if_ne (tgt := 36) hx hb dX11_least_31 (by decide +kernel) (fun c_295 => absurd (by decide +kernel) c_295) (fun c_295 => ?_)
        exact j_258   hE _ _ hP hD hS ls (lv_sub hl [] rfl)
    · replace hE := (hE).trans (if_neg (by first | decide | (intro h9; have h8 := congrArg Int32.toInt h9; omega)))
      refine lv_if_eq (tgt := 34) hx hb dX11_least_18 (by decide +kernel) (fun c_296 => ?_) (fun c_296 => absurd (by decide +kernel) c_296)
      exact j_258   hE _ _ hP hD hS ls (lv_sub hl [] rfl)
  · replace hE := (hE).trans (if_neg (by first | decide | (intro h9; have h8 := congrArg Int32.toInt h9; omega)))
    refine lv_if_eq (tgt := 34) hx hb dX11_least_8 (by decide +kernel) (fun c_297 => ?_) (fun c_297 => absurd (by decide +kernel) c_297)
    exact j_258   hE _ _ hP hD hS ls (lv_sub hl [] rfl)
set_option maxRecDepth 100000 in
noncomputable def E_w_rings (x : Int32) (fd : Nat → Int32) (fp : Nat → Int32) (n : Int32) (ho : Int32) (f1 : Nat → Int32) (f2 : Nat → Int32) : Int32 × (Nat → Int32) × (Nat → Int32) :=
  Lt (E_w_has x n) (fun r_83 => if r_83 = 1 then (Lt2 (E_w_swapped x fd fp n ho f1 f2) (fun r_89 q0_r_89 => Lt2 q0_r_89 (fun u_90_2_1_0 u_90_2_1_1 => ((r_89, u_90_2_1_0, u_90_2_1_1) : Int32 × (Nat → Int32) × (Nat → Int32))))) else ((((-1), fd, fp) : Int32 × (Nat → Int32) × (Nat → Int32))))
set_option maxHeartbeats 4000000 in
set_option maxRecDepth 100000 in
theorem w_rings (l : Launch) (D : va_G) (K : Nat → ClassId) (o0 : Nat) (x : Int32) (t0 : Nat) (o_1 : Value) (o_2 : Value) (o_3 : Value) (o_4 : Value) (o_5 : Value) (o_6 : Value) (o_7 : Value) (o_8 : Value) (o_9 : Value) (o_10 : Value) (p0 : Nat) (o_12 : Value) (o_13 : Value) (o_14 : Value) (o_15 : Value) (o_16 : Value) (p1 : Nat) (p2 : Nat) (p3 : Nat) (p4 : Nat) (p5 : Nat) (fd : Nat → Int32) (fp : Nat → Int32) (t1 : Nat) (k_1 : Value) (t2 : Nat) (k_3 : Value) (n : Int32) (k_5 : Value) (k_6 : Value) (k_7 : Value) (k_8 : Value) (ho : Int32) (f1 : Nat → Int32) (f2 : Nat → Int32) (sz : Nat) (zn : 0 ≤ n.toInt ∧ n.toInt ≤ 8) (zfp : Rg 8 0 7 fp) : Met l yX11_rings wsX11_rings ({ frames := 3, cells := 0, slots := 0, locals := 76 }) (va_Pc [.ref o0, .int x] (Pre D K [(o0, .inr (11, [.ref t0, o_1, o_2, o_3, o_4, o_5, o_6, o_7, o_8, o_9, o_10, .ref p0, o_12, o_13, o_14, o_15, o_16])), (p0, .inr (4, [.ref p1, .ref p2, .ref p3, .ref p4, .ref p5])), (p1, .inl (K 0, 8, .inl fd)), (p2, .inl (K 0, 8, .inl fp)), (t0, .inr (9, [.ref t1, k_1, .ref t2, k_3, .int n, k_5, k_6, k_7, k_8, .int ho])), (t1, .inl (K 0, 56, .inl f1)), (t2, .inl (K 0, 6, .inl f2))] sz)) (va_Qi (S := Su) (fun (r : Int32) (u : Su) => (Rg 8 0 7 (u.2.1 1)) ∧ ((r, (u.2.1 0), (u.2.1 1)) = E_w_rings x fd fp n ho f1 f2) ∧ True) (fun u t => Wd D (va_A [(o0, .inr (11, [.ref t0, o_1, o_2, o_3, o_4, o_5, o_6, o_7, o_8, o_9, o_10, .ref p0, o_12, o_13, o_14, o_15, o_16])), (p0, .inr (4, [.ref p1, .ref p2, .ref p3, .ref p4, .ref p5])), (p1, .inl (K 0, 8, .inl fd)), (p2, .inl (K 0, 8, .inl fp)), (t0, .inr (9, [.ref t1, k_1, .ref t2, k_3, .int n, k_5, k_6, k_7, k_8, .int ho])), (t1, .inl (K 0, 56, .inl f1)), (t2, .inl (K 0, 6, .inl f2))] sz) ((fun u => [(o0, .inr (11, [.ref t0, o_1, o_2, o_3, o_4, o_5, o_6, o_7, o_8, o_9, o_10, .ref p0, o_12, o_13, o_14, o_15, o_16])), (p0, .inr (4, [.ref p1, .ref p2, .ref p3, .ref p4, .ref p5])), (p1, .inl (K 0, 8, .inl (u.2.1 0))), (p2, .inl (K 0, 8, .inl (u.2.1 1))), (t0, .inr (9, [.ref t1, k_1, .ref t2, k_3, .int n, k_5, k_6, k_7, k_8, .int ho])), (t1, .inl (K 0, 56, .inl f1)), (t2, .inl (K 0, 6, .inl f2))]) u) t) (va_A [(o0, .inr (11, [.ref t0, o_1, o_2, o_3, o_4, o_5, o_6, o_7, o_8, o_9, o_10, .ref p0, o_12, o_13, o_14, o_15, o_16])), (p0, .inr (4, [.ref p1, .ref p2, .ref p3, .ref p4, .ref p5])), (p1, .inl (K 0, 8, .inl fd)), (p2, .inl (K 0, 8, .inl fp)), (t0, .inr (9, [.ref t1, k_1, .ref t2, k_3, .int n, k_5, k_6, k_7, k_8, .int ho])), (t1, .inl (K 0, 56, .inl f1)), (t2, .inl (K 0, 6, .inl f2))] sz)) 0 0 (va_A [(o0, .inr (11, [.ref t0, o_1, o_2, o_3, o_4, o_5, o_6, o_7, o_8, o_9, o_10, .ref p0, o_12, o_13, o_14, o_15, o_16])), (p0, .inr (4, [.ref p1, .ref p2, .ref p3, .ref p4, .ref p5])), (p1, .inl (K 0, 8, .inl fd)), (p2, .inl (K 0, 8, .inl fp)), (t0, .inr (9, [.ref t1, k_1, .ref t2, k_3, .int n, k_5, k_6, k_7, k_8, .int ho])), (t1, .inl (K 0, 56, .inl f1)), (t2, .inl (K 0, 6, .inl f2))] sz) := by
  refine Met.ofW (cc := cX11_rings) (maxL := 2) (ret := (some .int)) (by decide +kernel) rfl ?_
  intro p e s m args below meth c s₁ B hml hv
  obtain ⟨rfl, hsz, hP, hK, hD0, hN⟩ := hv
  have hx := B.exec
  have hb := B.bytes
  have hr := B.returns
  have hts := atoms_spec (ws := wsX11_rings) B.pre
  have hown : s.vm.findClass RX11 = some m.cls := findClass_of_methodNamed B.named
  have hlocks := B.notSynchronized
  subst hsz
  have hD := hD0.self (sz := s.heap.size)
  generalize hAe : va_A [(o0, .inr (11, [.ref t0, o_1, o_2, o_3, o_4, o_5, o_6, o_7, o_8, o_9, o_10, .ref p0, o_12, o_13, o_14, o_15, o_16])), (p0, .inr (4, [.ref p1, .ref p2, .ref p3, .ref p4, .ref p5])), (p1, .inl (K 0, 8, .inl fd)), (p2, .inl (K 0, 8, .inl fp)), (t0, .inr (9, [.ref t1, k_1, .ref t2, k_3, .int n, k_5, k_6, k_7, k_8, .int ho])), (t1, .inl (K 0, 56, .inl f1)), (t2, .inl (K 0, 6, .inl f2))] s.heap.size = A at hD ⊢
  have hA : ∀ q : Nat, s.heap.size ≤ q → A q := fun q h => by rw [← hAe]; exact Or.inr h
  clear hAe
  have hS : va_S A s.heap s.heap [] := va_S.rf
  replace hP : va_P D vwCl [(o0, .inr (11, [.ref t0, o_1, o_2, o_3, o_4, o_5, o_6, o_7, o_8, o_9, o_10, .ref p0, o_12, o_13, o_14, o_15, o_16])), (p0, .inr (4, [.ref p1, .ref p2, .ref p3, .ref p4, .ref p5])), (p1, .inl (K 0, 8, .inl fd)), (p2, .inl (K 0, 8, .inl fp)), (t0, .inr (9, [.ref t1, k_1, .ref t2, k_3, .int n, k_5, k_6, k_7, k_8, .int ho])), (t1, .inl (K 0, 56, .inl f1)), (t2, .inl (K 0, 6, .inl f2))] s.heap := hP
  have hl := lv_entry [.ref o0, .int x] (n := 2) (Nat.le_of_ble_eq_true rfl)
  rw [lg_entry_eq]
  generalize (lg_sl [.ref o0, .int x] ++ List.replicate (2 - (lg_sl [.ref o0, .int x]).length) Slot.unset).toArray = ls at hl ⊢
  have hl : lv_has ls 2 [(0, .ref o0), (1, .int x)] := hl
  have hw4 : ∀ w ∈ wsX40, w ∈ wsX11_rings := fun w h => (List.mem_cons_of_mem _ (List.mem_append_right _ h))
  have hw9 : ∀ w ∈ wsX90, w ∈ wsX11_rings := fun w h => (List.mem_cons_of_mem _ (List.mem_append_left _ (List.mem_append_right _ h)))
  have hw11 : ∀ w ∈ wsX110, w ∈ wsX11_rings := fun w h => (List.mem_cons_of_mem _ (List.mem_append_left _ (List.mem_append_left _ (List.mem_append_right _ h))))
  generalize hQ : MQ below _ _ s _ _ _ = Q
  have hE := E_w_rings.eq_def x fd fp n ho f1 f2
  refine lv_aload_n hx hb dX11_rings_0 rfl (lv_at hl 0 rfl) ?_
  refine va_get (ci := 11) (v := .ref t0) (C := RX11) (T := TX11) (N := 17) hx hb hts hw11 hown hK hP 0 rfl rfl 0 (by decide +kernel) (hts _ mm_X11_rings_334) (fun _ h9 => h9) rfl dX11_rings_1 ?_
  refine lv_iload_n hx hb dX11_rings_4 rfl (lv_at hl 1 rfl) ?_
  refine pci (va_runVN (As := [.int x]) (rest := []) ⟨hx, hb, hml, hown, hts⟩ (w_has l D K x.toInt n.toInt t0 x (.ref t1) k_1 (.ref t2) k_3 n k_5 k_6 k_7 k_8 (.int ho) s.heap.size rfl rfl) ⟨va_cnB 1 hts gX11_rings_X9_has_n121 rfl rfl rfl (nst_at hN 19 rfl) (hts _ mm_X11_rings_145) (by decide +kernel) ⟨Nat.le_of_ble_eq_true rfl, Nat.le_of_ble_eq_true rfl⟩, (hts _ mm_X11_rings_397), (hts _ mm_X11_rings_7)⟩ (mkV hK hN (hP.sub [4] rfl) (hD.sub [4] (by decide +kernel) rfl) (ci := 9) (q0 := 0) rfl rfl) rfl rfl hl.1 rfl (lv_room (Nat.le_of_ble_eq_true rfl)) dX11_rings_5 ⟨Nat.le_of_ble_eq_true rfl, Nat.le_of_ble_eq_true rfl⟩) (fun r_83 hw => ?_)
  obtain ⟨hw, k_84, -⟩ := hw
  replace hE := hE.trans (Lt_in k_84)
  rcases hw with ⟨rfl, h_85, h_86⟩ | ⟨rfl, h_87⟩
  · replace hE := (hE).trans (if_pos rfl)
    refine lv_if_eq (tgt := 26) hx hb dX11_rings_8 (by decide +kernel) (fun c_88 => absurd c_88 (by decide +kernel)) (fun c_88 => ?_)
    refine lv_aload_n hx hb dX11_rings_11 rfl (lv_at hl 0 rfl) ?_
    refine va_get (ci := 11) (v := .ref p0) (C := RX11) (T := TX11) (N := 17) hx hb hts hw11 hown hK hP 0 rfl rfl 11 (by decide +kernel) (hts _ mm_X11_rings_345) (fun _ h9 => h9) rfl dX11_rings_12 ?_
    refine lv_aload_n hx hb dX11_rings_15 rfl (lv_at hl 0 rfl) ?_
    refine va_get (ci := 11) (v := .ref t0) (C := RX11) (T := TX11) (N := 17) hx hb hts hw11 hown hK hP 0 rfl rfl 0 (by decide +kernel) (hts _ mm_X11_rings_334) (fun _ h9 => h9) rfl dX11_rings_16 ?_
    refine lv_iload_n hx hb dX11_rings_19 rfl (lv_at hl 1 rfl) ?_
    refine kci (S := Su) (wr := [(o0, .inr (11, [.ref t0, o_1, o_2, o_3, o_4, o_5, o_6, o_7, o_8, o_9, o_10, .ref p0, o_12, o_13, o_14, o_15, o_16]))]) (va_runVN (As := [.ref t0, .int x]) (rest := []) ⟨hx, hb, hml, hown, hts⟩ (w_swapped l D K p0 t0 x p1 p2 p3 p4 p5 fd fp t1 k_1 t2 k_3 n k_5 k_6 k_7 k_8 ho f1 f2 s.heap.size (by first | omega | decide) zfp) ⟨va_cnB 2 hts gX11_rings_X4_swapped_n249 rfl rfl rfl (nst_at hN 83 rfl) (hts _ mm_X11_rings_155) (by decide +kernel) ⟨Nat.le_of_ble_eq_true rfl, Nat.le_of_ble_eq_true rfl⟩, (hts _ mm_X11_rings_697), (hts _ mm_X11_rings_59)⟩ (mkV hK hN (hP.sub [1, 2, 3, 4, 5, 6] rfl) (hD.sub [1, 2, 3, 4, 5, 6] (by decide +kernel) rfl) (ci := 4) (q0 := 0) rfl rfl) rfl rfl hl.1 rfl (lv_room (Nat.le_of_ble_eq_true rfl)) dX11_rings_20 ⟨Nat.le_of_ble_eq_true rfl, Nat.le_of_ble_eq_true rfl⟩) hP hD hS hA [1, 2, 3, 4, 5, 6] [0] rfl rfl (by decide +kernel) (by decide +kernel) (fun r_89 u_90 H locs hw hP0 hD0 hS0 => ?_)
    clear hP hD hS
    have hP := hP0
    have hD := hD0
    have hS := hS0
    clear hP0 hD0 hS0
    replace hP : va_P D vwCl [(o0, .inr (11, [.ref t0, o_1, o_2, o_3, o_4, o_5, o_6, o_7, o_8, o_9, o_10, .ref p0, o_12, o_13, o_14, o_15, o_16])), (p0, .inr (4, [.ref p1, .ref p2, .ref p3, .ref p4, .ref p5])), (p1, .inl (K 0, 8, .inl (u_90.2.1 0))), (p2, .inl (K 0, 8, .inl (u_90.2.1 1))), (t0, .inr (9, [.ref t1, k_1, .ref t2, k_3, .int n, k_5, k_6, k_7, k_8, .int ho])), (t1, .inl (K 0, 56, .inl f1)), (t2, .inl (K 0, 6, .inl f2))] H := hP
    replace hD : va_D A [(o0, .inr (11, [.ref t0, o_1, o_2, o_3, o_4, o_5, o_6, o_7, o_8, o_9, o_10, .ref p0, o_12, o_13, o_14, o_15, o_16])), (p0, .inr (4, [.ref p1, .ref p2, .ref p3, .ref p4, .ref p5])), (p1, .inl (K 0, 8, .inl (u_90.2.1 0))), (p2, .inl (K 0, 8, .inl (u_90.2.1 1))), (t0, .inr (9, [.ref t1, k_1, .ref t2, k_3, .int n, k_5, k_6, k_7, k_8, .int ho])), (t1, .inl (K 0, 56, .inl f1)), (t2, .inl (K 0, 6, .inl f2))] := hD
    obtain ⟨k_91, k_92, -⟩ := hw
    replace hE := (hE.trans (Lt2_in k_92)).trans (Lt2_in rfl)
    refine lv_goto (tgt := 27) hx hb dX11_rings_23 (by decide +kernel) ?_
    rw [← hQ]
    have hP9 := hP.sub (ws' := [(o0, .inr (11, [.ref t0, o_1, o_2, o_3, o_4, o_5, o_6, o_7, o_8, o_9, o_10, .ref p0, o_12, o_13, o_14, o_15, o_16])), (p0, .inr (4, [.ref p1, .ref p2, .ref p3, .ref p4, .ref p5])), (p1, .inl (K 0, 8, .inl (u_90.2.1 0))), (p2, .inl (K 0, 8, .inl (u_90.2.1 1))), (t0, .inr (9, [.ref t1, k_1, .ref t2, k_3, .int n, k_5, k_6, k_7, k_8, .int ho])), (t1, .inl (K 0, 56, .inl f1)), (t2, .inl (K 0, 6, .inl f2))]) [0, 1, 2, 3, 4, 5, 6] rfl
    have hD9 := hD.sub (ws' := [(o0, .inr (11, [.ref t0, o_1, o_2, o_3, o_4, o_5, o_6, o_7, o_8, o_9, o_10, .ref p0, o_12, o_13, o_14, o_15, o_16])), (p0, .inr (4, [.ref p1, .ref p2, .ref p3, .ref p4, .ref p5])), (p1, .inl (K 0, 8, .inl (u_90.2.1 0))), (p2, .inl (K 0, 8, .inl (u_90.2.1 1))), (t0, .inr (9, [.ref t1, k_1, .ref t2, k_3, .int n, k_5, k_6, k_7, k_8, .int ho])), (t1, .inl (K 0, 56, .inl f1)), (t2, .inl (K 0, 6, .inl f2))]) [0, 1, 2, 3, 4, 5, 6] (by decide +kernel) rfl
    exact W.iret (v := r_89) hx hb hr (fun t ht hW => ⟨⟨r_89, ((fun _ => 0, fun i => match i with | 0 => (u_90.2.1 0) | _ => (u_90.2.1 1), fun _ => fun _ => 0, fun _ => 0, fun _ => 0, fun _ => fun _ => none) : Su), rfl, ⟨k_91, hE.symm, trivial⟩, (⟨by rw [ht]; exact hP9, hD9⟩ : Wd D A _ t)⟩, hS.F ht⟩) hS.2.2 dX11_rings_27
  · replace hE := (hE).trans (if_neg (by first | decide | (intro h9; have h8 := congrArg Int32.toInt h9; omega)))
    refine lv_if_eq (tgt := 26) hx hb dX11_rings_8 (by decide +kernel) (fun c_93 => ?_) (fun c_93 => absurd (by decide +kernel) c_93)
    refine lv_iconst (v := (-1)) hx hb dX11_rings_26 (by decide +kernel) ?_
    rw [← hQ]
    have hP9 := hP.sub (ws' := [(o0, .inr (11, [.ref t0, o_1, o_2, o_3, o_4, o_5, o_6, o_7, o_8, o_9, o_10, .ref p0, o_12, o_13, o_14, o_15, o_16])), (p0, .inr (4, [.ref p1, .ref p2, .ref p3, .ref p4, .ref p5])), (p1, .inl (K 0, 8, .inl fd)), (p2, .inl (K 0, 8, .inl fp)), (t0, .inr (9, [.ref t1, k_1, .ref t2, k_3, .int n, k_5, k_6, k_7, k_8, .int ho])), (t1, .inl (K 0, 56, .inl f1)), (t2, .inl (K 0, 6, .inl f2))]) [0, 1, 2, 3, 4, 5, 6] rfl
    have hD9 := hD.sub (ws' := [(o0, .inr (11, [.ref t0, o_1, o_2, o_3, o_4, o_5, o_6, o_7, o_8, o_9, o_10, .ref p0, o_12, o_13, o_14, o_15, o_16])), (p0, .inr (4, [.ref p1, .ref p2, .ref p3, .ref p4, .ref p5])), (p1, .inl (K 0, 8, .inl fd)), (p2, .inl (K 0, 8, .inl fp)), (t0, .inr (9, [.ref t1, k_1, .ref t2, k_3, .int n, k_5, k_6, k_7, k_8, .int ho])), (t1, .inl (K 0, 56, .inl f1)), (t2, .inl (K 0, 6, .inl f2))]) [0, 1, 2, 3, 4, 5, 6] (by decide +kernel) rfl
    exact W.iret (v := (-1)) hx hb hr (fun t ht hW => ⟨⟨(-1), ((fun _ => 0, fun i => match i with | 0 => fd | _ => fp, fun _ => fun _ => 0, fun _ => 0, fun _ => 0, fun _ => fun _ => none) : Su), rfl, ⟨zfp, hE.symm, trivial⟩, (⟨by rw [ht]; exact hP9, hD9⟩ : Wd D A _ t)⟩, hS.F ht⟩) hS.2.2 dX11_rings_27
set_option maxRecDepth 100000 in
noncomputable def E_w_tune_j70 (fb : Nat → Int32) (fr : Nat → Int32) : Int32 × (Nat → Int32) × (Nat → Int32) :=
  (((-1), fb, fr) : Int32 × (Nat → Int32) × (Nat → Int32))
set_option maxRecDepth 100000 in
noncomputable def E_w_tune (x : Int32) (y : Int32) (fb : Nat → Int32) (fr : Nat → Int32) (n : Int32) (ho : Int32) (f1 : Nat → Int32) (f2 : Nat → Int32) : Int32 × (Nat → Int32) × (Nat → Int32) :=
  Lt (E_w_within x 0 3) (fun r_207 => if r_207 = 1 then (if y = 0 then (Lt2 (E_w_retune x fb fr n ho f1 f2) (fun r_275 q0_r_275 => Lt2 q0_r_275 (fun u_276_2_1_0 u_276_2_1_1 => ((r_275, u_276_2_1_0, u_276_2_1_1) : Int32 × (Nat → Int32) × (Nat → Int32))))) else (Lt (E_w_within y 1 8) (fun r_245 => if r_245 = 1 then (Lt (y - 1 : Int32) (fun x_251 => Lt (E_w_has x_251 n) (fun r_252 => if r_252 = 1 then (Lt (E_w_fact x_251 1 f1) (fun r_258 => if r_258 = x then (Lt2 (E_w_retune x fb fr n ho f1 f2) (fun r_261 q0_r_261 => Lt2 q0_r_261 (fun u_262_2_1_0 u_262_2_1_1 => Lt (E_w_tunedNote x_251 u_262_2_1_0) (fun r_265 => ((r_265, u_262_2_1_0, u_262_2_1_1) : Int32 × (Nat → Int32) × (Nat → Int32)))))) else (E_w_tune_j70 fb fr))) else (E_w_tune_j70 fb fr)))) else (Lt (E_w_has (-1) n) (fun r_269 => if r_269 = 1 then (((0, fun _ => 0, fun _ => 0) : Int32 × (Nat → Int32) × (Nat → Int32))) else (E_w_tune_j70 fb fr)))))) else ((((-1), fb, fr) : Int32 × (Nat → Int32) × (Nat → Int32))))
set_option maxHeartbeats 4000000 in
set_option maxRecDepth 100000 in
theorem w_tune (l : Launch) (D : va_G) (K : Nat → ClassId) (o0 : Nat) (x : Int32) (y : Int32) (t0 : Nat) (o_1 : Value) (o_2 : Value) (o_3 : Value) (o_4 : Value) (o_5 : Value) (o_6 : Value) (o_7 : Value) (o_8 : Value) (o_9 : Value) (o_10 : Value) (p0 : Nat) (o_12 : Value) (o_13 : Value) (o_14 : Value) (o_15 : Value) (o_16 : Value) (p1 : Nat) (p2 : Nat) (p3 : Nat) (p4 : Nat) (p5 : Nat) (fb : Nat → Int32) (fr : Nat → Int32) (t1 : Nat) (k_1 : Value) (t2 : Nat) (k_3 : Value) (n : Int32) (k_5 : Value) (k_6 : Value) (k_7 : Value) (k_8 : Value) (ho : Int32) (f1 : Nat → Int32) (f2 : Nat → Int32) (sz : Nat) (zn : 0 ≤ n.toInt ∧ n.toInt ≤ 8) : Met l yX11_tune wsX11_tune ({ frames := 5, cells := 0, slots := 0, locals := 110 }) (va_Pc [.ref o0, .int x, .int y] (Pre D K [(o0, .inr (11, [.ref t0, o_1, o_2, o_3, o_4, o_5, o_6, o_7, o_8, o_9, o_10, .ref p0, o_12, o_13, o_14, o_15, o_16])), (p0, .inr (4, [.ref p1, .ref p2, .ref p3, .ref p4, .ref p5])), (p3, .inl (K 0, 8, .inl fb)), (p4, .inl (K 0, 8, .inl fr)), (t0, .inr (9, [.ref t1, k_1, .ref t2, k_3, .int n, k_5, k_6, k_7, k_8, .int ho])), (t1, .inl (K 0, 56, .inl f1)), (t2, .inl (K 0, 6, .inl f2))] sz)) (va_Qi (S := Su) (fun (r : Int32) (u : Su) => ((r, (u.2.1 0), (u.2.1 1)) = E_w_tune x y fb fr n ho f1 f2) ∧ True) (fun u t => Wd D (va_A [(o0, .inr (11, [.ref t0, o_1, o_2, o_3, o_4, o_5, o_6, o_7, o_8, o_9, o_10, .ref p0, o_12, o_13, o_14, o_15, o_16])), (p0, .inr (4, [.ref p1, .ref p2, .ref p3, .ref p4, .ref p5])), (p3, .inl (K 0, 8, .inl fb)), (p4, .inl (K 0, 8, .inl fr)), (t0, .inr (9, [.ref t1, k_1, .ref t2, k_3, .int n, k_5, k_6, k_7, k_8, .int ho])), (t1, .inl (K 0, 56, .inl f1)), (t2, .inl (K 0, 6, .inl f2))] sz) ((fun u => [(o0, .inr (11, [.ref t0, o_1, o_2, o_3, o_4, o_5, o_6, o_7, o_8, o_9, o_10, .ref p0, o_12, o_13, o_14, o_15, o_16])), (p0, .inr (4, [.ref p1, .ref p2, .ref p3, .ref p4, .ref p5])), (p3, .inl (K 0, 8, .inl (u.2.1 0))), (p4, .inl (K 0, 8, .inl (u.2.1 1))), (t0, .inr (9, [.ref t1, k_1, .ref t2, k_3, .int n, k_5, k_6, k_7, k_8, .int ho])), (t1, .inl (K 0, 56, .inl f1)), (t2, .inl (K 0, 6, .inl f2))]) u) t) (va_A [(o0, .inr (11, [.ref t0, o_1, o_2, o_3, o_4, o_5, o_6, o_7, o_8, o_9, o_10, .ref p0, o_12, o_13, o_14, o_15, o_16])), (p0, .inr (4, [.ref p1, .ref p2, .ref p3, .ref p4, .ref p5])), (p3, .inl (K 0, 8, .inl fb)), (p4, .inl (K 0, 8, .inl fr)), (t0, .inr (9, [.ref t1, k_1, .ref t2, k_3, .int n, k_5, k_6, k_7, k_8, .int ho])), (t1, .inl (K 0, 56, .inl f1)), (t2, .inl (K 0, 6, .inl f2))] sz)) 0 0 (va_A [(o0, .inr (11, [.ref t0, o_1, o_2, o_3, o_4, o_5, o_6, o_7, o_8, o_9, o_10, .ref p0, o_12, o_13, o_14, o_15, o_16])), (p0, .inr (4, [.ref p1, .ref p2, .ref p3, .ref p4, .ref p5])), (p3, .inl (K 0, 8, .inl fb)), (p4, .inl (K 0, 8, .inl fr)), (t0, .inr (9, [.ref t1, k_1, .ref t2, k_3, .int n, k_5, k_6, k_7, k_8, .int ho])), (t1, .inl (K 0, 56, .inl f1)), (t2, .inl (K 0, 6, .inl f2))] sz) := by
  refine Met.ofW (cc := cX11_tune) (maxL := 4) (ret := (some .int)) (by decide +kernel) rfl ?_
  intro p e s m args below meth c s₁ B hml hv
  obtain ⟨rfl, hsz, hP, hK, hD0, hN⟩ := hv
  have hx := B.exec
  have hb := B.bytes
  have hr := B.returns
  have hts := atoms_spec (ws := wsX11_tune) B.pre
  have hown : s.vm.findClass RX11 = some m.cls := findClass_of_methodNamed B.named
  have hlocks := B.notSynchronized
  subst hsz
  have hD := hD0.self (sz := s.heap.size)
  generalize hAe : va_A [(o0, .inr (11, [.ref t0, o_1, o_2, o_3, o_4, o_5, o_6, o_7, o_8, o_9, o_10, .ref p0, o_12, o_13, o_14, o_15, o_16])), (p0, .inr (4, [.ref p1, .ref p2, .ref p3, .ref p4, .ref p5])), (p3, .inl (K 0, 8, .inl fb)), (p4, .inl (K 0, 8, .inl fr)), (t0, .inr (9, [.ref t1, k_1, .ref t2, k_3, .int n, k_5, k_6, k_7, k_8, .int ho])), (t1, .inl (K 0, 56, .inl f1)), (t2, .inl (K 0, 6, .inl f2))] s.heap.size = A at hD ⊢
  have hA : ∀ q : Nat, s.heap.size ≤ q → A q := fun q h => by rw [← hAe]; exact Or.inr h
  clear hAe
  have hS : va_S A s.heap s.heap [] := va_S.rf
  replace hP : va_P D vwCl [(o0, .inr (11, [.ref t0, o_1, o_2, o_3, o_4, o_5, o_6, o_7, o_8, o_9, o_10, .ref p0, o_12, o_13, o_14, o_15, o_16])), (p0, .inr (4, [.ref p1, .ref p2, .ref p3, .ref p4, .ref p5])), (p3, .inl (K 0, 8, .inl fb)), (p4, .inl (K 0, 8, .inl fr)), (t0, .inr (9, [.ref t1, k_1, .ref t2, k_3, .int n, k_5, k_6, k_7, k_8, .int ho])), (t1, .inl (K 0, 56, .inl f1)), (t2, .inl (K 0, 6, .inl f2))] s.heap := hP
  have hl := lv_entry [.ref o0, .int x, .int y] (n := 4) (Nat.le_of_ble_eq_true rfl)
  rw [lg_entry_eq]
  generalize (lg_sl [.ref o0, .int x, .int y] ++ List.replicate (4 - (lg_sl [.ref o0, .int x, .int y]).length) Slot.unset).toArray = ls at hl ⊢
  have hl : lv_has ls 4 [(0, .ref o0), (1, .int x), (2, .int y)] := hl
  have hw4 : ∀ w ∈ wsX40, w ∈ wsX11_tune := fun w h => (List.mem_cons_of_mem _ (List.mem_append_right _ h))
  have hw9 : ∀ w ∈ wsX90, w ∈ wsX11_tune := fun w h => (List.mem_cons_of_mem _ (List.mem_append_left _ (List.mem_append_right _ h)))
  have hw11 : ∀ w ∈ wsX110, w ∈ wsX11_tune := fun w h => (List.mem_cons_of_mem _ (List.mem_append_left _ (List.mem_append_left _ (List.mem_append_right _ h))))
  generalize hQ : MQ below _ _ s _ _ _ = Q
  have hE := E_w_tune.eq_def x y fb fr n ho f1 f2
  refine lv_iload_n hx hb dX11_tune_0 rfl (lv_at hl 1 rfl) ?_
  refine lv_iconst (v := 0) hx hb dX11_tune_1 (by decide +kernel) ?_
  refine lv_iconst (v := 3) hx hb dX11_tune_2 (by decide +kernel) ?_
  refine pci (va_runS (As := [.int x, .int 0, .int 3]) (rest := []) ⟨hx, hb, hml, hown, hts⟩ (w_within l D K x.toInt 0 3 x 0 3 s.heap.size rfl (show (0 : Int32).toInt = 0 from rfl) (show (3 : Int32).toInt = 3 from rfl)) (va_cwS 3 hts gX11_tune_X11_within rfl rfl rfl (by decide +kernel) ⟨Nat.le_of_ble_eq_true rfl, Nat.le_of_ble_eq_true rfl⟩) (mkS hK hN (va_P.nil) (va_D.nil (A := fun _ => True))) rfl rfl hl.1 rfl (lv_room (Nat.le_of_ble_eq_true rfl)) dX11_tune_3 ⟨Nat.le_of_ble_eq_true rfl, Nat.le_of_ble_eq_true rfl⟩) (fun r_207 hw => ?_)
  obtain ⟨hw, k_208, -⟩ := hw
  replace hE := hE.trans (Lt_in k_208)
  rcases hw with ⟨rfl, h_209, h_210⟩ | ⟨rfl, h_211⟩
  · replace hE := (hE).trans (if_pos rfl)
    refine lv_if_ne (tgt := 11) hx hb dX11_tune_6 (by decide +kernel) (fun c_212 => ?_) (fun c_212 => absurd c_212 (by decide +kernel))
    refine lv_iload_n hx hb dX11_tune_11 rfl (lv_at hl 2 rfl) ?_
    refine lv_if_ne (tgt := 28) hx hb dX11_tune_12 (by decide +kernel) (fun c_213 => ?_) (fun c_213 => ?_)
    · have c_213i := i_ne (x := y.toInt) (y := 0) rfl rfl c_213
      replace hE := hE.trans (if_neg c_213)
      refine lv_iload_n hx hb dX11_tune_28 rfl (lv_at hl 2 rfl) ?_
      refine lv_iconst (v := 1) hx hb dX11_tune_29 (by decide +kernel) ?_
      refine lv_bipush (v := 8) hx hb dX11_tune_30 (by decide +kernel) ?_
      have j_244 : ∀ (hE : E_w_tune x y fb fr n ho f1 f2 = E_w_tune_j70 fb fr) (H : Heap) (locs : List Loc) (hP : va_P D vwCl [(o0, .inr (11, [.ref t0, o_1, o_2, o_3, o_4, o_5, o_6, o_7, o_8, o_9, o_10, .ref p0, o_12, o_13, o_14, o_15, o_16])), (p0, .inr (4, [.ref p1, .ref p2, .ref p3, .ref p4, .ref p5])), (p3, .inl (K 0, 8, .inl fb)), (p4, .inl (K 0, 8, .inl fr)), (t0, .inr (9, [.ref t1, k_1, .ref t2, k_3, .int n, k_5, k_6, k_7, k_8, .int ho])), (t1, .inl (K 0, 56, .inl f1)), (t2, .inl (K 0, 6, .inl f2))] H) (hD : va_D A [(o0, .inr (11, [.ref t0, o_1, o_2, o_3, o_4, o_5, o_6, o_7, o_8, o_9, o_10, .ref p0, o_12, o_13, o_14, o_15, o_16])), (p0, .inr (4, [.ref p1, .ref p2, .ref p3, .ref p4, .ref p5])), (p3, .inl (K 0, 8, .inl fb)), (p4, .inl (K 0, 8, .inl fr)), (t0, .inr (9, [.ref t1, k_1, .ref t2, k_3, .int n, k_5, k_6, k_7, k_8, .int ho])), (t1, .inl (K 0, 56, .inl f1)), (t2, .inl (K 0, 6, .inl f2))]) (hS : va_S A s.heap H locs) (ls : Array Slot) (hl : lv_has ls 4 []), W p l e ({ frames := 5, cells := 0, slots := 0, locals := 110 }) s m (([.ref o0, .int x, .int y] : List Value).toArray) below meth c H locs 0 0 Q (F0 m 70 ls []) := by
        clear hE hP hD hS hl
        intro hE H locs hP hD hS ls hl
        replace hE := hE.trans (E_w_tune_j70.eq_def _ _)
        refine lv_iconst (v := (-1)) hx hb dX11_tune_70 (by decide +kernel) ?_
        rw [← hQ]
        have hP9 := hP.sub (ws' := [(o0, .inr (11, [.ref t0, o_1, o_2, o_3, o_4, o_5, o_6, o_7, o_8, o_9, o_10, .ref p0, o_12, o_13, o_14, o_15, o_16])), (p0, .inr (4, [.ref p1, .ref p2, .ref p3, .ref p4, .ref p5])), (p3, .inl (K 0, 8, .inl fb)), (p4, .inl (K 0, 8, .inl fr)), (t0, .inr (9, [.ref t1, k_1, .ref t2, k_3, .int n, k_5, k_6, k_7, k_8, .int ho])), (t1, .inl (K 0, 56, .inl f1)), (t2, .inl (K 0, 6, .inl f2))]) [0, 1, 2, 3, 4, 5, 6] rfl
        have hD9 := hD.sub (ws' := [(o0, .inr (11, [.ref t0, o_1, o_2, o_3, o_4, o_5, o_6, o_7, o_8, o_9, o_10, .ref p0, o_12, o_13, o_14, o_15, o_16])), (p0, .inr (4, [.ref p1, .ref p2, .ref p3, .ref p4, .ref p5])), (p3, .inl (K 0, 8, .inl fb)), (p4, .inl (K 0, 8, .inl fr)), (t0, .inr (9, [.ref t1, k_1, .ref t2, k_3, .int n, k_5, k_6, k_7, k_8, .int ho])), (t1, .inl (K 0, 56, .inl f1)), (t2, .inl (K 0, 6, .inl f2))]) [0, 1, 2, 3, 4, 5, 6] (by decide +kernel) rfl
        exact W.iret (v := (-1)) hx hb hr (fun t ht hW => ⟨⟨(-1), ((fun _ => 0, fun i => match i with | 0 => fb | _ => fr, fun _ => fun _ => 0, fun _ => 0, fun _ => 0, fun _ => fun _ => none) : Su), rfl, ⟨hE.symm, trivial⟩, (⟨by rw [ht]; exact hP9, hD9⟩ : Wd D A _ t)⟩, hS.F ht⟩) hS.2.2 dX11_tune_71
      refine pci (va_runS (As := [.int y, .int 1, .int 8]) (rest := []) ⟨hx, hb, hml, hown, hts⟩ (w_within l D K y.toInt 1 8 y 1 8 s.heap.size rfl (show (1 : Int32).toInt = 1 from rfl) (show (8 : Int32).toInt = 8 from rfl)) (va_cwS 3 hts gX11_tune_X11_within rfl rfl rfl (by decide +kernel) ⟨Nat.le_of_ble_eq_true rfl, Nat.le_of_ble_eq_true rfl⟩) (mkS hK hN (va_P.nil) (va_D.nil (A := fun _ => True))) rfl rfl hl.1 rfl (lv_room (Nat.le_of_ble_eq_true rfl)) dX11_tune_32 ⟨Nat.le_of_ble_eq_true rfl, Nat.le_of_ble_eq_true rfl⟩) (fun r_245 hw => ?_)
      obtain ⟨hw, k_246, -⟩ := hw
      replace hE := hE.trans (Lt_in k_246)
      rcases hw with ⟨rfl, h_247, h_248⟩ | ⟨rfl, h_249⟩
      · replace hE := (hE).trans (if_pos rfl)
        refine lv_if_eq (tgt := 44) hx hb dX11_tune_35 (by decide +kernel) (fun c_250 => absurd c_250 (by decide +kernel)) (fun c_250 => ?_)
        refine lv_iload_n hx hb dX11_tune_38 rfl (lv_at hl 2 rfl) ?_
        refine lv_iconst (v := 1) hx hb dX11_tune_39 (by decide +kernel) ?_
        refine lv_isub hx hb dX11_tune_40 ?_
        refine lv_topi (fun x_251 ex_251 => ?_)
        replace hE := hE.trans (Lt_in ex_251)
        have hx_251 : x_251.toInt = (y.toInt - 1) := by rw [ex_251]; exact i_sub rfl (show (1 : Int32).toInt = 1 from rfl) (by omega)
        refine lv_goto (tgt := 45) hx hb dX11_tune_41 (by decide +kernel) ?_
        refine lv_istore_n (lv' := [(3, .int x_251), (0, .ref o0), (1, .int x), (2, .int y)]) hx hb dX11_tune_45 rfl hl (by decide +kernel) rfl (fun ls hl => ?_)
        refine lv_aload_n hx hb dX11_tune_46 rfl (lv_at hl 1 rfl) ?_
        refine va_get (ci := 11) (v := .ref t0) (C := RX11) (T := TX11) (N := 17) hx hb hts hw11 hown hK hP 0 rfl rfl 0 (by decide +kernel) (hts _ mm_X11_tune_334) (fun _ h9 => h9) rfl dX11_tune_47 ?_
        refine lv_iload_n hx hb dX11_tune_50 rfl (lv_at hl 0 rfl) ?_
        refine pci (va_runVN (As := [.int x_251]) (rest := []) ⟨hx, hb, hml, hown, hts⟩ (w_has l D K (y.toInt - 1) n.toInt t0 x_251 (.ref t1) k_1 (.ref t2) k_3 n k_5 k_6 k_7 k_8 (.int ho) s.heap.size hx_251 rfl) ⟨va_cnB 1 hts gX11_tune_X9_has_n121 rfl rfl rfl (nst_at hN 19 rfl) (hts _ mm_X11_tune_145) (by decide +kernel) ⟨Nat.le_of_ble_eq_true rfl, Nat.le_of_ble_eq_true rfl⟩, (hts _ mm_X11_tune_397), (hts _ mm_X11_tune_7)⟩ (mkV hK hN (hP.sub [4] rfl) (hD.sub [4] (by decide +kernel) rfl) (ci := 9) (q0 := 0) rfl rfl) rfl rfl hl.1 rfl (lv_room (Nat.le_of_ble_eq_true rfl)) dX11_tune_51 ⟨Nat.le_of_ble_eq_true rfl, Nat.le_of_ble_eq_true rfl⟩) (fun r_252 hw => ?_)
        obtain ⟨hw, k_253, -⟩ := hw
        replace hE := hE.trans (Lt_in k_253)
        rcases hw with ⟨rfl, h_254, h_255⟩ | ⟨rfl, h_256⟩
        · replace hE := (hE).trans (if_pos rfl)
          refine lv_if_eq (tgt := 70) hx hb dX11_tune_54 (by decide +kernel) (fun c_257 => absurd c_257 (by decide +kernel)) (fun c_257 => ?_)
          refine lv_aload_n hx hb dX11_tune_57 rfl (lv_at hl 1 rfl) ?_
          refine va_get (ci := 11) (v := .ref t0) (C := RX11) (T := TX11) (N := 17) hx hb hts hw11 hown hK hP 0 rfl rfl 0 (by decide +kernel) (hts _ mm_X11_tune_334) (fun _ h9 => h9) rfl dX11_tune_58 ?_
          refine lv_iload_n hx hb dX11_tune_61 rfl (lv_at hl 0 rfl) ?_
          refine lv_iconst (v := 1) hx hb dX11_tune_62 (by decide +kernel) ?_
          refine pci (va_runVN (As := [.int x_251, .int 1]) (rest := []) ⟨hx, hb, hml, hown, hts⟩ (w_fact l D K t0 x_251 1 t1 k_1 (.ref t2) k_3 (.int n) k_5 k_6 k_7 k_8 (.int ho) f1 s.heap.size) ⟨va_cnB 2 hts gX11_tune_X9_fact_n125 rfl rfl rfl (nst_at hN 20 rfl) (hts _ mm_X11_tune_145) (by decide +kernel) ⟨Nat.le_of_ble_eq_true rfl, Nat.le_of_ble_eq_true rfl⟩, (hts _ mm_X11_tune_381), (hts _ mm_X11_tune_2)⟩ (mkV hK hN (hP.sub [4, 5] rfl) (hD.sub [4, 5] (by decide +kernel) rfl) (ci := 9) (q0 := 0) rfl rfl) rfl rfl hl.1 rfl (lv_room (Nat.le_of_ble_eq_true rfl)) dX11_tune_63 ⟨Nat.le_of_ble_eq_true rfl, Nat.le_of_ble_eq_true rfl⟩) (fun r_258 hw => ?_)
          obtain ⟨k_259, -⟩ := hw
          replace hE := hE.trans (Lt_in k_259)
          refine lv_iload_n hx hb dX11_tune_66 rfl (lv_at hl 2 rfl) ?_
          refine lv_icmp_eq (tgt := 72) hx hb dX11_tune_67 (by decide +kernel) (fun c_260 => ?_) (fun c_260 => ?_)
          · have c_260i := i_eq (x := r_258.toInt) (y := x.toInt) rfl rfl c_260
            replace hE := hE.trans (if_pos c_260)
            refine lv_aload_n hx hb dX11_tune_72 rfl (lv_at hl 1 rfl) ?_
            refine va_get (ci := 11) (v := .ref p0) (C := RX11) (T := TX11) (N := 17) hx hb hts hw11 hown hK hP 0 rfl rfl 11 (by decide +kernel) (hts _ mm_X11_tune_345) (fun _ h9 => h9) rfl dX11_tune_73 ?_
            refine lv_aload_n hx hb dX11_tune_76 rfl (lv_at hl 1 rfl) ?_
            refine va_get (ci := 11) (v := .ref t0) (C := RX11) (T := TX11) (N := 17) hx hb hts hw11 hown hK hP 0 rfl rfl 0 (by decide +kernel) (hts _ mm_X11_tune_334) (fun _ h9 => h9) rfl dX11_tune_77 ?_
            refine lv_iload_n hx hb dX11_tune_80 rfl (lv_at hl 2 rfl) ?_
            refine kci (S := Su) (wr := [(o0, .inr (11, [.ref t0, o_1, o_2, o_3, o_4, o_5, o_6, o_7, o_8, o_9, o_10, .ref p0, o_12, o_13, o_14, o_15, o_16]))]) (va_runVN (As := [.ref t0, .int x]) (rest := []) ⟨hx, hb, hml, hown, hts⟩ (w_retune l D K p0 t0 x p1 p2 p3 p4 p5 fb fr t1 k_1 t2 k_3 n k_5 k_6 k_7 k_8 ho f1 f2 s.heap.size (by first | omega | decide)) ⟨va_cnB 2 hts gX11_tune_X4_retune_n252 rfl rfl rfl (nst_at hN 86 rfl) (hts _ mm_X11_tune_155) (by decide +kernel) ⟨Nat.le_of_ble_eq_true rfl, Nat.le_of_ble_eq_true rfl⟩, (hts _ mm_X11_tune_710), (hts _ mm_X11_tune_62)⟩ (mkV hK hN (hP.sub [1, 2, 3, 4, 5, 6] rfl) (hD.sub [1, 2, 3, 4, 5, 6] (by decide +kernel) rfl) (ci := 4) (q0 := 0) rfl rfl) rfl rfl hl.1 rfl (lv_room (Nat.le_of_ble_eq_true rfl)) dX11_tune_81 ⟨Nat.le_of_ble_eq_true rfl, Nat.le_of_ble_eq_true rfl⟩) hP hD hS hA [1, 2, 3, 4, 5, 6] [0] rfl rfl (by decide +kernel) (by decide +kernel) (fun r_261 u_262 H locs hw hP0 hD0 hS0 => ?_)
            clear hP hD hS
            have hP := hP0
            have hD := hD0
            have hS := hS0
            clear hP0 hD0 hS0
            replace hP : va_P D vwCl [(o0, .inr (11, [.ref t0, o_1, o_2, o_3, o_4, o_5, o_6, o_7, o_8, o_9, o_10, .ref p0, o_12, o_13, o_14, o_15, o_16])), (p0, .inr (4, [.ref p1, .ref p2, .ref p3, .ref p4, .ref p5])), (p3, .inl (K 0, 8, .inl (u_262.2.1 0))), (p4, .inl (K 0, 8, .inl (u_262.2.1 1))), (t0, .inr (9, [.ref t1, k_1, .ref t2, k_3, .int n, k_5, k_6, k_7, k_8, .int ho])), (t1, .inl (K 0, 56, .inl f1)), (t2, .inl (K 0, 6, .inl f2))] H := hP
            replace hD : va_D A [(o0, .inr (11, [.ref t0, o_1, o_2, o_3, o_4, o_5, o_6, o_7, o_8, o_9, o_10, .ref p0, o_12, o_13, o_14, o_15, o_16])), (p0, .inr (4, [.ref p1, .ref p2, .ref p3, .ref p4, .ref p5])), (p3, .inl (K 0, 8, .inl (u_262.2.1 0))), (p4, .inl (K 0, 8, .inl (u_262.2.1 1))), (t0, .inr (9, [.ref t1, k_1, .ref t2, k_3, .int n, k_5, k_6, k_7, k_8, .int ho])), (t1, .inl (K 0, 56, .inl f1)), (t2, .inl (K 0, 6, .inl f2))] := hD
            obtain ⟨h_264, k_263, -⟩ := hw
            replace hE := (hE.trans (Lt2_in k_263)).trans (Lt2_in rfl)
            refine lv_pop hx hb dX11_tune_84 rfl ?_
            refine lv_aload_n hx hb dX11_tune_85 rfl (lv_at hl 1 rfl) ?_
            refine va_get (ci := 11) (v := .ref p0) (C := RX11) (T := TX11) (N := 17) hx hb hts hw11 hown hK hP 0 rfl rfl 11 (by decide +kernel) (hts _ mm_X11_tune_345) (fun _ h9 => h9) rfl dX11_tune_86 ?_
            refine lv_iload_n hx hb dX11_tune_89 rfl (lv_at hl 0 rfl) ?_
            refine pci (va_runVN (As := [.int x_251]) (rest := []) ⟨hx, hb, hml, hown, hts⟩ (w_tunedNote l D K p0 x_251 p1 p2 p3 p4 p5 (u_262.2.1 0) H.size) ⟨va_cnB 1 hts gX11_tune_X4_tunedNote_n255 rfl rfl rfl (nst_at hN 87 rfl) (hts _ mm_X11_tune_155) (by decide +kernel) ⟨Nat.le_of_ble_eq_true rfl, Nat.le_of_ble_eq_true rfl⟩, (hts _ mm_X11_tune_726), (hts _ mm_X11_tune_65)⟩ (mkV hK hN (hP.sub [1, 2] rfl) (hD.sub [1, 2] (by decide +kernel) rfl) (ci := 4) (q0 := 0) rfl rfl) rfl rfl hl.1 rfl (lv_room (Nat.le_of_ble_eq_true rfl)) dX11_tune_90 ⟨Nat.le_of_ble_eq_true rfl, Nat.le_of_ble_eq_true rfl⟩) (fun r_265 hw => ?_)
            obtain ⟨k_266, -⟩ := hw
            replace hE := hE.trans (Lt_in k_266)
            rw [← hQ]
            have hP9 := hP.sub (ws' := [(o0, .inr (11, [.ref t0, o_1, o_2, o_3, o_4, o_5, o_6, o_7, o_8, o_9, o_10, .ref p0, o_12, o_13, o_14, o_15, o_16])), (p0, .inr (4, [.ref p1, .ref p2, .ref p3, .ref p4, .ref p5])), (p3, .inl (K 0, 8, .inl (u_262.2.1 0))), (p4, .inl (K 0, 8, .inl (u_262.2.1 1))), (t0, .inr (9, [.ref t1, k_1, .ref t2, k_3, .int n, k_5, k_6, k_7, k_8, .int ho])), (t1, .inl (K 0, 56, .inl f1)), (t2, .inl (K 0, 6, .inl f2))]) [0, 1, 2, 3, 4, 5, 6] rfl
            have hD9 := hD.sub (ws' := [(o0, .inr (11, [.ref t0, o_1, o_2, o_3, o_4, o_5, o_6, o_7, o_8, o_9, o_10, .ref p0, o_12, o_13, o_14, o_15, o_16])), (p0, .inr (4, [.ref p1, .ref p2, .ref p3, .ref p4, .ref p5])), (p3, .inl (K 0, 8, .inl (u_262.2.1 0))), (p4, .inl (K 0, 8, .inl (u_262.2.1 1))), (t0, .inr (9, [.ref t1, k_1, .ref t2, k_3, .int n, k_5, k_6, k_7, k_8, .int ho])), (t1, .inl (K 0, 56, .inl f1)), (t2, .inl (K 0, 6, .inl f2))]) [0, 1, 2, 3, 4, 5, 6] (by decide +kernel) rfl
            exact W.iret (v := r_265) hx hb hr (fun t ht hW => ⟨⟨r_265, ((fun _ => 0, fun i => match i with | 0 => (u_262.2.1 0) | _ => (u_262.2.1 1), fun _ => fun _ => 0, fun _ => 0, fun _ => 0, fun _ => fun _ => none) : Su), rfl, ⟨hE.symm, trivial⟩, (⟨by rw [ht]; exact hP9, hD9⟩ : Wd D A _ t)⟩, hS.F ht⟩) hS.2.2 dX11_tune_93
          · have c_260i := i_ne (x := r_258.toInt) (y := x.toInt) rfl rfl c_260
            replace hE := hE.trans (if_neg c_260)
            exact j_244   hE _ _ hP hD hS ls (lv_sub hl [] rfl)
        · replace hE := (hE).trans (if_neg (by first | decide | (intro h9; have h8 := congrArg Int32.toInt h9; omega)))
          refine lv_if_eq (tgt := 70) hx hb dX11_tune_54 (by decide +kernel) (fun c_267 => ?_) (fun c_267 => absurd (by decide +kernel) c_267)
          exact j_244   hE _ _ hP hD hS ls (lv_sub hl [] rfl)
      · replace hE := (hE).trans (if_neg (by first | decide | (intro h9; have h8 := congrArg Int32.toInt h9; omega)))
        refine lv_if_eq (tgt := 44) hx hb dX11_tune_35 (by decide +kernel) (fun c_268 => ?_) (fun c_268 => absurd (by decide +kernel) c_268)
        refine lv_iconst (v := (-1)) hx hb dX11_tune_44 (by decide +kernel) ?_
        refine lv_istore_n (lv' := [(3, .int (-1)), (0, .ref o0), (1, .int x), (2, .int y)]) hx hb dX11_tune_45 rfl hl (by decide +kernel) rfl (fun ls hl => ?_)
        refine lv_aload_n hx hb dX11_tune_46 rfl (lv_at hl 1 rfl) ?_
        refine va_get (ci := 11) (v := .ref t0) (C := RX11) (T := TX11) (N := 17) hx hb hts hw11 hown hK hP 0 rfl rfl 0 (by decide +kernel) (hts _ mm_X11_tune_334) (fun _ h9 => h9) rfl dX11_tune_47 ?_
        refine lv_iload_n hx hb dX11_tune_50 rfl (lv_at hl 0 rfl) ?_
        refine pci (va_runVN (As := [.int (-1)]) (rest := []) ⟨hx, hb, hml, hown, hts⟩ (w_has l D K (-1) n.toInt t0 (-1) (.ref t1) k_1 (.ref t2) k_3 n k_5 k_6 k_7 k_8 (.int ho) s.heap.size (show ((-1) : Int32).toInt = (-1) from rfl) rfl) ⟨va_cnB 1 hts gX11_tune_X9_has_n121 rfl rfl rfl (nst_at hN 19 rfl) (hts _ mm_X11_tune_145) (by decide +kernel) ⟨Nat.le_of_ble_eq_true rfl, Nat.le_of_ble_eq_true rfl⟩, (hts _ mm_X11_tune_397), (hts _ mm_X11_tune_7)⟩ (mkV hK hN (hP.sub [4] rfl) (hD.sub [4] (by decide +kernel) rfl) (ci := 9) (q0 := 0) rfl rfl) rfl rfl hl.1 rfl (lv_room (Nat.le_of_ble_eq_true rfl)) dX11_tune_51 ⟨Nat.le_of_ble_eq_true rfl, Nat.le_of_ble_eq_true rfl⟩) (fun r_269 hw => ?_)
        obtain ⟨hw, k_270, -⟩ := hw
        replace hE := hE.trans (Lt_in k_270)
        rcases hw with ⟨rfl, h_271, h_272⟩ | ⟨rfl, h_273⟩
        · replace hE := (hE).trans (if_pos rfl)
          exfalso; omega
        · replace hE := (hE).trans (if_neg (by first | decide | (intro h9; have h8 := congrArg Int32.toInt h9; omega)))
          refine lv_if_eq (tgt := 70) hx hb dX11_tune_54 (by decide +kernel) (fun c_274 => ?_) (fun c_274 => absurd (by decide +kernel) c_274)
          exact j_244   hE _ _ hP hD hS ls (lv_sub hl [] rfl)
    · have c_213i := i_eq (x := y.toInt) (y := 0) rfl rfl c_213
      replace hE := hE.trans (if_pos c_213)
      refine lv_aload_n hx hb dX11_tune_15 rfl (lv_at hl 0 rfl) ?_
      refine va_get (ci := 11) (v := .ref p0) (C := RX11) (T := TX11) (N := 17) hx hb hts hw11 hown hK hP 0 rfl rfl 11 (by decide +kernel) (hts _ mm_X11_tune_345) (fun _ h9 => h9) rfl dX11_tune_16 ?_
      refine lv_aload_n hx hb dX11_tune_19 rfl (lv_at hl 0 rfl) ?_
      refine va_get (ci := 11) (v := .ref t0) (C := RX11) (T := TX11) (N := 17) hx hb hts hw11 hown hK hP 0 rfl rfl 0 (by decide +kernel) (hts _ mm_X11_tune_334) (fun _ h9 => h9) rfl dX11_tune_20 ?_
      refine lv_iload_n hx hb dX11_tune_23 rfl (lv_at hl 1 rfl) ?_
      refine kci (S := Su) (wr := [(o0, .inr (11, [.ref t0, o_1, o_2, o_3, o_4, o_5, o_6, o_7, o_8, o_9, o_10, .ref p0, o_12, o_13, o_14, o_15, o_16]))]) (va_runVN (As := [.ref t0, .int x]) (rest := []) ⟨hx, hb, hml, hown, hts⟩ (w_retune l D K p0 t0 x p1 p2 p3 p4 p5 fb fr t1 k_1 t2 k_3 n k_5 k_6 k_7 k_8 ho f1 f2 s.heap.size (by first | omega | decide)) ⟨va_cnB 2 hts gX11_tune_X4_retune_n252 rfl rfl rfl (nst_at hN 86 rfl) (hts _ mm_X11_tune_155) (by decide +kernel) ⟨Nat.le_of_ble_eq_true rfl, Nat.le_of_ble_eq_true rfl⟩, (hts _ mm_X11_tune_710), (hts _ mm_X11_tune_62)⟩ (mkV hK hN (hP.sub [1, 2, 3, 4, 5, 6] rfl) (hD.sub [1, 2, 3, 4, 5, 6] (by decide +kernel) rfl) (ci := 4) (q0 := 0) rfl rfl) rfl rfl hl.1 rfl (lv_room (Nat.le_of_ble_eq_true rfl)) dX11_tune_24 ⟨Nat.le_of_ble_eq_true rfl, Nat.le_of_ble_eq_true rfl⟩) hP hD hS hA [1, 2, 3, 4, 5, 6] [0] rfl rfl (by decide +kernel) (by decide +kernel) (fun r_275 u_276 H locs hw hP0 hD0 hS0 => ?_)
      clear hP hD hS
      have hP := hP0
      have hD := hD0
      have hS := hS0
      clear hP0 hD0 hS0
      replace hP : va_P D vwCl [(o0, .inr (11, [.ref t0, o_1, o_2, o_3, o_4, o_5, o_6, o_7, o_8, o_9, o_10, .ref p0, o_12, o_13, o_14, o_15, o_16])), (p0, .inr (4, [.ref p1, .ref p2, .ref p3, .ref p4, .ref p5])), (p3, .inl (K 0, 8, .inl (u_276.2.1 0))), (p4, .inl (K 0, 8, .inl (u_276.2.1 1))), (t0, .inr (9, [.ref t1, k_1, .ref t2, k_3, .int n, k_5, k_6, k_7, k_8, .int ho])), (t1, .inl (K 0, 56, .inl f1)), (t2, .inl (K 0, 6, .inl f2))] H := hP
      replace hD : va_D A [(o0, .inr (11, [.ref t0, o_1, o_2, o_3, o_4, o_5, o_6, o_7, o_8, o_9, o_10, .ref p0, o_12, o_13, o_14, o_15, o_16])), (p0, .inr (4, [.ref p1, .ref p2, .ref p3, .ref p4, .ref p5])), (p3, .inl (K 0, 8, .inl (u_276.2.1 0))), (p4, .inl (K 0, 8, .inl (u_276.2.1 1))), (t0, .inr (9, [.ref t1, k_1, .ref t2, k_3, .int n, k_5, k_6, k_7, k_8, .int ho])), (t1, .inl (K 0, 56, .inl f1)), (t2, .inl (K 0, 6, .inl f2))] := hD
      obtain ⟨h_278, k_277, -⟩ := hw
      replace hE := (hE.trans (Lt2_in k_277)).trans (Lt2_in rfl)
      rw [← hQ]
      have hP9 := hP.sub (ws' := [(o0, .inr (11, [.ref t0, o_1, o_2, o_3, o_4, o_5, o_6, o_7, o_8, o_9, o_10, .ref p0, o_12, o_13, o_14, o_15, o_16])), (p0, .inr (4, [.ref p1, .ref p2, .ref p3, .ref p4, .ref p5])), (p3, .inl (K 0, 8, .inl (u_276.2.1 0))), (p4, .inl (K 0, 8, .inl (u_276.2.1 1))), (t0, .inr (9, [.ref t1, k_1, .ref t2, k_3, .int n, k_5, k_6, k_7, k_8, .int ho])), (t1, .inl (K 0, 56, .inl f1)), (t2, .inl (K 0, 6, .inl f2))]) [0, 1, 2, 3, 4, 5, 6] rfl
      have hD9 := hD.sub (ws' := [(o0, .inr (11, [.ref t0, o_1, o_2, o_3, o_4, o_5, o_6, o_7, o_8, o_9, o_10, .ref p0, o_12, o_13, o_14, o_15, o_16])), (p0, .inr (4, [.ref p1, .ref p2, .ref p3, .ref p4, .ref p5])), (p3, .inl (K 0, 8, .inl (u_276.2.1 0))), (p4, .inl (K 0, 8, .inl (u_276.2.1 1))), (t0, .inr (9, [.ref t1, k_1, .ref t2, k_3, .int n, k_5, k_6, k_7, k_8, .int ho])), (t1, .inl (K 0, 56, .inl f1)), (t2, .inl (K 0, 6, .inl f2))]) [0, 1, 2, 3, 4, 5, 6] (by decide +kernel) rfl
      exact W.iret (v := r_275) hx hb hr (fun t ht hW => ⟨⟨r_275, ((fun _ => 0, fun i => match i with | 0 => (u_276.2.1 0) | _ => (u_276.2.1 1), fun _ => fun _ => 0, fun _ => 0, fun _ => 0, fun _ => fun _ => none) : Su), rfl, ⟨hE.symm, trivial⟩, (⟨by rw [ht]; exact hP9, hD9⟩ : Wd D A _ t)⟩, hS.F ht⟩) hS.2.2 dX11_tune_27
  · replace hE := (hE).trans (if_neg (by first | decide | (intro h9; have h8 := congrArg Int32.toInt h9; omega)))
    refine lv_if_ne (tgt := 11) hx hb dX11_tune_6 (by decide +kernel) (fun c_279 => absurd (by decide +kernel) c_279) (fun c_279 => ?_)
    refine lv_iconst (v := (-1)) hx hb dX11_tune_9 (by decide +kernel) ?_
    rw [← hQ]
    have hP9 := hP.sub (ws' := [(o0, .inr (11, [.ref t0, o_1, o_2, o_3, o_4, o_5, o_6, o_7, o_8, o_9, o_10, .ref p0, o_12, o_13, o_14, o_15, o_16])), (p0, .inr (4, [.ref p1, .ref p2, .ref p3, .ref p4, .ref p5])), (p3, .inl (K 0, 8, .inl fb)), (p4, .inl (K 0, 8, .inl fr)), (t0, .inr (9, [.ref t1, k_1, .ref t2, k_3, .int n, k_5, k_6, k_7, k_8, .int ho])), (t1, .inl (K 0, 56, .inl f1)), (t2, .inl (K 0, 6, .inl f2))]) [0, 1, 2, 3, 4, 5, 6] rfl
    have hD9 := hD.sub (ws' := [(o0, .inr (11, [.ref t0, o_1, o_2, o_3, o_4, o_5, o_6, o_7, o_8, o_9, o_10, .ref p0, o_12, o_13, o_14, o_15, o_16])), (p0, .inr (4, [.ref p1, .ref p2, .ref p3, .ref p4, .ref p5])), (p3, .inl (K 0, 8, .inl fb)), (p4, .inl (K 0, 8, .inl fr)), (t0, .inr (9, [.ref t1, k_1, .ref t2, k_3, .int n, k_5, k_6, k_7, k_8, .int ho])), (t1, .inl (K 0, 56, .inl f1)), (t2, .inl (K 0, 6, .inl f2))]) [0, 1, 2, 3, 4, 5, 6] (by decide +kernel) rfl
    exact W.iret (v := (-1)) hx hb hr (fun t ht hW => ⟨⟨(-1), ((fun _ => 0, fun i => match i with | 0 => fb | _ => fr, fun _ => fun _ => 0, fun _ => 0, fun _ => 0, fun _ => fun _ => none) : Su), rfl, ⟨hE.symm, trivial⟩, (⟨by rw [ht]; exact hP9, hD9⟩ : Wd D A _ t)⟩, hS.F ht⟩) hS.2.2 dX11_tune_10
set_option maxRecDepth 100000 in
noncomputable def E_w_hear (x : Int32) (rb : Int32) (frf : Nat → Int32) (hea : Int32) (ho : Int32) : Int32 × Int32 × (Nat → Int32) × Int32 × Int32 :=
  Lt (E_w_within x 0 127) (fun r_99 => if r_99 = 1 then (if hea < 6 then (Lt (ho ||| x : Int32) (fun x_106 => Lt (hea + 1 : Int32) (fun x_107 => Lt (E_w_accept x_107 rb) (fun r_108 => ((r_108, 0, frf, x_107, x_106) : Int32 × Int32 × (Nat → Int32) × Int32 × Int32))))) else (Lt2 (E_w_refuse (-5) rb frf) (fun r_111 u_112_2_1_0 => ((r_111, (-5), u_112_2_1_0, hea, ho) : Int32 × Int32 × (Nat → Int32) × Int32 × Int32)))) else (Lt2 (E_w_refuse (-1) rb frf) (fun r_115 u_116_2_1_0 => ((r_115, (-1), u_116_2_1_0, hea, ho) : Int32 × Int32 × (Nat → Int32) × Int32 × Int32))))
set_option maxHeartbeats 4000000 in
set_option maxRecDepth 100000 in
theorem w_hear (l : Launch) (D : va_G) (K : Nat → ClassId) (o0 : Nat) (x : Int32) (t0 : Nat) (o_1 : Value) (o_2 : Value) (o_3 : Value) (o_4 : Value) (o_5 : Value) (o_6 : Value) (o_7 : Value) (o_8 : Value) (o_9 : Value) (o_10 : Value) (o_11 : Value) (rf : Nat) (rb : Int32) (o_14 : Value) (o_15 : Value) (o_16 : Value) (frf : Nat → Int32) (k_0 : Value) (k_1 : Value) (k_2 : Value) (k_3 : Value) (k_4 : Value) (k_5 : Value) (k_6 : Value) (k_7 : Value) (hea : Int32) (ho : Int32) (sz : Nat) (zht : 0 ≤ hea.toInt ∧ hea.toInt ≤ 6) : Met l yX11_hear wsX11_hear ({ frames := 2, cells := 0, slots := 0, locals := 44 }) (va_Pc [.ref o0, .int x] (Pre D K [(o0, .inr (11, [.ref t0, o_1, o_2, o_3, o_4, o_5, o_6, o_7, o_8, o_9, o_10, o_11, .ref rf, .int rb, o_14, o_15, o_16])), (rf, .inl (K 0, 5, .inl frf)), (t0, .inr (9, [k_0, k_1, k_2, k_3, k_4, k_5, k_6, k_7, .int hea, .int ho]))] sz)) (va_Qi (S := Su) (fun (r : Int32) (u : Su) => ((-5) ≤ (u.2.2.2.1 0).toInt ∧ (u.2.2.2.1 0).toInt ≤ 0) ∧ (0 ≤ (u.2.2.2.1 1).toInt ∧ (u.2.2.2.1 1).toInt ≤ 6) ∧ ((r, (u.2.2.2.1 0), (u.2.1 0), (u.2.2.2.1 1), (u.2.2.2.1 2)) = E_w_hear x rb frf hea ho) ∧ True) (fun u t => Wd D (va_A [(o0, .inr (11, [.ref t0, o_1, o_2, o_3, o_4, o_5, o_6, o_7, o_8, o_9, o_10, o_11, .ref rf, .int rb, o_14, o_15, o_16])), (rf, .inl (K 0, 5, .inl frf)), (t0, .inr (9, [k_0, k_1, k_2, k_3, k_4, k_5, k_6, k_7, .int hea, .int ho]))] sz) ((fun u => [(o0, .inr (11, [.ref t0, o_1, o_2, o_3, o_4, o_5, o_6, o_7, o_8, o_9, o_10, o_11, .ref rf, .int (u.2.2.2.1 0), o_14, o_15, o_16])), (rf, .inl (K 0, 5, .inl (u.2.1 0))), (t0, .inr (9, [k_0, k_1, k_2, k_3, k_4, k_5, k_6, k_7, .int (u.2.2.2.1 1), .int (u.2.2.2.1 2)]))]) u) t) (va_A [(o0, .inr (11, [.ref t0, o_1, o_2, o_3, o_4, o_5, o_6, o_7, o_8, o_9, o_10, o_11, .ref rf, .int rb, o_14, o_15, o_16])), (rf, .inl (K 0, 5, .inl frf)), (t0, .inr (9, [k_0, k_1, k_2, k_3, k_4, k_5, k_6, k_7, .int hea, .int ho]))] sz)) 0 0 (va_A [(o0, .inr (11, [.ref t0, o_1, o_2, o_3, o_4, o_5, o_6, o_7, o_8, o_9, o_10, o_11, .ref rf, .int rb, o_14, o_15, o_16])), (rf, .inl (K 0, 5, .inl frf)), (t0, .inr (9, [k_0, k_1, k_2, k_3, k_4, k_5, k_6, k_7, .int hea, .int ho]))] sz) := by
  refine Met.ofW (cc := cX11_hear) (maxL := 2) (ret := (some .int)) (by decide +kernel) rfl ?_
  intro p e s m args below meth c s₁ B hml hv
  obtain ⟨rfl, hsz, hP, hK, hD0, hN⟩ := hv
  have hx := B.exec
  have hb := B.bytes
  have hr := B.returns
  have hts := atoms_spec (ws := wsX11_hear) B.pre
  have hown : s.vm.findClass RX11 = some m.cls := findClass_of_methodNamed B.named
  have hlocks := B.notSynchronized
  subst hsz
  have hD := hD0.self (sz := s.heap.size)
  generalize hAe : va_A [(o0, .inr (11, [.ref t0, o_1, o_2, o_3, o_4, o_5, o_6, o_7, o_8, o_9, o_10, o_11, .ref rf, .int rb, o_14, o_15, o_16])), (rf, .inl (K 0, 5, .inl frf)), (t0, .inr (9, [k_0, k_1, k_2, k_3, k_4, k_5, k_6, k_7, .int hea, .int ho]))] s.heap.size = A at hD ⊢
  have hA : ∀ q : Nat, s.heap.size ≤ q → A q := fun q h => by rw [← hAe]; exact Or.inr h
  clear hAe
  have hS : va_S A s.heap s.heap [] := va_S.rf
  replace hP : va_P D vwCl [(o0, .inr (11, [.ref t0, o_1, o_2, o_3, o_4, o_5, o_6, o_7, o_8, o_9, o_10, o_11, .ref rf, .int rb, o_14, o_15, o_16])), (rf, .inl (K 0, 5, .inl frf)), (t0, .inr (9, [k_0, k_1, k_2, k_3, k_4, k_5, k_6, k_7, .int hea, .int ho]))] s.heap := hP
  have hl := lv_entry [.ref o0, .int x] (n := 2) (Nat.le_of_ble_eq_true rfl)
  rw [lg_entry_eq]
  generalize (lg_sl [.ref o0, .int x] ++ List.replicate (2 - (lg_sl [.ref o0, .int x]).length) Slot.unset).toArray = ls at hl ⊢
  have hl : lv_has ls 2 [(0, .ref o0), (1, .int x)] := hl
  have hw9 : ∀ w ∈ wsX90, w ∈ wsX11_hear := fun w h => (List.mem_cons_of_mem _ (List.mem_append_right _ h))
  have hw11 : ∀ w ∈ wsX110, w ∈ wsX11_hear := fun w h => (List.mem_cons_of_mem _ (List.mem_append_left _ (List.mem_append_right _ h)))
  generalize hQ : MQ below _ _ s _ _ _ = Q
  have hE := E_w_hear.eq_def x rb frf hea ho
  refine lv_iload_n hx hb dX11_hear_0 rfl (lv_at hl 1 rfl) ?_
  refine lv_iconst (v := 0) hx hb dX11_hear_1 (by decide +kernel) ?_
  refine lv_bipush (v := 127) hx hb dX11_hear_2 (by decide +kernel) ?_
  refine pci (va_runS (As := [.int x, .int 0, .int 127]) (rest := []) ⟨hx, hb, hml, hown, hts⟩ (w_within l D K x.toInt 0 127 x 0 127 s.heap.size rfl (show (0 : Int32).toInt = 0 from rfl) (show (127 : Int32).toInt = 127 from rfl)) (va_cwS 3 hts gX11_hear_X11_within rfl rfl rfl (by decide +kernel) ⟨Nat.le_of_ble_eq_true rfl, Nat.le_of_ble_eq_true rfl⟩) (mkS hK hN (va_P.nil) (va_D.nil (A := fun _ => True))) rfl rfl hl.1 rfl (lv_room (Nat.le_of_ble_eq_true rfl)) dX11_hear_4 ⟨Nat.le_of_ble_eq_true rfl, Nat.le_of_ble_eq_true rfl⟩) (fun r_99 hw => ?_)
  obtain ⟨hw, k_100, -⟩ := hw
  replace hE := hE.trans (Lt_in k_100)
  rcases hw with ⟨rfl, h_101, h_102⟩ | ⟨rfl, h_103⟩
  · replace hE := (hE).trans (if_pos rfl)
    refine lv_if_ne (tgt := 16) hx hb dX11_hear_7 (by decide +kernel) (fun c_104 => ?_) (fun c_104 => absurd c_104 (by decide +kernel))
    refine lv_aload_n hx hb dX11_hear_16 rfl (lv_at hl 0 rfl) ?_
    refine va_get (ci := 11) (v := .ref t0) (C := RX11) (T := TX11) (N := 17) hx hb hts hw11 hown hK hP 0 rfl rfl 0 (by decide +kernel) (hts _ mm_X11_hear_334) (fun _ h9 => h9) rfl dX11_hear_17 ?_
    refine va_getN (ci := 9) (v := .int hea) (C := RX9) (T := TX9) (N := 10) hx hb hts hw9 hown hK hP 2 rfl rfl 8 (by decide +kernel) (nst_use hN 116 rfl) (fun _ h9 => h9) rfl dX11_hear_20 ?_
    refine lv_bipush (v := 6) hx hb dX11_hear_23 (by decide +kernel) ?_
    refine lv_icmp_lt (tgt := 35) hx hb dX11_hear_25 (by decide +kernel) (fun c_105 => ?_) (fun c_105 => ?_)
    · have c_105i := i_lt (x := hea.toInt) (y := 6) rfl rfl c_105
      replace hE := hE.trans (if_pos c_105)
      refine lv_aload_n hx hb dX11_hear_35 rfl (lv_at hl 0 rfl) ?_
      refine va_get (ci := 11) (v := .ref t0) (C := RX11) (T := TX11) (N := 17) hx hb hts hw11 hown hK hP 0 rfl rfl 0 (by decide +kernel) (hts _ mm_X11_hear_334) (fun _ h9 => h9) rfl dX11_hear_36 ?_
      refine lv_dup hx hb dX11_hear_39 rfl ?_
      refine va_getN (ci := 9) (v := .int ho) (C := RX9) (T := TX9) (N := 10) hx hb hts hw9 hown hK hP 2 rfl rfl 9 (by decide +kernel) (nst_use hN 118 rfl) (fun _ h9 => h9) rfl dX11_hear_40 ?_
      refine lv_iload_n hx hb dX11_hear_43 rfl (lv_at hl 1 rfl) ?_
      refine lv_ior hx hb dX11_hear_44 ?_
      refine lv_topi (fun x_106 ex_106 => ?_)
      replace hE := hE.trans (Lt_in ex_106)
      refine va_putN (ci := 9) (v := .int x_106) (ty := .int) (C := RX9) (T := TX9) (N := 10) hx hb hts hw9 tyX9 tyX9_ok nmX9 hown hK hP hD hS 2 rfl rfl 9 (by decide +kernel) (nst_use hN 118 rfl) (fun _ h9 => h9) rfl (by decide +kernel) (by first | rfl | decide) (by first | rfl | decide) (Nat.le_of_ble_eq_true rfl) dX11_hear_45 (fun H locs hP0 hD0 hS0 => ?_)
      clear hP hD hS
      have hP := hP0
      have hD := hD0
      have hS := hS0
      clear hP0 hD0 hS0
      replace hP : va_P D vwCl [(o0, .inr (11, [.ref t0, o_1, o_2, o_3, o_4, o_5, o_6, o_7, o_8, o_9, o_10, o_11, .ref rf, .int rb, o_14, o_15, o_16])), (rf, .inl (K 0, 5, .inl frf)), (t0, .inr (9, [k_0, k_1, k_2, k_3, k_4, k_5, k_6, k_7, .int hea, .int x_106]))] H := hP
      replace hD : va_D A [(o0, .inr (11, [.ref t0, o_1, o_2, o_3, o_4, o_5, o_6, o_7, o_8, o_9, o_10, o_11, .ref rf, .int rb, o_14, o_15, o_16])), (rf, .inl (K 0, 5, .inl frf)), (t0, .inr (9, [k_0, k_1, k_2, k_3, k_4, k_5, k_6, k_7, .int hea, .int x_106]))] := hD
      refine lv_aload_n hx hb dX11_hear_48 rfl (lv_at hl 0 rfl) ?_
      refine va_get (ci := 11) (v := .ref t0) (C := RX11) (T := TX11) (N := 17) hx hb hts hw11 hown hK hP 0 rfl rfl 0 (by decide +kernel) (hts _ mm_X11_hear_334) (fun _ h9 => h9) rfl dX11_hear_49 ?_
      refine lv_dup hx hb dX11_hear_52 rfl ?_
      refine va_getN (ci := 9) (v := .int hea) (C := RX9) (T := TX9) (N := 10) hx hb hts hw9 hown hK hP 2 rfl rfl 8 (by decide +kernel) (nst_use hN 116 rfl) (fun _ h9 => h9) rfl dX11_hear_53 ?_
      refine lv_iconst (v := 1) hx hb dX11_hear_56 (by decide +kernel) ?_
      refine lv_iadd hx hb dX11_hear_57 ?_
      refine lv_topi (fun x_107 ex_107 => ?_)
      replace hE := hE.trans (Lt_in ex_107)
      have hx_107 : x_107.toInt = (hea.toInt + 1) := by rw [ex_107]; exact i_add rfl (show (1 : Int32).toInt = 1 from rfl) (by omega)
      refine va_putN (ci := 9) (v := .int x_107) (ty := .int) (C := RX9) (T := TX9) (N := 10) hx hb hts hw9 tyX9 tyX9_ok nmX9 hown hK hP hD hS 2 rfl rfl 8 (by decide +kernel) (nst_use hN 116 rfl) (fun _ h9 => h9) rfl (by decide +kernel) (by first | rfl | decide) (by first | rfl | decide) (Nat.le_of_ble_eq_true rfl) dX11_hear_58 (fun H locs hP0 hD0 hS0 => ?_)
      clear hP hD hS
      have hP := hP0
      have hD := hD0
      have hS := hS0
      clear hP0 hD0 hS0
      replace hP : va_P D vwCl [(o0, .inr (11, [.ref t0, o_1, o_2, o_3, o_4, o_5, o_6, o_7, o_8, o_9, o_10, o_11, .ref rf, .int rb, o_14, o_15, o_16])), (rf, .inl (K 0, 5, .inl frf)), (t0, .inr (9, [k_0, k_1, k_2, k_3, k_4, k_5, k_6, k_7, .int x_107, .int x_106]))] H := hP
      replace hD : va_D A [(o0, .inr (11, [.ref t0, o_1, o_2, o_3, o_4, o_5, o_6, o_7, o_8, o_9, o_10, o_11, .ref rf, .int rb, o_14, o_15, o_16])), (rf, .inl (K 0, 5, .inl frf)), (t0, .inr (9, [k_0, k_1, k_2, k_3, k_4, k_5, k_6, k_7, .int x_107, .int x_106]))] := hD
      refine lv_aload_n hx hb dX11_hear_61 rfl (lv_at hl 0 rfl) ?_
      refine lv_aload_n hx hb dX11_hear_62 rfl (lv_at hl 0 rfl) ?_
      refine va_get (ci := 11) (v := .ref t0) (C := RX11) (T := TX11) (N := 17) hx hb hts hw11 hown hK hP 0 rfl rfl 0 (by decide +kernel) (hts _ mm_X11_hear_334) (fun _ h9 => h9) rfl dX11_hear_63 ?_
      refine va_getN (ci := 9) (v := .int x_107) (C := RX9) (T := TX9) (N := 10) hx hb hts hw9 hown hK hP 2 rfl rfl 8 (by decide +kernel) (nst_use hN 116 rfl) (fun _ h9 => h9) rfl dX11_hear_66 ?_
      refine kci (S := Su) (wr := [(rf, .inl (K 0, 5, .inl frf)), (t0, .inr (9, [k_0, k_1, k_2, k_3, k_4, k_5, k_6, k_7, .int x_107, .int x_106]))]) (va_runV (As := [.int x_107]) (rest := []) ⟨hx, hb, hml, hown, hts⟩ (w_accept l D K o0 x_107 (.ref t0) o_1 o_2 o_3 o_4 o_5 o_6 o_7 o_8 o_9 o_10 o_11 (.ref rf) rb o_14 o_15 o_16 H.size) (cwV 1 hts gX11_hear_X11_accept rfl rfl rfl (by decide +kernel) ⟨Nat.le_of_ble_eq_true rfl, Nat.le_of_ble_eq_true rfl⟩) (mkV hK hN (hP.sub [0] rfl) (hD.sub [0] (by decide +kernel) rfl) (ci := 11) (q0 := 0) rfl rfl) rfl rfl hl.1 rfl (lv_room (Nat.le_of_ble_eq_true rfl)) dX11_hear_69 ⟨Nat.le_of_ble_eq_true rfl, Nat.le_of_ble_eq_true rfl⟩) hP hD hS hA [0] [1, 2] rfl rfl (by decide +kernel) (by decide +kernel) (fun r_108 u_109 H locs hw hP0 hD0 hS0 => ?_)
      clear hP hD hS
      have hP := hP0
      have hD := hD0
      have hS := hS0
      clear hP0 hD0 hS0
      replace hP : va_P D vwCl [(rf, .inl (K 0, 5, .inl frf)), (t0, .inr (9, [k_0, k_1, k_2, k_3, k_4, k_5, k_6, k_7, .int x_107, .int x_106])), (o0, .inr (11, [.ref t0, o_1, o_2, o_3, o_4, o_5, o_6, o_7, o_8, o_9, o_10, o_11, .ref rf, .int 0, o_14, o_15, o_16]))] H := hP
      replace hD : va_D A [(rf, .inl (K 0, 5, .inl frf)), (t0, .inr (9, [k_0, k_1, k_2, k_3, k_4, k_5, k_6, k_7, .int x_107, .int x_106])), (o0, .inr (11, [.ref t0, o_1, o_2, o_3, o_4, o_5, o_6, o_7, o_8, o_9, o_10, o_11, .ref rf, .int 0, o_14, o_15, o_16]))] := hD
      obtain ⟨hw, k_110, -⟩ := hw
      replace hE := hE.trans (Lt_in k_110)
      have er_r_108 := hw
      have hr_r_108 : r_108.toInt = (hea.toInt + 1) := (congrArg Int32.toInt er_r_108).trans hx_107
      rw [← hQ]
      have hP9 := hP.sub (ws' := [(o0, .inr (11, [.ref t0, o_1, o_2, o_3, o_4, o_5, o_6, o_7, o_8, o_9, o_10, o_11, .ref rf, .int 0, o_14, o_15, o_16])), (rf, .inl (K 0, 5, .inl frf)), (t0, .inr (9, [k_0, k_1, k_2, k_3, k_4, k_5, k_6, k_7, .int x_107, .int x_106]))]) [2, 0, 1] rfl
      have hD9 := hD.sub (ws' := [(o0, .inr (11, [.ref t0, o_1, o_2, o_3, o_4, o_5, o_6, o_7, o_8, o_9, o_10, o_11, .ref rf, .int 0, o_14, o_15, o_16])), (rf, .inl (K 0, 5, .inl frf)), (t0, .inr (9, [k_0, k_1, k_2, k_3, k_4, k_5, k_6, k_7, .int x_107, .int x_106]))]) [2, 0, 1] (by decide +kernel) rfl
      exact W.iret (v := r_108) hx hb hr (fun t ht hW => ⟨⟨r_108, ((fun _ => 0, fun i => match i with | _ => frf, fun _ => fun _ => 0, fun i => match i with | 0 => 0 | 1 => x_107 | _ => x_106, fun _ => 0, fun _ => fun _ => none) : Su), rfl, ⟨(show (-5) ≤ (0 : Int32).toInt ∧ (0 : Int32).toInt ≤ 0 by decide), (show 0 ≤ (x_107 : Int32).toInt ∧ (x_107 : Int32).toInt ≤ 6 by rw [hx_107]; omega), hE.symm, trivial⟩, (⟨by rw [ht]; exact hP9, hD9⟩ : Wd D A _ t)⟩, hS.F ht⟩) hS.2.2 dX11_hear_72
    · have c_105i := i_nlt (x := hea.toInt) (y := 6) rfl rfl c_105
      replace hE := hE.trans (if_neg c_105)
      refine lv_aload_n hx hb dX11_hear_28 rfl (lv_at hl 0 rfl) ?_
      refine lv_bipush (v := (-5)) hx hb dX11_hear_29 (by decide +kernel) ?_
      refine kci (S := Su) (wr := [(t0, .inr (9, [k_0, k_1, k_2, k_3, k_4, k_5, k_6, k_7, .int hea, .int ho]))]) (va_runV (As := [.int (-5)]) (rest := []) ⟨hx, hb, hml, hown, hts⟩ (w_refuse l D K o0 (-5) (.ref t0) o_1 o_2 o_3 o_4 o_5 o_6 o_7 o_8 o_9 o_10 o_11 rf rb o_14 o_15 o_16 frf s.heap.size) (cwV 1 hts gX11_hear_X11_refuse rfl rfl rfl (by decide +kernel) ⟨Nat.le_of_ble_eq_true rfl, Nat.le_of_ble_eq_true rfl⟩) (mkV hK hN (hP.sub [0, 1] rfl) (hD.sub [0, 1] (by decide +kernel) rfl) (ci := 11) (q0 := 0) rfl rfl) rfl rfl hl.1 rfl (lv_room (Nat.le_of_ble_eq_true rfl)) dX11_hear_31 ⟨Nat.le_of_ble_eq_true rfl, Nat.le_of_ble_eq_true rfl⟩) hP hD hS hA [0, 1] [2] rfl rfl (by decide +kernel) (by decide +kernel) (fun r_111 u_112 H locs hw hP0 hD0 hS0 => ?_)
      clear hP hD hS
      have hP := hP0
      have hD := hD0
      have hS := hS0
      clear hP0 hD0 hS0
      replace hP : va_P D vwCl [(t0, .inr (9, [k_0, k_1, k_2, k_3, k_4, k_5, k_6, k_7, .int hea, .int ho])), (o0, .inr (11, [.ref t0, o_1, o_2, o_3, o_4, o_5, o_6, o_7, o_8, o_9, o_10, o_11, .ref rf, .int (-5), o_14, o_15, o_16])), (rf, .inl (K 0, 5, .inl (u_112.2.1 0)))] H := hP
      replace hD : va_D A [(t0, .inr (9, [k_0, k_1, k_2, k_3, k_4, k_5, k_6, k_7, .int hea, .int ho])), (o0, .inr (11, [.ref t0, o_1, o_2, o_3, o_4, o_5, o_6, o_7, o_8, o_9, o_10, o_11, .ref rf, .int (-5), o_14, o_15, o_16])), (rf, .inl (K 0, 5, .inl (u_112.2.1 0)))] := hD
      obtain ⟨k_113, -⟩ := hw
      replace hE := hE.trans (Lt2_in k_113)
      rw [← hQ]
      have hP9 := hP.sub (ws' := [(o0, .inr (11, [.ref t0, o_1, o_2, o_3, o_4, o_5, o_6, o_7, o_8, o_9, o_10, o_11, .ref rf, .int (-5), o_14, o_15, o_16])), (rf, .inl (K 0, 5, .inl (u_112.2.1 0))), (t0, .inr (9, [k_0, k_1, k_2, k_3, k_4, k_5, k_6, k_7, .int hea, .int ho]))]) [1, 2, 0] rfl
      have hD9 := hD.sub (ws' := [(o0, .inr (11, [.ref t0, o_1, o_2, o_3, o_4, o_5, o_6, o_7, o_8, o_9, o_10, o_11, .ref rf, .int (-5), o_14, o_15, o_16])), (rf, .inl (K 0, 5, .inl (u_112.2.1 0))), (t0, .inr (9, [k_0, k_1, k_2, k_3, k_4, k_5, k_6, k_7, .int hea, .int ho]))]) [1, 2, 0] (by decide +kernel) rfl
      exact W.iret (v := r_111) hx hb hr (fun t ht hW => ⟨⟨r_111, ((fun _ => 0, fun i => match i with | _ => (u_112.2.1 0), fun _ => fun _ => 0, fun i => match i with | 0 => (-5) | 1 => hea | _ => ho, fun _ => 0, fun _ => fun _ => none) : Su), rfl, ⟨(show (-5) ≤ ((-5) : Int32).toInt ∧ ((-5) : Int32).toInt ≤ 0 by decide), (show 0 ≤ (hea : Int32).toInt ∧ (hea : Int32).toInt ≤ 6 by omega), hE.symm, trivial⟩, (⟨by rw [ht]; exact hP9, hD9⟩ : Wd D A _ t)⟩, hS.F ht⟩) hS.2.2 dX11_hear_34
  · replace hE := (hE).trans (if_neg (by first | decide | (intro h9; have h8 := congrArg Int32.toInt h9; omega)))
    refine lv_if_ne (tgt := 16) hx hb dX11_hear_7 (by decide +kernel) (fun c_114 => absurd (by decide +kernel) c_114) (fun c_114 => ?_)
    refine lv_aload_n hx hb dX11_hear_10 rfl (lv_at hl 0 rfl) ?_
    refine lv_iconst (v := (-1)) hx hb dX11_hear_11 (by decide +kernel) ?_
    refine kci (S := Su) (wr := [(t0, .inr (9, [k_0, k_1, k_2, k_3, k_4, k_5, k_6, k_7, .int hea, .int ho]))]) (va_runV (As := [.int (-1)]) (rest := []) ⟨hx, hb, hml, hown, hts⟩ (w_refuse l D K o0 (-1) (.ref t0) o_1 o_2 o_3 o_4 o_5 o_6 o_7 o_8 o_9 o_10 o_11 rf rb o_14 o_15 o_16 frf s.heap.size) (cwV 1 hts gX11_hear_X11_refuse rfl rfl rfl (by decide +kernel) ⟨Nat.le_of_ble_eq_true rfl, Nat.le_of_ble_eq_true rfl⟩) (mkV hK hN (hP.sub [0, 1] rfl) (hD.sub [0, 1] (by decide +kernel) rfl) (ci := 11) (q0 := 0) rfl rfl) rfl rfl hl.1 rfl (lv_room (Nat.le_of_ble_eq_true rfl)) dX11_hear_12 ⟨Nat.le_of_ble_eq_true rfl, Nat.le_of_ble_eq_true rfl⟩) hP hD hS hA [0, 1] [2] rfl rfl (by decide +kernel) (by decide +kernel) (fun r_115 u_116 H locs hw hP0 hD0 hS0 => ?_)
    clear hP hD hS
    have hP := hP0
    have hD := hD0
    have hS := hS0
    clear hP0 hD0 hS0
    replace hP : va_P D vwCl [(t0, .inr (9, [k_0, k_1, k_2, k_3, k_4, k_5, k_6, k_7, .int hea, .int ho])), (o0, .inr (11, [.ref t0, o_1, o_2, o_3, o_4, o_5, o_6, o_7, o_8, o_9, o_10, o_11, .ref rf, .int (-1), o_14, o_15, o_16])), (rf, .inl (K 0, 5, .inl (u_116.2.1 0)))] H := hP
    replace hD : va_D A [(t0, .inr (9, [k_0, k_1, k_2, k_3, k_4, k_5, k_6, k_7, .int hea, .int ho])), (o0, .inr (11, [.ref t0, o_1, o_2, o_3, o_4, o_5, o_6, o_7, o_8, o_9, o_10, o_11, .ref rf, .int (-1), o_14, o_15, o_16])), (rf, .inl (K 0, 5, .inl (u_116.2.1 0)))] := hD
    obtain ⟨k_117, -⟩ := hw
    replace hE := hE.trans (Lt2_in k_117)
    rw [← hQ]
    have hP9 := hP.sub (ws' := [(o0, .inr (11, [.ref t0, o_1, o_2, o_3, o_4, o_5, o_6, o_7, o_8, o_9, o_10, o_11, .ref rf, .int (-1), o_14, o_15, o_16])), (rf, .inl (K 0, 5, .inl (u_116.2.1 0))), (t0, .inr (9, [k_0, k_1, k_2, k_3, k_4, k_5, k_6, k_7, .int hea, .int ho]))]) [1, 2, 0] rfl
    have hD9 := hD.sub (ws' := [(o0, .inr (11, [.ref t0, o_1, o_2, o_3, o_4, o_5, o_6, o_7, o_8, o_9, o_10, o_11, .ref rf, .int (-1), o_14, o_15, o_16])), (rf, .inl (K 0, 5, .inl (u_116.2.1 0))), (t0, .inr (9, [k_0, k_1, k_2, k_3, k_4, k_5, k_6, k_7, .int hea, .int ho]))]) [1, 2, 0] (by decide +kernel) rfl
    exact W.iret (v := r_115) hx hb hr (fun t ht hW => ⟨⟨r_115, ((fun _ => 0, fun i => match i with | _ => (u_116.2.1 0), fun _ => fun _ => 0, fun i => match i with | 0 => (-1) | 1 => hea | _ => ho, fun _ => 0, fun _ => fun _ => none) : Su), rfl, ⟨(show (-5) ≤ ((-1) : Int32).toInt ∧ ((-1) : Int32).toInt ≤ 0 by decide), (show 0 ≤ (hea : Int32).toInt ∧ (hea : Int32).toInt ≤ 6 by omega), hE.symm, trivial⟩, (⟨by rw [ht]; exact hP9, hD9⟩ : Wd D A _ t)⟩, hS.F ht⟩) hS.2.2 dX11_hear_15
set_option maxRecDepth 100000 in
noncomputable def E_w_forget (hea : Int32) (ho : Int32) : Int32 :=
  (hea : Int32)
set_option maxHeartbeats 4000000 in
set_option maxRecDepth 100000 in
theorem w_forget (l : Launch) (D : va_G) (K : Nat → ClassId) (o0 : Nat) (t0 : Nat) (o_1 : Value) (o_2 : Value) (o_3 : Value) (o_4 : Value) (o_5 : Value) (o_6 : Value) (o_7 : Value) (o_8 : Value) (o_9 : Value) (o_10 : Value) (o_11 : Value) (o_12 : Value) (o_13 : Value) (o_14 : Value) (o_15 : Value) (o_16 : Value) (k_0 : Value) (k_1 : Value) (k_2 : Value) (k_3 : Value) (k_4 : Value) (k_5 : Value) (k_6 : Value) (k_7 : Value) (hea : Int32) (ho : Int32) (sz : Nat) (zht : 0 ≤ hea.toInt ∧ hea.toInt ≤ 6) : Met l yX11_forget wsX11_forget ({ frames := 0, cells := 0, slots := 0, locals := 0 }) (va_Pc [.ref o0] (Pre D K [(o0, .inr (11, [.ref t0, o_1, o_2, o_3, o_4, o_5, o_6, o_7, o_8, o_9, o_10, o_11, o_12, o_13, o_14, o_15, o_16])), (t0, .inr (9, [k_0, k_1, k_2, k_3, k_4, k_5, k_6, k_7, .int hea, .int ho]))] sz)) (va_Qi (S := Su) (fun (r : Int32) (u : Su) => (0 ≤ r.toInt ∧ r.toInt ≤ 6) ∧ (r = E_w_forget hea ho) ∧ True) (fun u t => Wd D (va_A [(o0, .inr (11, [.ref t0, o_1, o_2, o_3, o_4, o_5, o_6, o_7, o_8, o_9, o_10, o_11, o_12, o_13, o_14, o_15, o_16])), (t0, .inr (9, [k_0, k_1, k_2, k_3, k_4, k_5, k_6, k_7, .int hea, .int ho]))] sz) ((fun u => [(o0, .inr (11, [.ref t0, o_1, o_2, o_3, o_4, o_5, o_6, o_7, o_8, o_9, o_10, o_11, o_12, o_13, o_14, o_15, o_16])), (t0, .inr (9, [k_0, k_1, k_2, k_3, k_4, k_5, k_6, k_7, .int 0, .int 0]))]) u) t) (va_A [(o0, .inr (11, [.ref t0, o_1, o_2, o_3, o_4, o_5, o_6, o_7, o_8, o_9, o_10, o_11, o_12, o_13, o_14, o_15, o_16])), (t0, .inr (9, [k_0, k_1, k_2, k_3, k_4, k_5, k_6, k_7, .int hea, .int ho]))] sz)) 0 0 (va_A [(o0, .inr (11, [.ref t0, o_1, o_2, o_3, o_4, o_5, o_6, o_7, o_8, o_9, o_10, o_11, o_12, o_13, o_14, o_15, o_16])), (t0, .inr (9, [k_0, k_1, k_2, k_3, k_4, k_5, k_6, k_7, .int hea, .int ho]))] sz) := by
  refine Met.ofW (cc := cX11_forget) (maxL := 2) (ret := (some .int)) (by decide +kernel) rfl ?_
  intro p e s m args below meth c s₁ B hml hv
  obtain ⟨rfl, hsz, hP, hK, hD0, hN⟩ := hv
  have hx := B.exec
  have hb := B.bytes
  have hr := B.returns
  have hts := atoms_spec (ws := wsX11_forget) B.pre
  have hown : s.vm.findClass RX11 = some m.cls := findClass_of_methodNamed B.named
  have hlocks := B.notSynchronized
  subst hsz
  have hD := hD0.self (sz := s.heap.size)
  generalize hAe : va_A [(o0, .inr (11, [.ref t0, o_1, o_2, o_3, o_4, o_5, o_6, o_7, o_8, o_9, o_10, o_11, o_12, o_13, o_14, o_15, o_16])), (t0, .inr (9, [k_0, k_1, k_2, k_3, k_4, k_5, k_6, k_7, .int hea, .int ho]))] s.heap.size = A at hD ⊢
  have hA : ∀ q : Nat, s.heap.size ≤ q → A q := fun q h => by rw [← hAe]; exact Or.inr h
  clear hAe
  have hS : va_S A s.heap s.heap [] := va_S.rf
  replace hP : va_P D vwCl [(o0, .inr (11, [.ref t0, o_1, o_2, o_3, o_4, o_5, o_6, o_7, o_8, o_9, o_10, o_11, o_12, o_13, o_14, o_15, o_16])), (t0, .inr (9, [k_0, k_1, k_2, k_3, k_4, k_5, k_6, k_7, .int hea, .int ho]))] s.heap := hP
  have hl := lv_entry [.ref o0] (n := 2) (Nat.le_of_ble_eq_true rfl)
  rw [lg_entry_eq]
  generalize (lg_sl [.ref o0] ++ List.replicate (2 - (lg_sl [.ref o0]).length) Slot.unset).toArray = ls at hl ⊢
  have hl : lv_has ls 2 [(0, .ref o0)] := hl
  have hw9 : ∀ w ∈ wsX90, w ∈ wsX11_forget := fun w h => (List.mem_cons_of_mem _ (List.mem_append_right _ h))
  have hw11 : ∀ w ∈ wsX110, w ∈ wsX11_forget := fun w h => (List.mem_cons_of_mem _ (List.mem_append_left _ (List.mem_append_right _ h)))
  generalize hQ : MQ below _ _ s _ _ _ = Q
  have hE := E_w_forget.eq_def hea ho
  refine lv_aload_n hx hb dX11_forget_0 rfl (lv_at hl 0 rfl) ?_
  refine va_get (ci := 11) (v := .ref t0) (C := RX11) (T := TX11) (N := 17) hx hb hts hw11 hown hK hP 0 rfl rfl 0 (by decide +kernel) (hts _ mm_X11_forget_334) (fun _ h9 => h9) rfl dX11_forget_1 ?_
  refine va_getN (ci := 9) (v := .int hea) (C := RX9) (T := TX9) (N := 10) hx hb hts hw9 hown hK hP 1 rfl rfl 8 (by decide +kernel) (nst_use hN 116 rfl) (fun _ h9 => h9) rfl dX11_forget_4 ?_
  refine lv_istore_n (lv' := [(1, .int hea), (0, .ref o0)]) hx hb dX11_forget_7 rfl hl (by decide +kernel) rfl (fun ls hl => ?_)
  refine lv_aload_n hx hb dX11_forget_8 rfl (lv_at hl 1 rfl) ?_
  refine va_get (ci := 11) (v := .ref t0) (C := RX11) (T := TX11) (N := 17) hx hb hts hw11 hown hK hP 0 rfl rfl 0 (by decide +kernel) (hts _ mm_X11_forget_334) (fun _ h9 => h9) rfl dX11_forget_9 ?_
  refine lv_iconst (v := 0) hx hb dX11_forget_12 (by decide +kernel) ?_
  refine va_putN (ci := 9) (v := .int 0) (ty := .int) (C := RX9) (T := TX9) (N := 10) hx hb hts hw9 tyX9 tyX9_ok nmX9 hown hK hP hD hS 1 rfl rfl 8 (by decide +kernel) (nst_use hN 116 rfl) (fun _ h9 => h9) rfl (by decide +kernel) (by first | rfl | decide) (by first | rfl | decide) (Nat.le_of_ble_eq_true rfl) dX11_forget_13 (fun H locs hP0 hD0 hS0 => ?_)
  clear hP hD hS
  have hP := hP0
  have hD := hD0
  have hS := hS0
  clear hP0 hD0 hS0
  replace hP : va_P D vwCl [(o0, .inr (11, [.ref t0, o_1, o_2, o_3, o_4, o_5, o_6, o_7, o_8, o_9, o_10, o_11, o_12, o_13, o_14, o_15, o_16])), (t0, .inr (9, [k_0, k_1, k_2, k_3, k_4, k_5, k_6, k_7, .int 0, .int ho]))] H := hP
  replace hD : va_D A [(o0, .inr (11, [.ref t0, o_1, o_2, o_3, o_4, o_5, o_6, o_7, o_8, o_9, o_10, o_11, o_12, o_13, o_14, o_15, o_16])), (t0, .inr (9, [k_0, k_1, k_2, k_3, k_4, k_5, k_6, k_7, .int 0, .int ho]))] := hD
  refine lv_aload_n hx hb dX11_forget_16 rfl (lv_at hl 1 rfl) ?_
  refine va_get (ci := 11) (v := .ref t0) (C := RX11) (T := TX11) (N := 17) hx hb hts hw11 hown hK hP 0 rfl rfl 0 (by decide +kernel) (hts _ mm_X11_forget_334) (fun _ h9 => h9) rfl dX11_forget_17 ?_
  refine lv_iconst (v := 0) hx hb dX11_forget_20 (by decide +kernel) ?_
  refine va_putN (ci := 9) (v := .int 0) (ty := .int) (C := RX9) (T := TX9) (N := 10) hx hb hts hw9 tyX9 tyX9_ok nmX9 hown hK hP hD hS 1 rfl rfl 9 (by decide +kernel) (nst_use hN 118 rfl) (fun _ h9 => h9) rfl (by decide +kernel) (by first | rfl | decide) (by first | rfl | decide) (Nat.le_of_ble_eq_true rfl) dX11_forget_21 (fun H locs hP0 hD0 hS0 => ?_)
  clear hP hD hS
  have hP := hP0
  have hD := hD0
  have hS := hS0
  clear hP0 hD0 hS0
  replace hP : va_P D vwCl [(o0, .inr (11, [.ref t0, o_1, o_2, o_3, o_4, o_5, o_6, o_7, o_8, o_9, o_10, o_11, o_12, o_13, o_14, o_15, o_16])), (t0, .inr (9, [k_0, k_1, k_2, k_3, k_4, k_5, k_6, k_7, .int 0, .int 0]))] H := hP
  replace hD : va_D A [(o0, .inr (11, [.ref t0, o_1, o_2, o_3, o_4, o_5, o_6, o_7, o_8, o_9, o_10, o_11, o_12, o_13, o_14, o_15, o_16])), (t0, .inr (9, [k_0, k_1, k_2, k_3, k_4, k_5, k_6, k_7, .int 0, .int 0]))] := hD
  refine lv_iload_n hx hb dX11_forget_24 rfl (lv_at hl 0 rfl) ?_
  rw [← hQ]
  have hP9 := hP.sub (ws' := [(o0, .inr (11, [.ref t0, o_1, o_2, o_3, o_4, o_5, o_6, o_7, o_8, o_9, o_10, o_11, o_12, o_13, o_14, o_15, o_16])), (t0, .inr (9, [k_0, k_1, k_2, k_3, k_4, k_5, k_6, k_7, .int 0, .int 0]))]) [0, 1] rfl
  have hD9 := hD.sub (ws' := [(o0, .inr (11, [.ref t0, o_1, o_2, o_3, o_4, o_5, o_6, o_7, o_8, o_9, o_10, o_11, o_12, o_13, o_14, o_15, o_16])), (t0, .inr (9, [k_0, k_1, k_2, k_3, k_4, k_5, k_6, k_7, .int 0, .int 0]))]) [0, 1] (by decide +kernel) rfl
  exact W.iret (v := hea) hx hb hr (fun t ht hW => ⟨⟨hea, ((fun _ => 0, fun _ => fun _ => 0, fun _ => fun _ => 0, fun _ => 0, fun _ => 0, fun _ => fun _ => none) : Su), rfl, ⟨(show 0 ≤ hea.toInt ∧ hea.toInt ≤ 6 by omega), hE.symm, trivial⟩, (⟨by rw [ht]; exact hP9, hD9⟩ : Wd D A _ t)⟩, hS.F ht⟩) hS.2.2 dX11_forget_25
set_option maxRecDepth 100000 in
noncomputable def E_w_hill (x : Int32) (fs : Nat → Int32) (n : Int32) (ho : Int32) (f1 : Nat → Int32) (f2 : Nat → Int32) : Int32 × (Nat → Int32) :=
  Lt2 (E_w_hillSet x fs n ho f1 f2) (fun r_67 u_68_2_1_0 => ((r_67, u_68_2_1_0) : Int32 × (Nat → Int32)))
set_option maxHeartbeats 4000000 in
set_option maxRecDepth 100000 in
theorem w_hill (l : Launch) (D : va_G) (K : Nat → ClassId) (o0 : Nat) (x : Int32) (t0 : Nat) (o_1 : Value) (o_2 : Value) (o_3 : Value) (o_4 : Value) (o_5 : Value) (o_6 : Value) (o_7 : Value) (o_8 : Value) (o_9 : Value) (o_10 : Value) (p0 : Nat) (o_12 : Value) (o_13 : Value) (o_14 : Value) (o_15 : Value) (o_16 : Value) (p1 : Nat) (p2 : Nat) (p3 : Nat) (p4 : Nat) (p5 : Nat) (fs : Nat → Int32) (t1 : Nat) (k_1 : Value) (t2 : Nat) (k_3 : Value) (n : Int32) (k_5 : Value) (k_6 : Value) (k_7 : Value) (k_8 : Value) (ho : Int32) (f1 : Nat → Int32) (f2 : Nat → Int32) (sz : Nat) (zn : 0 ≤ n.toInt ∧ n.toInt ≤ 8) : Met l yX11_hill wsX11_hill ({ frames := 3, cells := 0, slots := 0, locals := 72 }) (va_Pc [.ref o0, .int x] (Pre D K [(o0, .inr (11, [.ref t0, o_1, o_2, o_3, o_4, o_5, o_6, o_7, o_8, o_9, o_10, .ref p0, o_12, o_13, o_14, o_15, o_16])), (p0, .inr (4, [.ref p1, .ref p2, .ref p3, .ref p4, .ref p5])), (p5, .inl (K 0, 256, .inl fs)), (t0, .inr (9, [.ref t1, k_1, .ref t2, k_3, .int n, k_5, k_6, k_7, k_8, .int ho])), (t1, .inl (K 0, 56, .inl f1)), (t2, .inl (K 0, 6, .inl f2))] sz)) (va_Qi (S := Su) (fun (r : Int32) (u : Su) => ((r, (u.2.1 0)) = E_w_hill x fs n ho f1 f2) ∧ True) (fun u t => Wd D (va_A [(o0, .inr (11, [.ref t0, o_1, o_2, o_3, o_4, o_5, o_6, o_7, o_8, o_9, o_10, .ref p0, o_12, o_13, o_14, o_15, o_16])), (p0, .inr (4, [.ref p1, .ref p2, .ref p3, .ref p4, .ref p5])), (p5, .inl (K 0, 256, .inl fs)), (t0, .inr (9, [.ref t1, k_1, .ref t2, k_3, .int n, k_5, k_6, k_7, k_8, .int ho])), (t1, .inl (K 0, 56, .inl f1)), (t2, .inl (K 0, 6, .inl f2))] sz) ((fun u => [(o0, .inr (11, [.ref t0, o_1, o_2, o_3, o_4, o_5, o_6, o_7, o_8, o_9, o_10, .ref p0, o_12, o_13, o_14, o_15, o_16])), (p0, .inr (4, [.ref p1, .ref p2, .ref p3, .ref p4, .ref p5])), (p5, .inl (K 0, 256, .inl (u.2.1 0))), (t0, .inr (9, [.ref t1, k_1, .ref t2, k_3, .int n, k_5, k_6, k_7, k_8, .int ho])), (t1, .inl (K 0, 56, .inl f1)), (t2, .inl (K 0, 6, .inl f2))]) u) t) (va_A [(o0, .inr (11, [.ref t0, o_1, o_2, o_3, o_4, o_5, o_6, o_7, o_8, o_9, o_10, .ref p0, o_12, o_13, o_14, o_15, o_16])), (p0, .inr (4, [.ref p1, .ref p2, .ref p3, .ref p4, .ref p5])), (p5, .inl (K 0, 256, .inl fs)), (t0, .inr (9, [.ref t1, k_1, .ref t2, k_3, .int n, k_5, k_6, k_7, k_8, .int ho])), (t1, .inl (K 0, 56, .inl f1)), (t2, .inl (K 0, 6, .inl f2))] sz)) 0 0 (va_A [(o0, .inr (11, [.ref t0, o_1, o_2, o_3, o_4, o_5, o_6, o_7, o_8, o_9, o_10, .ref p0, o_12, o_13, o_14, o_15, o_16])), (p0, .inr (4, [.ref p1, .ref p2, .ref p3, .ref p4, .ref p5])), (p5, .inl (K 0, 256, .inl fs)), (t0, .inr (9, [.ref t1, k_1, .ref t2, k_3, .int n, k_5, k_6, k_7, k_8, .int ho])), (t1, .inl (K 0, 56, .inl f1)), (t2, .inl (K 0, 6, .inl f2))] sz) := by
  refine Met.ofW (cc := cX11_hill) (maxL := 2) (ret := (some .int)) (by decide +kernel) rfl ?_
  intro p e s m args below meth c s₁ B hml hv
  obtain ⟨rfl, hsz, hP, hK, hD0, hN⟩ := hv
  have hx := B.exec
  have hb := B.bytes
  have hr := B.returns
  have hts := atoms_spec (ws := wsX11_hill) B.pre
  have hown : s.vm.findClass RX11 = some m.cls := findClass_of_methodNamed B.named
  have hlocks := B.notSynchronized
  subst hsz
  have hD := hD0.self (sz := s.heap.size)
  generalize hAe : va_A [(o0, .inr (11, [.ref t0, o_1, o_2, o_3, o_4, o_5, o_6, o_7, o_8, o_9, o_10, .ref p0, o_12, o_13, o_14, o_15, o_16])), (p0, .inr (4, [.ref p1, .ref p2, .ref p3, .ref p4, .ref p5])), (p5, .inl (K 0, 256, .inl fs)), (t0, .inr (9, [.ref t1, k_1, .ref t2, k_3, .int n, k_5, k_6, k_7, k_8, .int ho])), (t1, .inl (K 0, 56, .inl f1)), (t2, .inl (K 0, 6, .inl f2))] s.heap.size = A at hD ⊢
  have hA : ∀ q : Nat, s.heap.size ≤ q → A q := fun q h => by rw [← hAe]; exact Or.inr h
  clear hAe
  have hS : va_S A s.heap s.heap [] := va_S.rf
  replace hP : va_P D vwCl [(o0, .inr (11, [.ref t0, o_1, o_2, o_3, o_4, o_5, o_6, o_7, o_8, o_9, o_10, .ref p0, o_12, o_13, o_14, o_15, o_16])), (p0, .inr (4, [.ref p1, .ref p2, .ref p3, .ref p4, .ref p5])), (p5, .inl (K 0, 256, .inl fs)), (t0, .inr (9, [.ref t1, k_1, .ref t2, k_3, .int n, k_5, k_6, k_7, k_8, .int ho])), (t1, .inl (K 0, 56, .inl f1)), (t2, .inl (K 0, 6, .inl f2))] s.heap := hP
  have hl := lv_entry [.ref o0, .int x] (n := 2) (Nat.le_of_ble_eq_true rfl)
  rw [lg_entry_eq]
  generalize (lg_sl [.ref o0, .int x] ++ List.replicate (2 - (lg_sl [.ref o0, .int x]).length) Slot.unset).toArray = ls at hl ⊢
  have hl : lv_has ls 2 [(0, .ref o0), (1, .int x)] := hl
  have hw4 : ∀ w ∈ wsX40, w ∈ wsX11_hill := fun w h => (List.mem_cons_of_mem _ (List.mem_append_left _ (List.mem_append_right _ h)))
  have hw9 : ∀ w ∈ wsX90, w ∈ wsX11_hill := fun w h => (List.mem_cons_of_mem _ (List.mem_append_right _ h))
  have hw11 : ∀ w ∈ wsX110, w ∈ wsX11_hill := fun w h => (List.mem_cons_of_mem _ (List.mem_append_left _ (List.mem_append_left _ (List.mem_append_right _ h))))
  generalize hQ : MQ below _ _ s _ _ _ = Q
  have hE := E_w_hill.eq_def x fs n ho f1 f2
  refine lv_aload_n hx hb dX11_hill_0 rfl (lv_at hl 0 rfl) ?_
  refine va_get (ci := 11) (v := .ref p0) (C := RX11) (T := TX11) (N := 17) hx hb hts hw11 hown hK hP 0 rfl rfl 11 (by decide +kernel) (hts _ mm_X11_hill_345) (fun _ h9 => h9) rfl dX11_hill_1 ?_
  refine lv_aload_n hx hb dX11_hill_4 rfl (lv_at hl 0 rfl) ?_
  refine va_get (ci := 11) (v := .ref t0) (C := RX11) (T := TX11) (N := 17) hx hb hts hw11 hown hK hP 0 rfl rfl 0 (by decide +kernel) (hts _ mm_X11_hill_334) (fun _ h9 => h9) rfl dX11_hill_5 ?_
  refine lv_iload_n hx hb dX11_hill_8 rfl (lv_at hl 1 rfl) ?_
  refine kci (S := Su) (wr := [(o0, .inr (11, [.ref t0, o_1, o_2, o_3, o_4, o_5, o_6, o_7, o_8, o_9, o_10, .ref p0, o_12, o_13, o_14, o_15, o_16]))]) (va_runVN (As := [.ref t0, .int x]) (rest := []) ⟨hx, hb, hml, hown, hts⟩ (w_hillSet l D K p0 t0 x p1 p2 p3 p4 p5 fs t1 k_1 t2 k_3 n k_5 k_6 k_7 k_8 ho f1 f2 s.heap.size (by first | omega | decide)) ⟨va_cnB 2 hts gX11_hill_X4_hillSet_n264 rfl rfl rfl (nst_at hN 88 rfl) (hts _ mm_X11_hill_155) (by decide +kernel) ⟨Nat.le_of_ble_eq_true rfl, Nat.le_of_ble_eq_true rfl⟩, (hts _ mm_X11_hill_740), (hts _ mm_X11_hill_66)⟩ (mkV hK hN (hP.sub [1, 2, 3, 4, 5] rfl) (hD.sub [1, 2, 3, 4, 5] (by decide +kernel) rfl) (ci := 4) (q0 := 0) rfl rfl) rfl rfl hl.1 rfl (lv_room (Nat.le_of_ble_eq_true rfl)) dX11_hill_9 ⟨Nat.le_of_ble_eq_true rfl, Nat.le_of_ble_eq_true rfl⟩) hP hD hS hA [1, 2, 3, 4, 5] [0] rfl rfl (by decide +kernel) (by decide +kernel) (fun r_67 u_68 H locs hw hP0 hD0 hS0 => ?_)
  clear hP hD hS
  have hP := hP0
  have hD := hD0
  have hS := hS0
  clear hP0 hD0 hS0
  replace hP : va_P D vwCl [(o0, .inr (11, [.ref t0, o_1, o_2, o_3, o_4, o_5, o_6, o_7, o_8, o_9, o_10, .ref p0, o_12, o_13, o_14, o_15, o_16])), (p0, .inr (4, [.ref p1, .ref p2, .ref p3, .ref p4, .ref p5])), (p5, .inl (K 0, 256, .inl (u_68.2.1 0))), (t0, .inr (9, [.ref t1, k_1, .ref t2, k_3, .int n, k_5, k_6, k_7, k_8, .int ho])), (t1, .inl (K 0, 56, .inl f1)), (t2, .inl (K 0, 6, .inl f2))] H := hP
  replace hD : va_D A [(o0, .inr (11, [.ref t0, o_1, o_2, o_3, o_4, o_5, o_6, o_7, o_8, o_9, o_10, .ref p0, o_12, o_13, o_14, o_15, o_16])), (p0, .inr (4, [.ref p1, .ref p2, .ref p3, .ref p4, .ref p5])), (p5, .inl (K 0, 256, .inl (u_68.2.1 0))), (t0, .inr (9, [.ref t1, k_1, .ref t2, k_3, .int n, k_5, k_6, k_7, k_8, .int ho])), (t1, .inl (K 0, 56, .inl f1)), (t2, .inl (K 0, 6, .inl f2))] := hD
  obtain ⟨k_69, -⟩ := hw
  replace hE := hE.trans (Lt2_in k_69)
  rw [← hQ]
  have hP9 := hP.sub (ws' := [(o0, .inr (11, [.ref t0, o_1, o_2, o_3, o_4, o_5, o_6, o_7, o_8, o_9, o_10, .ref p0, o_12, o_13, o_14, o_15, o_16])), (p0, .inr (4, [.ref p1, .ref p2, .ref p3, .ref p4, .ref p5])), (p5, .inl (K 0, 256, .inl (u_68.2.1 0))), (t0, .inr (9, [.ref t1, k_1, .ref t2, k_3, .int n, k_5, k_6, k_7, k_8, .int ho])), (t1, .inl (K 0, 56, .inl f1)), (t2, .inl (K 0, 6, .inl f2))]) [0, 1, 2, 3, 4, 5] rfl
  have hD9 := hD.sub (ws' := [(o0, .inr (11, [.ref t0, o_1, o_2, o_3, o_4, o_5, o_6, o_7, o_8, o_9, o_10, .ref p0, o_12, o_13, o_14, o_15, o_16])), (p0, .inr (4, [.ref p1, .ref p2, .ref p3, .ref p4, .ref p5])), (p5, .inl (K 0, 256, .inl (u_68.2.1 0))), (t0, .inr (9, [.ref t1, k_1, .ref t2, k_3, .int n, k_5, k_6, k_7, k_8, .int ho])), (t1, .inl (K 0, 56, .inl f1)), (t2, .inl (K 0, 6, .inl f2))]) [0, 1, 2, 3, 4, 5] (by decide +kernel) rfl
  exact W.iret (v := r_67) hx hb hr (fun t ht hW => ⟨⟨r_67, ((fun _ => 0, fun i => match i with | _ => (u_68.2.1 0), fun _ => fun _ => 0, fun _ => 0, fun _ => 0, fun _ => fun _ => none) : Su), rfl, ⟨hE.symm, trivial⟩, (⟨by rw [ht]; exact hP9, hD9⟩ : Wd D A _ t)⟩, hS.F ht⟩) hS.2.2 dX11_hill_12
set_option maxRecDepth 100000 in
noncomputable def E_w_ask (x : Int32) (fs : Nat → Int32) (n : Int32) (ho : Int32) (f1 : Nat → Int32) (f2 : Nat → Int32) : Int32 × (Nat → Int32) :=
  Lt (E_w_within x 0 1) (fun r_81 => if r_81 = 1 then (Lt2 (E_w_question x fs n ho f1 f2) (fun r_87 u_88_2_1_0 => ((r_87, u_88_2_1_0) : Int32 × (Nat → Int32)))) else ((((-1), fs) : Int32 × (Nat → Int32))))
set_option maxHeartbeats 4000000 in
set_option maxRecDepth 100000 in
theorem w_ask (l : Launch) (D : va_G) (K : Nat → ClassId) (o0 : Nat) (x : Int32) (t0 : Nat) (o_1 : Value) (o_2 : Value) (o_3 : Value) (o_4 : Value) (o_5 : Value) (o_6 : Value) (o_7 : Value) (o_8 : Value) (o_9 : Value) (o_10 : Value) (p0 : Nat) (o_12 : Value) (o_13 : Value) (o_14 : Value) (o_15 : Value) (o_16 : Value) (p1 : Nat) (p2 : Nat) (p3 : Nat) (p4 : Nat) (p5 : Nat) (fs : Nat → Int32) (t1 : Nat) (k_1 : Value) (t2 : Nat) (k_3 : Value) (n : Int32) (k_5 : Value) (k_6 : Value) (k_7 : Value) (k_8 : Value) (ho : Int32) (f1 : Nat → Int32) (f2 : Nat → Int32) (sz : Nat) (zn : 0 ≤ n.toInt ∧ n.toInt ≤ 8) : Met l yX11_ask wsX11_ask ({ frames := 4, cells := 0, slots := 0, locals := 100 }) (va_Pc [.ref o0, .int x] (Pre D K [(o0, .inr (11, [.ref t0, o_1, o_2, o_3, o_4, o_5, o_6, o_7, o_8, o_9, o_10, .ref p0, o_12, o_13, o_14, o_15, o_16])), (p0, .inr (4, [.ref p1, .ref p2, .ref p3, .ref p4, .ref p5])), (p5, .inl (K 0, 256, .inl fs)), (t0, .inr (9, [.ref t1, k_1, .ref t2, k_3, .int n, k_5, k_6, k_7, k_8, .int ho])), (t1, .inl (K 0, 56, .inl f1)), (t2, .inl (K 0, 6, .inl f2))] sz)) (va_Qi (S := Su) (fun (r : Int32) (u : Su) => ((r, (u.2.1 0)) = E_w_ask x fs n ho f1 f2) ∧ True) (fun u t => Wd D (va_A [(o0, .inr (11, [.ref t0, o_1, o_2, o_3, o_4, o_5, o_6, o_7, o_8, o_9, o_10, .ref p0, o_12, o_13, o_14, o_15, o_16])), (p0, .inr (4, [.ref p1, .ref p2, .ref p3, .ref p4, .ref p5])), (p5, .inl (K 0, 256, .inl fs)), (t0, .inr (9, [.ref t1, k_1, .ref t2, k_3, .int n, k_5, k_6, k_7, k_8, .int ho])), (t1, .inl (K 0, 56, .inl f1)), (t2, .inl (K 0, 6, .inl f2))] sz) ((fun u => [(o0, .inr (11, [.ref t0, o_1, o_2, o_3, o_4, o_5, o_6, o_7, o_8, o_9, o_10, .ref p0, o_12, o_13, o_14, o_15, o_16])), (p0, .inr (4, [.ref p1, .ref p2, .ref p3, .ref p4, .ref p5])), (p5, .inl (K 0, 256, .inl (u.2.1 0))), (t0, .inr (9, [.ref t1, k_1, .ref t2, k_3, .int n, k_5, k_6, k_7, k_8, .int ho])), (t1, .inl (K 0, 56, .inl f1)), (t2, .inl (K 0, 6, .inl f2))]) u) t) (va_A [(o0, .inr (11, [.ref t0, o_1, o_2, o_3, o_4, o_5, o_6, o_7, o_8, o_9, o_10, .ref p0, o_12, o_13, o_14, o_15, o_16])), (p0, .inr (4, [.ref p1, .ref p2, .ref p3, .ref p4, .ref p5])), (p5, .inl (K 0, 256, .inl fs)), (t0, .inr (9, [.ref t1, k_1, .ref t2, k_3, .int n, k_5, k_6, k_7, k_8, .int ho])), (t1, .inl (K 0, 56, .inl f1)), (t2, .inl (K 0, 6, .inl f2))] sz)) 0 0 (va_A [(o0, .inr (11, [.ref t0, o_1, o_2, o_3, o_4, o_5, o_6, o_7, o_8, o_9, o_10, .ref p0, o_12, o_13, o_14, o_15, o_16])), (p0, .inr (4, [.ref p1, .ref p2, .ref p3, .ref p4, .ref p5])), (p5, .inl (K 0, 256, .inl fs)), (t0, .inr (9, [.ref t1, k_1, .ref t2, k_3, .int n, k_5, k_6, k_7, k_8, .int ho])), (t1, .inl (K 0, 56, .inl f1)), (t2, .inl (K 0, 6, .inl f2))] sz) := by
  refine Met.ofW (cc := cX11_ask) (maxL := 2) (ret := (some .int)) (by decide +kernel) rfl ?_
  intro p e s m args below meth c s₁ B hml hv
  obtain ⟨rfl, hsz, hP, hK, hD0, hN⟩ := hv
  have hx := B.exec
  have hb := B.bytes
  have hr := B.returns
  have hts := atoms_spec (ws := wsX11_ask) B.pre
  have hown : s.vm.findClass RX11 = some m.cls := findClass_of_methodNamed B.named
  have hlocks := B.notSynchronized
  subst hsz
  have hD := hD0.self (sz := s.heap.size)
  generalize hAe : va_A [(o0, .inr (11, [.ref t0, o_1, o_2, o_3, o_4, o_5, o_6, o_7, o_8, o_9, o_10, .ref p0, o_12, o_13, o_14, o_15, o_16])), (p0, .inr (4, [.ref p1, .ref p2, .ref p3, .ref p4, .ref p5])), (p5, .inl (K 0, 256, .inl fs)), (t0, .inr (9, [.ref t1, k_1, .ref t2, k_3, .int n, k_5, k_6, k_7, k_8, .int ho])), (t1, .inl (K 0, 56, .inl f1)), (t2, .inl (K 0, 6, .inl f2))] s.heap.size = A at hD ⊢
  have hA : ∀ q : Nat, s.heap.size ≤ q → A q := fun q h => by rw [← hAe]; exact Or.inr h
  clear hAe
  have hS : va_S A s.heap s.heap [] := va_S.rf
  replace hP : va_P D vwCl [(o0, .inr (11, [.ref t0, o_1, o_2, o_3, o_4, o_5, o_6, o_7, o_8, o_9, o_10, .ref p0, o_12, o_13, o_14, o_15, o_16])), (p0, .inr (4, [.ref p1, .ref p2, .ref p3, .ref p4, .ref p5])), (p5, .inl (K 0, 256, .inl fs)), (t0, .inr (9, [.ref t1, k_1, .ref t2, k_3, .int n, k_5, k_6, k_7, k_8, .int ho])), (t1, .inl (K 0, 56, .inl f1)), (t2, .inl (K 0, 6, .inl f2))] s.heap := hP
  have hl := lv_entry [.ref o0, .int x] (n := 2) (Nat.le_of_ble_eq_true rfl)
  rw [lg_entry_eq]
  generalize (lg_sl [.ref o0, .int x] ++ List.replicate (2 - (lg_sl [.ref o0, .int x]).length) Slot.unset).toArray = ls at hl ⊢
  have hl : lv_has ls 2 [(0, .ref o0), (1, .int x)] := hl
  have hw4 : ∀ w ∈ wsX40, w ∈ wsX11_ask := fun w h => (List.mem_cons_of_mem _ (List.mem_append_right _ h))
  have hw9 : ∀ w ∈ wsX90, w ∈ wsX11_ask := fun w h => (List.mem_cons_of_mem _ (List.mem_append_left _ (List.mem_append_right _ h)))
  have hw11 : ∀ w ∈ wsX110, w ∈ wsX11_ask := fun w h => (List.mem_cons_of_mem _ (List.mem_append_left _ (List.mem_append_left _ (List.mem_append_right _ h))))
  generalize hQ : MQ below _ _ s _ _ _ = Q
  have hE := E_w_ask.eq_def x fs n ho f1 f2
  refine lv_iload_n hx hb dX11_ask_0 rfl (lv_at hl 1 rfl) ?_
  refine lv_iconst (v := 0) hx hb dX11_ask_1 (by decide +kernel) ?_
  refine lv_iconst (v := 1) hx hb dX11_ask_2 (by decide +kernel) ?_
  refine pci (va_runS (As := [.int x, .int 0, .int 1]) (rest := []) ⟨hx, hb, hml, hown, hts⟩ (w_within l D K x.toInt 0 1 x 0 1 s.heap.size rfl (show (0 : Int32).toInt = 0 from rfl) (show (1 : Int32).toInt = 1 from rfl)) (va_cwS 3 hts gX11_ask_X11_within rfl rfl rfl (by decide +kernel) ⟨Nat.le_of_ble_eq_true rfl, Nat.le_of_ble_eq_true rfl⟩) (mkS hK hN (va_P.nil) (va_D.nil (A := fun _ => True))) rfl rfl hl.1 rfl (lv_room (Nat.le_of_ble_eq_true rfl)) dX11_ask_3 ⟨Nat.le_of_ble_eq_true rfl, Nat.le_of_ble_eq_true rfl⟩) (fun r_81 hw => ?_)
  obtain ⟨hw, k_82, -⟩ := hw
  replace hE := hE.trans (Lt_in k_82)
  rcases hw with ⟨rfl, h_83, h_84⟩ | ⟨rfl, h_85⟩
  · replace hE := (hE).trans (if_pos rfl)
    refine lv_if_eq (tgt := 24) hx hb dX11_ask_6 (by decide +kernel) (fun c_86 => absurd c_86 (by decide +kernel)) (fun c_86 => ?_)
    refine lv_aload_n hx hb dX11_ask_9 rfl (lv_at hl 0 rfl) ?_
    refine va_get (ci := 11) (v := .ref p0) (C := RX11) (T := TX11) (N := 17) hx hb hts hw11 hown hK hP 0 rfl rfl 11 (by decide +kernel) (hts _ mm_X11_ask_345) (fun _ h9 => h9) rfl dX11_ask_10 ?_
    refine lv_aload_n hx hb dX11_ask_13 rfl (lv_at hl 0 rfl) ?_
    refine va_get (ci := 11) (v := .ref t0) (C := RX11) (T := TX11) (N := 17) hx hb hts hw11 hown hK hP 0 rfl rfl 0 (by decide +kernel) (hts _ mm_X11_ask_334) (fun _ h9 => h9) rfl dX11_ask_14 ?_
    refine lv_iload_n hx hb dX11_ask_17 rfl (lv_at hl 1 rfl) ?_
    refine kci (S := Su) (wr := [(o0, .inr (11, [.ref t0, o_1, o_2, o_3, o_4, o_5, o_6, o_7, o_8, o_9, o_10, .ref p0, o_12, o_13, o_14, o_15, o_16]))]) (va_runVN (As := [.ref t0, .int x]) (rest := []) ⟨hx, hb, hml, hown, hts⟩ (w_question l D K p0 t0 x p1 p2 p3 p4 p5 fs t1 k_1 t2 k_3 n k_5 k_6 k_7 k_8 ho f1 f2 s.heap.size (by first | omega | decide)) ⟨va_cnB 2 hts gX11_ask_X4_question_n267 rfl rfl rfl (nst_at hN 89 rfl) (hts _ mm_X11_ask_155) (by decide +kernel) ⟨Nat.le_of_ble_eq_true rfl, Nat.le_of_ble_eq_true rfl⟩, (hts _ mm_X11_ask_749), (hts _ mm_X11_ask_68)⟩ (mkV hK hN (hP.sub [1, 2, 3, 4, 5] rfl) (hD.sub [1, 2, 3, 4, 5] (by decide +kernel) rfl) (ci := 4) (q0 := 0) rfl rfl) rfl rfl hl.1 rfl (lv_room (Nat.le_of_ble_eq_true rfl)) dX11_ask_18 ⟨Nat.le_of_ble_eq_true rfl, Nat.le_of_ble_eq_true rfl⟩) hP hD hS hA [1, 2, 3, 4, 5] [0] rfl rfl (by decide +kernel) (by decide +kernel) (fun r_87 u_88 H locs hw hP0 hD0 hS0 => ?_)
    clear hP hD hS
    have hP := hP0
    have hD := hD0
    have hS := hS0
    clear hP0 hD0 hS0
    replace hP : va_P D vwCl [(o0, .inr (11, [.ref t0, o_1, o_2, o_3, o_4, o_5, o_6, o_7, o_8, o_9, o_10, .ref p0, o_12, o_13, o_14, o_15, o_16])), (p0, .inr (4, [.ref p1, .ref p2, .ref p3, .ref p4, .ref p5])), (p5, .inl (K 0, 256, .inl (u_88.2.1 0))), (t0, .inr (9, [.ref t1, k_1, .ref t2, k_3, .int n, k_5, k_6, k_7, k_8, .int ho])), (t1, .inl (K 0, 56, .inl f1)), (t2, .inl (K 0, 6, .inl f2))] H := hP
    replace hD : va_D A [(o0, .inr (11, [.ref t0, o_1, o_2, o_3, o_4, o_5, o_6, o_7, o_8, o_9, o_10, .ref p0, o_12, o_13, o_14, o_15, o_16])), (p0, .inr (4, [.ref p1, .ref p2, .ref p3, .ref p4, .ref p5])), (p5, .inl (K 0, 256, .inl (u_88.2.1 0))), (t0, .inr (9, [.ref t1, k_1, .ref t2, k_3, .int n, k_5, k_6, k_7, k_8, .int ho])), (t1, .inl (K 0, 56, .inl f1)), (t2, .inl (K 0, 6, .inl f2))] := hD
    obtain ⟨k_89, -⟩ := hw
    replace hE := hE.trans (Lt2_in k_89)
    refine lv_goto (tgt := 25) hx hb dX11_ask_21 (by decide +kernel) ?_
    rw [← hQ]
    have hP9 := hP.sub (ws' := [(o0, .inr (11, [.ref t0, o_1, o_2, o_3, o_4, o_5, o_6, o_7, o_8, o_9, o_10, .ref p0, o_12, o_13, o_14, o_15, o_16])), (p0, .inr (4, [.ref p1, .ref p2, .ref p3, .ref p4, .ref p5])), (p5, .inl (K 0, 256, .inl (u_88.2.1 0))), (t0, .inr (9, [.ref t1, k_1, .ref t2, k_3, .int n, k_5, k_6, k_7, k_8, .int ho])), (t1, .inl (K 0, 56, .inl f1)), (t2, .inl (K 0, 6, .inl f2))]) [0, 1, 2, 3, 4, 5] rfl
    have hD9 := hD.sub (ws' := [(o0, .inr (11, [.ref t0, o_1, o_2, o_3, o_4, o_5, o_6, o_7, o_8, o_9, o_10, .ref p0, o_12, o_13, o_14, o_15, o_16])), (p0, .inr (4, [.ref p1, .ref p2, .ref p3, .ref p4, .ref p5])), (p5, .inl (K 0, 256, .inl (u_88.2.1 0))), (t0, .inr (9, [.ref t1, k_1, .ref t2, k_3, .int n, k_5, k_6, k_7, k_8, .int ho])), (t1, .inl (K 0, 56, .inl f1)), (t2, .inl (K 0, 6, .inl f2))]) [0, 1, 2, 3, 4, 5] (by decide +kernel) rfl
    exact W.iret (v := r_87) hx hb hr (fun t ht hW => ⟨⟨r_87, ((fun _ => 0, fun i => match i with | _ => (u_88.2.1 0), fun _ => fun _ => 0, fun _ => 0, fun _ => 0, fun _ => fun _ => none) : Su), rfl, ⟨hE.symm, trivial⟩, (⟨by rw [ht]; exact hP9, hD9⟩ : Wd D A _ t)⟩, hS.F ht⟩) hS.2.2 dX11_ask_25
  · replace hE := (hE).trans (if_neg (by first | decide | (intro h9; have h8 := congrArg Int32.toInt h9; omega)))
    refine lv_if_eq (tgt := 24) hx hb dX11_ask_6 (by decide +kernel) (fun c_90 => ?_) (fun c_90 => absurd (by decide +kernel) c_90)
    refine lv_iconst (v := (-1)) hx hb dX11_ask_24 (by decide +kernel) ?_
    rw [← hQ]
    have hP9 := hP.sub (ws' := [(o0, .inr (11, [.ref t0, o_1, o_2, o_3, o_4, o_5, o_6, o_7, o_8, o_9, o_10, .ref p0, o_12, o_13, o_14, o_15, o_16])), (p0, .inr (4, [.ref p1, .ref p2, .ref p3, .ref p4, .ref p5])), (p5, .inl (K 0, 256, .inl fs)), (t0, .inr (9, [.ref t1, k_1, .ref t2, k_3, .int n, k_5, k_6, k_7, k_8, .int ho])), (t1, .inl (K 0, 56, .inl f1)), (t2, .inl (K 0, 6, .inl f2))]) [0, 1, 2, 3, 4, 5] rfl
    have hD9 := hD.sub (ws' := [(o0, .inr (11, [.ref t0, o_1, o_2, o_3, o_4, o_5, o_6, o_7, o_8, o_9, o_10, .ref p0, o_12, o_13, o_14, o_15, o_16])), (p0, .inr (4, [.ref p1, .ref p2, .ref p3, .ref p4, .ref p5])), (p5, .inl (K 0, 256, .inl fs)), (t0, .inr (9, [.ref t1, k_1, .ref t2, k_3, .int n, k_5, k_6, k_7, k_8, .int ho])), (t1, .inl (K 0, 56, .inl f1)), (t2, .inl (K 0, 6, .inl f2))]) [0, 1, 2, 3, 4, 5] (by decide +kernel) rfl
    exact W.iret (v := (-1)) hx hb hr (fun t ht hW => ⟨⟨(-1), ((fun _ => 0, fun i => match i with | _ => fs, fun _ => fun _ => 0, fun _ => 0, fun _ => 0, fun _ => fun _ => none) : Su), rfl, ⟨hE.symm, trivial⟩, (⟨by rw [ht]; exact hP9, hD9⟩ : Wd D A _ t)⟩, hS.F ht⟩) hS.2.2 dX11_ask_25
set_option maxRecDepth 100000 in
noncomputable def E_w_chance (x : Int32) (n : Int32) (ho : Int32) (f1 : Nat → Int32) (f2 : Nat → Int32) : Int64 :=
  Lt (E_w_within x 0 127) (fun r_79 => if r_79 = 1 then (Lt (E_w_odds x n ho f1 f2) (fun r_85 => (r_85 : Int64))) else (((-1) : Int64)))
set_option maxHeartbeats 4000000 in
set_option maxRecDepth 100000 in
theorem w_chance (l : Launch) (D : va_G) (K : Nat → ClassId) (o0 : Nat) (x : Int32) (t0 : Nat) (o_1 : Value) (o_2 : Value) (o_3 : Value) (o_4 : Value) (o_5 : Value) (o_6 : Value) (o_7 : Value) (o_8 : Value) (o_9 : Value) (o_10 : Value) (p0 : Nat) (o_12 : Value) (o_13 : Value) (o_14 : Value) (o_15 : Value) (o_16 : Value) (p1 : Nat) (p2 : Nat) (p3 : Nat) (p4 : Nat) (p5 : Nat) (t1 : Nat) (k_1 : Value) (t2 : Nat) (k_3 : Value) (n : Int32) (k_5 : Value) (k_6 : Value) (k_7 : Value) (k_8 : Value) (ho : Int32) (f1 : Nat → Int32) (f2 : Nat → Int32) (sz : Nat) (zn : 0 ≤ n.toInt ∧ n.toInt ≤ 8) : Met l yX11_chance wsX11_chance ({ frames := 4, cells := 0, slots := 0, locals := 95 }) (va_Pc [.ref o0, .int x] (Pre D K [(o0, .inr (11, [.ref t0, o_1, o_2, o_3, o_4, o_5, o_6, o_7, o_8, o_9, o_10, .ref p0, o_12, o_13, o_14, o_15, o_16])), (p0, .inr (4, [.ref p1, .ref p2, .ref p3, .ref p4, .ref p5])), (t0, .inr (9, [.ref t1, k_1, .ref t2, k_3, .int n, k_5, k_6, k_7, k_8, .int ho])), (t1, .inl (K 0, 56, .inl f1)), (t2, .inl (K 0, 6, .inl f2))] sz)) (vp_Sl (fun r : Int64 => (r = E_w_chance x n ho f1 f2) ∧ True)) 0 0 (fun _ => False) := by
  refine Met.ofW (cc := cX11_chance) (maxL := 2) (ret := (some .long)) (by decide +kernel) rfl ?_
  intro p e s m args below meth c s₁ B hml hv
  obtain ⟨rfl, hsz, hP, hK, hD0, hN⟩ := hv
  have hx := B.exec
  have hb := B.bytes
  have hr := B.returns
  have hts := atoms_spec (ws := wsX11_chance) B.pre
  have hown : s.vm.findClass RX11 = some m.cls := findClass_of_methodNamed B.named
  have hlocks := B.notSynchronized
  subst hsz
  have hD := hD0
  replace hP : va_P D vwCl [(o0, .inr (11, [.ref t0, o_1, o_2, o_3, o_4, o_5, o_6, o_7, o_8, o_9, o_10, .ref p0, o_12, o_13, o_14, o_15, o_16])), (p0, .inr (4, [.ref p1, .ref p2, .ref p3, .ref p4, .ref p5])), (t0, .inr (9, [.ref t1, k_1, .ref t2, k_3, .int n, k_5, k_6, k_7, k_8, .int ho])), (t1, .inl (K 0, 56, .inl f1)), (t2, .inl (K 0, 6, .inl f2))] s.heap := hP
  have hl := lv_entry [.ref o0, .int x] (n := 2) (Nat.le_of_ble_eq_true rfl)
  rw [lg_entry_eq]
  generalize (lg_sl [.ref o0, .int x] ++ List.replicate (2 - (lg_sl [.ref o0, .int x]).length) Slot.unset).toArray = ls at hl ⊢
  have hl : lv_has ls 2 [(0, .ref o0), (1, .int x)] := hl
  have hw9 : ∀ w ∈ wsX90, w ∈ wsX11_chance := fun w h => (List.mem_cons_of_mem _ (List.mem_append_right _ h))
  have hw11 : ∀ w ∈ wsX110, w ∈ wsX11_chance := fun w h => (List.mem_cons_of_mem _ (List.mem_append_left _ (List.mem_append_right _ h)))
  generalize hQ : MQ below _ _ s _ _ _ = Q
  have hE := E_w_chance.eq_def x n ho f1 f2
  refine lv_iload_n hx hb dX11_chance_0 rfl (lv_at hl 1 rfl) ?_
  refine lv_iconst (v := 0) hx hb dX11_chance_1 (by decide +kernel) ?_
  refine lv_bipush (v := 127) hx hb dX11_chance_2 (by decide +kernel) ?_
  refine pci (va_runS (As := [.int x, .int 0, .int 127]) (rest := []) ⟨hx, hb, hml, hown, hts⟩ (w_within l D K x.toInt 0 127 x 0 127 s.heap.size rfl (show (0 : Int32).toInt = 0 from rfl) (show (127 : Int32).toInt = 127 from rfl)) (va_cwS 3 hts gX11_chance_X11_within rfl rfl rfl (by decide +kernel) ⟨Nat.le_of_ble_eq_true rfl, Nat.le_of_ble_eq_true rfl⟩) (mkS hK hN (va_P.nil) (va_D.nil (A := fun _ => True))) rfl rfl hl.1 rfl (lv_room (Nat.le_of_ble_eq_true rfl)) dX11_chance_4 ⟨Nat.le_of_ble_eq_true rfl, Nat.le_of_ble_eq_true rfl⟩) (fun r_79 hw => ?_)
  obtain ⟨hw, k_80, -⟩ := hw
  replace hE := hE.trans (Lt_in k_80)
  rcases hw with ⟨rfl, h_81, h_82⟩ | ⟨rfl, h_83⟩
  · replace hE := (hE).trans (if_pos rfl)
    refine lv_if_eq (tgt := 25) hx hb dX11_chance_7 (by decide +kernel) (fun c_84 => absurd c_84 (by decide +kernel)) (fun c_84 => ?_)
    refine lv_aload_n hx hb dX11_chance_10 rfl (lv_at hl 0 rfl) ?_
    refine va_get (ci := 11) (v := .ref p0) (C := RX11) (T := TX11) (N := 17) hx hb hts hw11 hown hK hP 0 rfl rfl 11 (by decide +kernel) (hts _ mm_X11_chance_345) (fun _ h9 => h9) rfl dX11_chance_11 ?_
    refine lv_aload_n hx hb dX11_chance_14 rfl (lv_at hl 0 rfl) ?_
    refine va_get (ci := 11) (v := .ref t0) (C := RX11) (T := TX11) (N := 17) hx hb hts hw11 hown hK hP 0 rfl rfl 0 (by decide +kernel) (hts _ mm_X11_chance_334) (fun _ h9 => h9) rfl dX11_chance_15 ?_
    refine lv_iload_n hx hb dX11_chance_18 rfl (lv_at hl 1 rfl) ?_
    refine pcl (va_runVN (As := [.ref t0, .int x]) (rest := []) ⟨hx, hb, hml, hown, hts⟩ (w_odds l D K p0 t0 x p1 p2 p3 p4 p5 t1 k_1 t2 k_3 n k_5 k_6 k_7 k_8 ho f1 f2 s.heap.size (by first | omega | decide)) ⟨va_cnB 2 hts gX11_chance_X4_odds_n270 rfl rfl rfl (nst_at hN 90 rfl) (hts _ mm_X11_chance_155) (by decide +kernel) ⟨Nat.le_of_ble_eq_true rfl, Nat.le_of_ble_eq_true rfl⟩, (hts _ mm_X11_chance_760), (hts _ mm_X11_chance_70)⟩ (mkV hK hN (hP.sub [1, 2, 3, 4] rfl) (hD.sub [1, 2, 3, 4] (by decide +kernel) rfl) (ci := 4) (q0 := 0) rfl rfl) rfl rfl hl.1 rfl (lv_room (Nat.le_of_ble_eq_true rfl)) dX11_chance_19 ⟨Nat.le_of_ble_eq_true rfl, Nat.le_of_ble_eq_true rfl⟩) (fun r_85 hw => ?_)
    obtain ⟨k_86, -⟩ := hw
    replace hE := hE.trans (Lt_in k_86)
    refine lv_goto (tgt := 28) hx hb dX11_chance_22 (by decide +kernel) ?_
    rw [← hQ]
    exact W.lret (v := r_85) hx hb hr (fun t ht hW => ⟨_, rfl, ⟨hE.symm, trivial⟩, ht⟩) (fun q hq => by cases hq) dX11_chance_28
  · replace hE := (hE).trans (if_neg (by first | decide | (intro h9; have h8 := congrArg Int32.toInt h9; omega)))
    refine lv_if_eq (tgt := 25) hx hb dX11_chance_7 (by decide +kernel) (fun c_87 => ?_) (fun c_87 => absurd (by decide +kernel) c_87)
    refine lv_ldc2 (v := (-1)) hx hb hown (hts _ mm_X11_chance_767) dX11_chance_25 ?_
    rw [← hQ]
    exact W.lret (v := (-1)) hx hb hr (fun t ht hW => ⟨_, rfl, ⟨hE.symm, trivial⟩, ht⟩) (fun q hq => by cases hq) dX11_chance_28
set_option maxRecDepth 100000 in
noncomputable def E_w_compare_j27 (br : Int32) (fs : Nat → Int32) (fw : Nat → Int32) : Int32 × Int32 × (Nat → Int32) × (Nat → Int32) :=
  (((-1), br, fs, fw) : Int32 × Int32 × (Nat → Int32) × (Nat → Int32))
set_option maxRecDepth 100000 in
noncomputable def E_w_compare (G : Nat → LC) (x : Int32) (y : Int32) (br : Int32) (fs : Nat → Int32) (fw : Nat → Int32) (n : Int32) (lt : Int32) (nf : Int32) (fi : Int32) (f1 : Nat → Int32) (f2 : Nat → Int32) (f3 : Nat → Int32) (fl : Nat → Option Nat) : Int32 × Int32 × (Nat → Int32) × (Nat → Int32) :=
  Lt (lt - 1 : Int32) (fun x_165 => Lt (E_w_within x (-1) x_165) (fun r_192 => if r_192 = 1 then (Lt (E_w_within y 1 60) (fun r_198 => if r_198 = 1 then (Lt (E_w_lawAt x lt fl) (fun r_204 => Oc r_204 (Lt2 (E_w_coalBy_n y br fs fw n lt nf fi f1 f2 f3 fl) (fun r_208 u_209_2_1_0 => ((r_208, br, fs, u_209_2_1_0) : Int32 × Int32 × (Nat → Int32) × (Nat → Int32)))) (fun q_207 => Lt2 (E_w_coalBy (G q_207).1 (G q_207).2.1 (G q_207).2.2.1 (G q_207).2.2.2.1 (G q_207).2.2.2.2.1 y br fs fw n lt nf fi f1 f2 f3 fl) (fun r_211 q0_r_211 => Lt2 q0_r_211 (fun u_212_2_2_2_1_0 q1_u_212_2_2_2_1_0 => Lt2 q1_u_212_2_2_2_1_0 (fun u_212_2_1_0 u_212_2_1_1 => ((r_211, u_212_2_2_2_1_0, u_212_2_1_0, u_212_2_1_1) : Int32 × Int32 × (Nat → Int32) × (Nat → Int32)))))))) else (E_w_compare_j27 br fs fw))) else (E_w_compare_j27 br fs fw)))
set_option maxHeartbeats 4000000 in
set_option maxRecDepth 100000 in
theorem w_compare (l : Launch) (D : va_G) (K : Nat → ClassId) (g : Nat → Nat) (L : Nat → Prop) (G : Nat → LC) (o0 : Nat) (x : Int32) (y : Int32) (t0 : Nat) (o_1 : Value) (o_2 : Value) (o_3 : Value) (o_4 : Value) (o_5 : Value) (o_6 : Value) (o_7 : Value) (o_8 : Value) (o_9 : Value) (p0 : Nat) (o_11 : Value) (o_12 : Value) (o_13 : Value) (o_14 : Value) (o_15 : Value) (o_16 : Value) (a0 : Nat) (p_1 : Value) (p_2 : Value) (p_3 : Value) (p_4 : Value) (p_5 : Value) (m0 : Nat) (w0 : Nat) (m1 : Nat) (br : Int32) (fs : Nat → Int32) (fw : Nat → Int32) (t1 : Nat) (t3 : Nat) (t2 : Nat) (l0 : Nat) (n : Int32) (lt : Int32) (nf : Int32) (fi : Int32) (k_8 : Value) (k_9 : Value) (f1 : Nat → Int32) (gt : Nat → Int32) (f2 : Nat → Int32) (f3 : Nat → Int32) (gc : Nat → Int32) (fl : Nat → Option Nat) (sz : Nat) (zn : 0 ≤ n.toInt ∧ n.toInt ≤ 8) (zlt : 0 ≤ lt.toInt ∧ lt.toInt ≤ 6) (zbr : 0 ≤ br.toInt ∧ br.toInt ≤ 1) (zgt : FzC gt f1) (zgc : FzH gc f3) (zfl : InL L fl) : Met l yX11_compare wsX11_compare ({ frames := 4, cells := 0, slots := 0, locals := 108 }) (va_Pc [.ref o0, .int x, .int y] (PreY D K [(o0, .inr (11, [.ref t0, o_1, o_2, o_3, o_4, o_5, o_6, o_7, o_8, o_9, .ref p0, o_11, o_12, o_13, o_14, o_15, o_16])), (p0, .inr (5, [.ref a0, p_1, p_2, p_3, p_4, p_5])), (a0, .inr (0, [.ref m0, .ref w0])), (m0, .inr (3, [.ref m1, .int br])), (m1, .inl (K 0, 64, .inl fs)), (w0, .inl (K 0, 9, .inl fw)), (t0, .inr (9, [.ref t1, .ref t3, .ref t2, .ref l0, .int n, .int lt, .int nf, .int fi, k_8, k_9])), (t1, .inl (K 0, 56, .inl f1)), (t2, .inl (K 0, 6, .inl f2)), (t3, .inl (K 0, 24, .inl f3)), (l0, .inl (K 4, 6, .inr (.inr (.inr (.inr fl)))))] [] sz g L G (va_A [(o0, .inr (11, [.ref t0, o_1, o_2, o_3, o_4, o_5, o_6, o_7, o_8, o_9, .ref p0, o_11, o_12, o_13, o_14, o_15, o_16])), (p0, .inr (5, [.ref a0, p_1, p_2, p_3, p_4, p_5])), (a0, .inr (0, [.ref m0, .ref w0])), (m0, .inr (3, [.ref m1, .int br])), (m1, .inl (K 0, 64, .inl fs)), (w0, .inl (K 0, 9, .inl fw)), (t0, .inr (9, [.ref t1, .ref t3, .ref t2, .ref l0, .int n, .int lt, .int nf, .int fi, k_8, k_9])), (t1, .inl (K 0, 56, .inl f1)), (t2, .inl (K 0, 6, .inl f2)), (t3, .inl (K 0, 24, .inl f3)), (l0, .inl (K 4, 6, .inr (.inr (.inr (.inr fl)))))] sz))) (va_Qi (S := Su) (fun (r : Int32) (u : Su) => (0 ≤ (u.2.2.2.1 0).toInt ∧ (u.2.2.2.1 0).toInt ≤ 1) ∧ ((r, (u.2.2.2.1 0), (u.2.1 0), (u.2.1 1)) = E_w_compare G x y br fs fw n lt nf fi f1 f2 f3 fl) ∧ True) (fun u t => Wd D (va_A [(o0, .inr (11, [.ref t0, o_1, o_2, o_3, o_4, o_5, o_6, o_7, o_8, o_9, .ref p0, o_11, o_12, o_13, o_14, o_15, o_16])), (p0, .inr (5, [.ref a0, p_1, p_2, p_3, p_4, p_5])), (a0, .inr (0, [.ref m0, .ref w0])), (m0, .inr (3, [.ref m1, .int br])), (m1, .inl (K 0, 64, .inl fs)), (w0, .inl (K 0, 9, .inl fw)), (t0, .inr (9, [.ref t1, .ref t3, .ref t2, .ref l0, .int n, .int lt, .int nf, .int fi, k_8, k_9])), (t1, .inl (K 0, 56, .inl f1)), (t2, .inl (K 0, 6, .inl f2)), (t3, .inl (K 0, 24, .inl f3)), (l0, .inl (K 4, 6, .inr (.inr (.inr (.inr fl)))))] sz) ((fun u => [(o0, .inr (11, [.ref t0, o_1, o_2, o_3, o_4, o_5, o_6, o_7, o_8, o_9, .ref p0, o_11, o_12, o_13, o_14, o_15, o_16])), (p0, .inr (5, [.ref a0, p_1, p_2, p_3, p_4, p_5])), (a0, .inr (0, [.ref m0, .ref w0])), (m0, .inr (3, [.ref m1, .int (u.2.2.2.1 0)])), (m1, .inl (K 0, 64, .inl (u.2.1 0))), (w0, .inl (K 0, 9, .inl (u.2.1 1))), (t0, .inr (9, [.ref t1, .ref t3, .ref t2, .ref l0, .int n, .int lt, .int nf, .int fi, k_8, k_9])), (t1, .inl (K 0, 56, .inl f1)), (t2, .inl (K 0, 6, .inl f2)), (t3, .inl (K 0, 24, .inl f3)), (l0, .inl (K 4, 6, .inr (.inr (.inr (.inr fl)))))]) u) t) (va_A [(o0, .inr (11, [.ref t0, o_1, o_2, o_3, o_4, o_5, o_6, o_7, o_8, o_9, .ref p0, o_11, o_12, o_13, o_14, o_15, o_16])), (p0, .inr (5, [.ref a0, p_1, p_2, p_3, p_4, p_5])), (a0, .inr (0, [.ref m0, .ref w0])), (m0, .inr (3, [.ref m1, .int br])), (m1, .inl (K 0, 64, .inl fs)), (w0, .inl (K 0, 9, .inl fw)), (t0, .inr (9, [.ref t1, .ref t3, .ref t2, .ref l0, .int n, .int lt, .int nf, .int fi, k_8, k_9])), (t1, .inl (K 0, 56, .inl f1)), (t2, .inl (K 0, 6, .inl f2)), (t3, .inl (K 0, 24, .inl f3)), (l0, .inl (K 4, 6, .inr (.inr (.inr (.inr fl)))))] sz)) 0 0 (va_A [(o0, .inr (11, [.ref t0, o_1, o_2, o_3, o_4, o_5, o_6, o_7, o_8, o_9, .ref p0, o_11, o_12, o_13, o_14, o_15, o_16])), (p0, .inr (5, [.ref a0, p_1, p_2, p_3, p_4, p_5])), (a0, .inr (0, [.ref m0, .ref w0])), (m0, .inr (3, [.ref m1, .int br])), (m1, .inl (K 0, 64, .inl fs)), (w0, .inl (K 0, 9, .inl fw)), (t0, .inr (9, [.ref t1, .ref t3, .ref t2, .ref l0, .int n, .int lt, .int nf, .int fi, k_8, k_9])), (t1, .inl (K 0, 56, .inl f1)), (t2, .inl (K 0, 6, .inl f2)), (t3, .inl (K 0, 24, .inl f3)), (l0, .inl (K 4, 6, .inr (.inr (.inr (.inr fl)))))] sz) := by
  refine Met.ofW (cc := cX11_compare) (maxL := 3) (ret := (some .int)) (by decide +kernel) rfl ?_
  intro p e s m args below meth c s₁ B hml hv
  obtain ⟨rfl, ⟨hsz, hP, hK, hD0, hN⟩, hG, hPl, hRo⟩ := hv
  have hx := B.exec
  have hb := B.bytes
  have hr := B.returns
  have hts := atoms_spec (ws := wsX11_compare) B.pre
  have hown : s.vm.findClass RX11 = some m.cls := findClass_of_methodNamed B.named
  have hlocks := B.notSynchronized
  subst hsz
  have hD := hD0.self (sz := s.heap.size)
  generalize hAe : va_A [(o0, .inr (11, [.ref t0, o_1, o_2, o_3, o_4, o_5, o_6, o_7, o_8, o_9, .ref p0, o_11, o_12, o_13, o_14, o_15, o_16])), (p0, .inr (5, [.ref a0, p_1, p_2, p_3, p_4, p_5])), (a0, .inr (0, [.ref m0, .ref w0])), (m0, .inr (3, [.ref m1, .int br])), (m1, .inl (K 0, 64, .inl fs)), (w0, .inl (K 0, 9, .inl fw)), (t0, .inr (9, [.ref t1, .ref t3, .ref t2, .ref l0, .int n, .int lt, .int nf, .int fi, k_8, k_9])), (t1, .inl (K 0, 56, .inl f1)), (t2, .inl (K 0, 6, .inl f2)), (t3, .inl (K 0, 24, .inl f3)), (l0, .inl (K 4, 6, .inr (.inr (.inr (.inr fl)))))] s.heap.size = A at hD hG hPl hRo ⊢
  have hA : ∀ q : Nat, s.heap.size ≤ q → A q := fun q h => by rw [← hAe]; exact Or.inr h
  clear hAe
  have hS : va_S A s.heap s.heap [] := va_S.rf
  replace hP : va_P D vwCl [(o0, .inr (11, [.ref t0, o_1, o_2, o_3, o_4, o_5, o_6, o_7, o_8, o_9, .ref p0, o_11, o_12, o_13, o_14, o_15, o_16])), (p0, .inr (5, [.ref a0, p_1, p_2, p_3, p_4, p_5])), (a0, .inr (0, [.ref m0, .ref w0])), (m0, .inr (3, [.ref m1, .int br])), (m1, .inl (K 0, 64, .inl fs)), (w0, .inl (K 0, 9, .inl fw)), (t0, .inr (9, [.ref t1, .ref t3, .ref t2, .ref l0, .int n, .int lt, .int nf, .int fi, k_8, k_9])), (t1, .inl (K 0, 56, .inl f1)), (t2, .inl (K 0, 6, .inl f2)), (t3, .inl (K 0, 24, .inl f3)), (l0, .inl (K 4, 6, .inr (.inr (.inr (.inr fl)))))] s.heap := hP
  have hl := lv_entry [.ref o0, .int x, .int y] (n := 3) (Nat.le_of_ble_eq_true rfl)
  rw [lg_entry_eq]
  generalize (lg_sl [.ref o0, .int x, .int y] ++ List.replicate (3 - (lg_sl [.ref o0, .int x, .int y]).length) Slot.unset).toArray = ls at hl ⊢
  have hl : lv_has ls 3 [(0, .ref o0), (1, .int x), (2, .int y)] := hl
  have hw0 : ∀ w ∈ wsX00, w ∈ wsX11_compare := fun w h => (List.mem_cons_of_mem _ (List.mem_append_left _ (List.mem_append_left _ (List.mem_append_right _ h))))
  have hw3 : ∀ w ∈ wsX30, w ∈ wsX11_compare := fun w h => (List.mem_cons_of_mem _ (List.mem_append_right _ h))
  have hw5 : ∀ w ∈ wsX50, w ∈ wsX11_compare := fun w h => (List.mem_cons_of_mem _ (List.mem_append_left _ (List.mem_append_left _ (List.mem_append_left _ (List.mem_append_right _ h)))))
  have hw7 : ∀ w ∈ wsX70, w ∈ wsX11_compare := fun w h => (List.mem_cons_of_mem _ (List.mem_append_left _ (List.mem_append_right _ h)))
  have hw9 : ∀ w ∈ wsX90, w ∈ wsX11_compare := fun w h => (List.mem_cons_of_mem _ (List.mem_append_left _ (List.mem_append_left _ (List.mem_append_left _ (List.mem_append_left _ (List.mem_append_right _ h))))))
  have hw11 : ∀ w ∈ wsX110, w ∈ wsX11_compare := fun w h => (List.mem_cons_of_mem _ (List.mem_append_left _ (List.mem_append_left _ (List.mem_append_left _ (List.mem_append_left _ (List.mem_append_left _ (List.mem_append_right _ h)))))))
  generalize hQ : MQ below _ _ s _ _ _ = Q
  have hE := E_w_compare.eq_def G x y br fs fw n lt nf fi f1 f2 f3 fl
  refine lv_iload_n hx hb dX11_compare_0 rfl (lv_at hl 1 rfl) ?_
  refine lv_iconst (v := (-1)) hx hb dX11_compare_1 (by decide +kernel) ?_
  refine lv_aload_n hx hb dX11_compare_2 rfl (lv_at hl 0 rfl) ?_
  refine va_get (ci := 11) (v := .ref t0) (C := RX11) (T := TX11) (N := 17) hx hb hts hw11 hown hK hP 0 rfl rfl 0 (by decide +kernel) (hts _ mm_X11_compare_334) (fun _ h9 => h9) rfl dX11_compare_3 ?_
  refine va_getN (ci := 9) (v := .int lt) (C := RX9) (T := TX9) (N := 10) hx hb hts hw9 hown hK hP 6 rfl rfl 5 (by decide +kernel) (nst_use hN 110 rfl) (fun _ h9 => h9) rfl dX11_compare_6 ?_
  refine lv_iconst (v := 1) hx hb dX11_compare_9 (by decide +kernel) ?_
  refine lv_isub hx hb dX11_compare_10 ?_
  refine lv_topi (fun x_165 ex_165 => ?_)
  replace hE := hE.trans (Lt_in ex_165)
  have hx_165 : x_165.toInt = (lt.toInt - 1) := by rw [ex_165]; exact i_sub rfl (show (1 : Int32).toInt = 1 from rfl) (by omega)
  have j_191 : ∀ (hE : E_w_compare G x y br fs fw n lt nf fi f1 f2 f3 fl = E_w_compare_j27 br fs fw) (H : Heap) (locs : List Loc) (hP : va_P D vwCl [(o0, .inr (11, [.ref t0, o_1, o_2, o_3, o_4, o_5, o_6, o_7, o_8, o_9, .ref p0, o_11, o_12, o_13, o_14, o_15, o_16])), (p0, .inr (5, [.ref a0, p_1, p_2, p_3, p_4, p_5])), (a0, .inr (0, [.ref m0, .ref w0])), (m0, .inr (3, [.ref m1, .int br])), (m1, .inl (K 0, 64, .inl fs)), (w0, .inl (K 0, 9, .inl fw)), (t0, .inr (9, [.ref t1, .ref t3, .ref t2, .ref l0, .int n, .int lt, .int nf, .int fi, k_8, k_9])), (t1, .inl (K 0, 56, .inl f1)), (t2, .inl (K 0, 6, .inl f2)), (t3, .inl (K 0, 24, .inl f3)), (l0, .inl (K 4, 6, .inr (.inr (.inr (.inr fl)))))] H) (hD : va_D A [(o0, .inr (11, [.ref t0, o_1, o_2, o_3, o_4, o_5, o_6, o_7, o_8, o_9, .ref p0, o_11, o_12, o_13, o_14, o_15, o_16])), (p0, .inr (5, [.ref a0, p_1, p_2, p_3, p_4, p_5])), (a0, .inr (0, [.ref m0, .ref w0])), (m0, .inr (3, [.ref m1, .int br])), (m1, .inl (K 0, 64, .inl fs)), (w0, .inl (K 0, 9, .inl fw)), (t0, .inr (9, [.ref t1, .ref t3, .ref t2, .ref l0, .int n, .int lt, .int nf, .int fi, k_8, k_9])), (t1, .inl (K 0, 56, .inl f1)), (t2, .inl (K 0, 6, .inl f2)), (t3, .inl (K 0, 24, .inl f3)), (l0, .inl (K 4, 6, .inr (.inr (.inr (.inr fl)))))]) (hS : va_S A s.heap H locs) (ls : Array Slot) (hl : lv_has ls 3 []), W p l e ({ frames := 4, cells := 0, slots := 0, locals := 108 }) s m (([.ref o0, .int x, .int y] : List Value).toArray) below meth c H locs 0 0 Q (F0 m 27 ls []) := by
    clear hE hP hD hS hl
    intro hE H locs hP hD hS ls hl
    replace hE := hE.trans (E_w_compare_j27.eq_def _ _ _)
    refine lv_iconst (v := (-1)) hx hb dX11_compare_27 (by decide +kernel) ?_
    rw [← hQ]
    have hP9 := hP.sub (ws' := [(o0, .inr (11, [.ref t0, o_1, o_2, o_3, o_4, o_5, o_6, o_7, o_8, o_9, .ref p0, o_11, o_12, o_13, o_14, o_15, o_16])), (p0, .inr (5, [.ref a0, p_1, p_2, p_3, p_4, p_5])), (a0, .inr (0, [.ref m0, .ref w0])), (m0, .inr (3, [.ref m1, .int br])), (m1, .inl (K 0, 64, .inl fs)), (w0, .inl (K 0, 9, .inl fw)), (t0, .inr (9, [.ref t1, .ref t3, .ref t2, .ref l0, .int n, .int lt, .int nf, .int fi, k_8, k_9])), (t1, .inl (K 0, 56, .inl f1)), (t2, .inl (K 0, 6, .inl f2)), (t3, .inl (K 0, 24, .inl f3)), (l0, .inl (K 4, 6, .inr (.inr (.inr (.inr fl)))))]) [0, 1, 2, 3, 4, 5, 6, 7, 8, 9, 10] rfl
    have hD9 := hD.sub (ws' := [(o0, .inr (11, [.ref t0, o_1, o_2, o_3, o_4, o_5, o_6, o_7, o_8, o_9, .ref p0, o_11, o_12, o_13, o_14, o_15, o_16])), (p0, .inr (5, [.ref a0, p_1, p_2, p_3, p_4, p_5])), (a0, .inr (0, [.ref m0, .ref w0])), (m0, .inr (3, [.ref m1, .int br])), (m1, .inl (K 0, 64, .inl fs)), (w0, .inl (K 0, 9, .inl fw)), (t0, .inr (9, [.ref t1, .ref t3, .ref t2, .ref l0, .int n, .int lt, .int nf, .int fi, k_8, k_9])), (t1, .inl (K 0, 56, .inl f1)), (t2, .inl (K 0, 6, .inl f2)), (t3, .inl (K 0, 24, .inl f3)), (l0, .inl (K 4, 6, .inr (.inr (.inr (.inr fl)))))]) [0, 1, 2, 3, 4, 5, 6, 7, 8, 9, 10] (by decide +kernel) rfl
    exact W.iret (v := (-1)) hx hb hr (fun t ht hW => ⟨⟨(-1), ((fun _ => 0, fun i => match i with | 0 => fs | _ => fw, fun _ => fun _ => 0, fun i => match i with | _ => br, fun _ => 0, fun _ => fun _ => none) : Su), rfl, ⟨(show 0 ≤ (br : Int32).toInt ∧ (br : Int32).toInt ≤ 1 by omega), hE.symm, trivial⟩, (⟨by rw [ht]; exact hP9, hD9⟩ : Wd D A _ t)⟩, hS.F ht⟩) hS.2.2 dX11_compare_28
  refine pci (va_runS (As := [.int x, .int (-1), .int x_165]) (rest := []) ⟨hx, hb, hml, hown, hts⟩ (w_within l D K x.toInt (-1) (lt.toInt - 1) x (-1) x_165 s.heap.size rfl (show ((-1) : Int32).toInt = (-1) from rfl) hx_165) (va_cwS 3 hts gX11_compare_X11_within rfl rfl rfl (by decide +kernel) ⟨Nat.le_of_ble_eq_true rfl, Nat.le_of_ble_eq_true rfl⟩) (mkS hK hN (va_P.nil) (va_D.nil (A := fun _ => True))) rfl rfl hl.1 rfl (lv_room (Nat.le_of_ble_eq_true rfl)) dX11_compare_11 ⟨Nat.le_of_ble_eq_true rfl, Nat.le_of_ble_eq_true rfl⟩) (fun r_192 hw => ?_)
  obtain ⟨hw, k_193, -⟩ := hw
  replace hE := hE.trans (Lt_in k_193)
  rcases hw with ⟨rfl, h_194, h_195⟩ | ⟨rfl, h_196⟩
  · replace hE := (hE).trans (if_pos rfl)
    refine lv_if_eq (tgt := 27) hx hb dX11_compare_14 (by decide +kernel) (fun c_197 => absurd c_197 (by decide +kernel)) (fun c_197 => ?_)
    refine lv_iload_n hx hb dX11_compare_17 rfl (lv_at hl 2 rfl) ?_
    refine lv_iconst (v := 1) hx hb dX11_compare_18 (by decide +kernel) ?_
    refine lv_bipush (v := 60) hx hb dX11_compare_19 (by decide +kernel) ?_
    refine pci (va_runS (As := [.int y, .int 1, .int 60]) (rest := []) ⟨hx, hb, hml, hown, hts⟩ (w_within l D K y.toInt 1 60 y 1 60 s.heap.size rfl (show (1 : Int32).toInt = 1 from rfl) (show (60 : Int32).toInt = 60 from rfl)) (va_cwS 3 hts gX11_compare_X11_within rfl rfl rfl (by decide +kernel) ⟨Nat.le_of_ble_eq_true rfl, Nat.le_of_ble_eq_true rfl⟩) (mkS hK hN (va_P.nil) (va_D.nil (A := fun _ => True))) rfl rfl hl.1 rfl (lv_room (Nat.le_of_ble_eq_true rfl)) dX11_compare_21 ⟨Nat.le_of_ble_eq_true rfl, Nat.le_of_ble_eq_true rfl⟩) (fun r_198 hw => ?_)
    obtain ⟨hw, k_199, -⟩ := hw
    replace hE := hE.trans (Lt_in k_199)
    rcases hw with ⟨rfl, h_200, h_201⟩ | ⟨rfl, h_202⟩
    · replace hE := (hE).trans (if_pos rfl)
      refine lv_if_ne (tgt := 29) hx hb dX11_compare_24 (by decide +kernel) (fun c_203 => ?_) (fun c_203 => absurd c_203 (by decide +kernel))
      refine lv_aload_n hx hb dX11_compare_29 rfl (lv_at hl 0 rfl) ?_
      refine va_get (ci := 11) (v := .ref p0) (C := RX11) (T := TX11) (N := 17) hx hb hts hw11 hown hK hP 0 rfl rfl 10 (by decide +kernel) (hts _ mm_X11_compare_344) (fun _ h9 => h9) rfl dX11_compare_30 ?_
      refine lv_aload_n hx hb dX11_compare_33 rfl (lv_at hl 0 rfl) ?_
      refine va_get (ci := 11) (v := .ref t0) (C := RX11) (T := TX11) (N := 17) hx hb hts hw11 hown hK hP 0 rfl rfl 0 (by decide +kernel) (hts _ mm_X11_compare_334) (fun _ h9 => h9) rfl dX11_compare_34 ?_
      refine lv_aload_n hx hb dX11_compare_37 rfl (lv_at hl 0 rfl) ?_
      refine va_get (ci := 11) (v := .ref t0) (C := RX11) (T := TX11) (N := 17) hx hb hts hw11 hown hK hP 0 rfl rfl 0 (by decide +kernel) (hts _ mm_X11_compare_334) (fun _ h9 => h9) rfl dX11_compare_38 ?_
      refine lv_iload_n hx hb dX11_compare_41 rfl (lv_at hl 1 rfl) ?_
      refine pcq (va_runVN (As := [.int x]) (rest := [.ref t0, .ref p0]) ⟨hx, hb, hml, hown, hts⟩ (w_lawAt l D K g L G t0 x (.ref t1) (.ref t3) (.ref t2) l0 (.int n) lt (.int nf) (.int fi) k_8 k_9 fl s.heap.size (by first | omega | decide) zfl) ⟨va_cnB 1 hts gX11_compare_X9_lawAt_n276 rfl rfl rfl (nst_at hN 92 rfl) (hts _ mm_X11_compare_145) (by decide +kernel) ⟨Nat.le_of_ble_eq_true rfl, Nat.le_of_ble_eq_true rfl⟩, (hts _ mm_X11_compare_409), (hts _ mm_X11_compare_12)⟩ (mkVY hK hN (hP.sub [6, 10] rfl) (hD.sub [6, 10] (by decide +kernel) rfl) (ci := 9) (q0 := 0) rfl rfl (fun U hU hW => ⟨Gl.at hG hS hW hU (fun _ h9 => h9.elim), Pool.at hPl hS hU (fun _ h9 => h9.elim), Ro.heap hU (Ro.nil)⟩)) rfl rfl hl.1 rfl (lv_room (Nat.le_of_ble_eq_true rfl)) dX11_compare_42 ⟨Nat.le_of_ble_eq_true rfl, Nat.le_of_ble_eq_true rfl⟩) (fun r_204 hw => ?_)
      obtain ⟨hw, k_206⟩ := hw
      have hr_204 : InLo L r_204 := hw
      replace hE := hE.trans (Lt_in k_206)
      refine lv_iload_n hx hb dX11_compare_45 rfl (lv_at hl 2 rfl) ?_
      rcases r_204 with _ | q_207
      · replace hE := hE.trans Oc_n
        have hl : lv_has ls 3 [(0, .ref o0), (1, .int x), (2, .int y)] := hl
        refine W.eq (g2 := F0 m 46 ls [.int y, .null, .ref t0, .ref p0]) rfl ?_
        refine kci (S := Su) (wr := [(o0, .inr (11, [.ref t0, o_1, o_2, o_3, o_4, o_5, o_6, o_7, o_8, o_9, .ref p0, o_11, o_12, o_13, o_14, o_15, o_16]))]) (va_runVN (As := [.ref t0, .null, .int y]) (rest := []) ⟨hx, hb, hml, hown, hts⟩ (w_coalBy_n l D K g L G p0 t0 y a0 p_1 p_2 p_3 p_4 p_5 m0 w0 m1 br fs fw t1 t3 t2 l0 n lt nf fi k_8 k_9 f1 gt f2 f3 gc fl s.heap.size (by first | omega | decide) (by first | omega | decide) (by first | omega | decide) (by first | omega | decide) zgt zgc zfl) ⟨va_cnB 3 hts gX11_compare_X5_coalBy_n280 rfl rfl rfl (nst_at hN 93 rfl) (hts _ mm_X11_compare_154) (by decide +kernel) ⟨Nat.le_of_ble_eq_true rfl, Nat.le_of_ble_eq_true rfl⟩, (hts _ mm_X11_compare_772), (hts _ mm_X11_compare_71)⟩ (mkVY hK hN (hP.sub [1, 2, 3, 4, 5, 6, 7, 8, 9, 10] rfl) (hD.sub [1, 2, 3, 4, 5, 6, 7, 8, 9, 10] (by decide +kernel) rfl) (ci := 5) (q0 := 0) rfl rfl (fun U hU hW => ⟨Gl.at hG hS hW hU (fun q h => va_free hD hS hA [1, 2, 3, 4, 5, 6, 7, 8, 9, 10] rfl q h), Pool.at hPl hS hU (fun q h => va_free hD hS hA [1, 2, 3, 4, 5, 6, 7, 8, 9, 10] rfl q h), Ro.heap hU (Ro.nil)⟩)) rfl rfl hl.1 rfl (lv_room (Nat.le_of_ble_eq_true rfl)) dX11_compare_46 ⟨Nat.le_of_ble_eq_true rfl, Nat.le_of_ble_eq_true rfl⟩) hP hD hS hA [1, 2, 3, 4, 5, 6, 7, 8, 9, 10] [0] rfl rfl (by decide +kernel) (by decide +kernel) (fun r_208 u_209 H locs hw hP0 hD0 hS0 => ?_)
        clear hP hD hS
        have hP := hP0
        have hD := hD0
        have hS := hS0
        clear hP0 hD0 hS0
        replace hP : va_P D vwCl [(o0, .inr (11, [.ref t0, o_1, o_2, o_3, o_4, o_5, o_6, o_7, o_8, o_9, .ref p0, o_11, o_12, o_13, o_14, o_15, o_16])), (p0, .inr (5, [.ref a0, p_1, p_2, p_3, p_4, p_5])), (a0, .inr (0, [.ref m0, .ref w0])), (m0, .inr (3, [.ref m1, .int br])), (m1, .inl (K 0, 64, .inl fs)), (w0, .inl (K 0, 9, .inl (u_209.2.1 0))), (t0, .inr (9, [.ref t1, .ref t3, .ref t2, .ref l0, .int n, .int lt, .int nf, .int fi, k_8, k_9])), (t1, .inl (K 0, 56, .inl f1)), (t2, .inl (K 0, 6, .inl f2)), (t3, .inl (K 0, 24, .inl f3)), (l0, .inl (K 4, 6, .inr (.inr (.inr (.inr fl)))))] H := hP
        replace hD : va_D A [(o0, .inr (11, [.ref t0, o_1, o_2, o_3, o_4, o_5, o_6, o_7, o_8, o_9, .ref p0, o_11, o_12, o_13, o_14, o_15, o_16])), (p0, .inr (5, [.ref a0, p_1, p_2, p_3, p_4, p_5])), (a0, .inr (0, [.ref m0, .ref w0])), (m0, .inr (3, [.ref m1, .int br])), (m1, .inl (K 0, 64, .inl fs)), (w0, .inl (K 0, 9, .inl (u_209.2.1 0))), (t0, .inr (9, [.ref t1, .ref t3, .ref t2, .ref l0, .int n, .int lt, .int nf, .int fi, k_8, k_9])), (t1, .inl (K 0, 56, .inl f1)), (t2, .inl (K 0, 6, .inl f2)), (t3, .inl (K 0, 24, .inl f3)), (l0, .inl (K 4, 6, .inr (.inr (.inr (.inr fl)))))] := hD
        obtain ⟨k_210, -⟩ := hw
        replace hE := hE.trans (Lt2_in k_210)
        rw [← hQ]
        have hP9 := hP.sub (ws' := [(o0, .inr (11, [.ref t0, o_1, o_2, o_3, o_4, o_5, o_6, o_7, o_8, o_9, .ref p0, o_11, o_12, o_13, o_14, o_15, o_16])), (p0, .inr (5, [.ref a0, p_1, p_2, p_3, p_4, p_5])), (a0, .inr (0, [.ref m0, .ref w0])), (m0, .inr (3, [.ref m1, .int br])), (m1, .inl (K 0, 64, .inl fs)), (w0, .inl (K 0, 9, .inl (u_209.2.1 0))), (t0, .inr (9, [.ref t1, .ref t3, .ref t2, .ref l0, .int n, .int lt, .int nf, .int fi, k_8, k_9])), (t1, .inl (K 0, 56, .inl f1)), (t2, .inl (K 0, 6, .inl f2)), (t3, .inl (K 0, 24, .inl f3)), (l0, .inl (K 4, 6, .inr (.inr (.inr (.inr fl)))))]) [0, 1, 2, 3, 4, 5, 6, 7, 8, 9, 10] rfl
        have hD9 := hD.sub (ws' := [(o0, .inr (11, [.ref t0, o_1, o_2, o_3, o_4, o_5, o_6, o_7, o_8, o_9, .ref p0, o_11, o_12, o_13, o_14, o_15, o_16])), (p0, .inr (5, [.ref a0, p_1, p_2, p_3, p_4, p_5])), (a0, .inr (0, [.ref m0, .ref w0])), (m0, .inr (3, [.ref m1, .int br])), (m1, .inl (K 0, 64, .inl fs)), (w0, .inl (K 0, 9, .inl (u_209.2.1 0))), (t0, .inr (9, [.ref t1, .ref t3, .ref t2, .ref l0, .int n, .int lt, .int nf, .int fi, k_8, k_9])), (t1, .inl (K 0, 56, .inl f1)), (t2, .inl (K 0, 6, .inl f2)), (t3, .inl (K 0, 24, .inl f3)), (l0, .inl (K 4, 6, .inr (.inr (.inr (.inr fl)))))]) [0, 1, 2, 3, 4, 5, 6, 7, 8, 9, 10] (by decide +kernel) rfl
        exact W.iret (v := r_208) hx hb hr (fun t ht hW => ⟨⟨r_208, ((fun _ => 0, fun i => match i with | 0 => fs | _ => (u_209.2.1 0), fun _ => fun _ => 0, fun i => match i with | _ => br, fun _ => 0, fun _ => fun _ => none) : Su), rfl, ⟨(show 0 ≤ (br : Int32).toInt ∧ (br : Int32).toInt ≤ 1 by omega), hE.symm, trivial⟩, (⟨by rw [ht]; exact hP9, hD9⟩ : Wd D A _ t)⟩, hS.F ht⟩) hS.2.2 dX11_compare_49
      · replace hE := hE.trans Oc_s
        have hl : lv_has ls 3 [(0, .ref o0), (1, .int x), (2, .int y)] := hl
        refine W.eq (g2 := F0 m 46 ls [.int y, .ref q_207, .ref t0, .ref p0]) rfl ?_
        refine kci (S := Su) (wr := [(o0, .inr (11, [.ref t0, o_1, o_2, o_3, o_4, o_5, o_6, o_7, o_8, o_9, .ref p0, o_11, o_12, o_13, o_14, o_15, o_16]))]) (va_runVN (As := [.ref t0, .ref q_207, .int y]) (rest := []) ⟨hx, hb, hml, hown, hts⟩ (w_coalBy l D K g L G p0 t0 q_207 y a0 p_1 p_2 p_3 p_4 p_5 m0 w0 m1 br fs fw t1 t3 t2 l0 n lt nf fi k_8 k_9 f1 gt f2 f3 gc fl s.heap.size hr_204 (by first | omega | decide) (by first | omega | decide) (by first | omega | decide) (by first | omega | decide) zgt zgc zfl) ⟨va_cnB 3 hts gX11_compare_X5_coalBy_n280 rfl rfl rfl (nst_at hN 93 rfl) (hts _ mm_X11_compare_154) (by decide +kernel) ⟨Nat.le_of_ble_eq_true rfl, Nat.le_of_ble_eq_true rfl⟩, (hts _ mm_X11_compare_772), (hts _ mm_X11_compare_71)⟩ (mkVY hK hN (hP.sub [1, 2, 3, 4, 5, 6, 7, 8, 9, 10] rfl) (hD.sub [1, 2, 3, 4, 5, 6, 7, 8, 9, 10] (by decide +kernel) rfl) (ci := 5) (q0 := 0) rfl rfl (fun U hU hW => ⟨Gl.at hG hS hW hU (fun q h => va_free hD hS hA [1, 2, 3, 4, 5, 6, 7, 8, 9, 10] rfl q h), Pool.at hPl hS hU (fun q h => va_free hD hS hA [1, 2, 3, 4, 5, 6, 7, 8, 9, 10] rfl q h), Ro.heap hU (Ro.nil)⟩)) rfl rfl hl.1 rfl (lv_room (Nat.le_of_ble_eq_true rfl)) dX11_compare_46 ⟨Nat.le_of_ble_eq_true rfl, Nat.le_of_ble_eq_true rfl⟩) hP hD hS hA [1, 2, 3, 4, 5, 6, 7, 8, 9, 10] [0] rfl rfl (by decide +kernel) (by decide +kernel) (fun r_211 u_212 H locs hw hP0 hD0 hS0 => ?_)
        clear hP hD hS
        have hP := hP0
        have hD := hD0
        have hS := hS0
        clear hP0 hD0 hS0
        replace hP : va_P D vwCl [(o0, .inr (11, [.ref t0, o_1, o_2, o_3, o_4, o_5, o_6, o_7, o_8, o_9, .ref p0, o_11, o_12, o_13, o_14, o_15, o_16])), (p0, .inr (5, [.ref a0, p_1, p_2, p_3, p_4, p_5])), (a0, .inr (0, [.ref m0, .ref w0])), (m0, .inr (3, [.ref m1, .int (u_212.2.2.2.1 0)])), (m1, .inl (K 0, 64, .inl (u_212.2.1 0))), (w0, .inl (K 0, 9, .inl (u_212.2.1 1))), (t0, .inr (9, [.ref t1, .ref t3, .ref t2, .ref l0, .int n, .int lt, .int nf, .int fi, k_8, k_9])), (t1, .inl (K 0, 56, .inl f1)), (t2, .inl (K 0, 6, .inl f2)), (t3, .inl (K 0, 24, .inl f3)), (l0, .inl (K 4, 6, .inr (.inr (.inr (.inr fl)))))] H := hP
        replace hD : va_D A [(o0, .inr (11, [.ref t0, o_1, o_2, o_3, o_4, o_5, o_6, o_7, o_8, o_9, .ref p0, o_11, o_12, o_13, o_14, o_15, o_16])), (p0, .inr (5, [.ref a0, p_1, p_2, p_3, p_4, p_5])), (a0, .inr (0, [.ref m0, .ref w0])), (m0, .inr (3, [.ref m1, .int (u_212.2.2.2.1 0)])), (m1, .inl (K 0, 64, .inl (u_212.2.1 0))), (w0, .inl (K 0, 9, .inl (u_212.2.1 1))), (t0, .inr (9, [.ref t1, .ref t3, .ref t2, .ref l0, .int n, .int lt, .int nf, .int fi, k_8, k_9])), (t1, .inl (K 0, 56, .inl f1)), (t2, .inl (K 0, 6, .inl f2)), (t3, .inl (K 0, 24, .inl f3)), (l0, .inl (K 4, 6, .inr (.inr (.inr (.inr fl)))))] := hD
        obtain ⟨k_213, k_214, -⟩ := hw
        replace hE := ((hE.trans (Lt2_in k_214)).trans (Lt2_in rfl)).trans (Lt2_in rfl)
        rw [← hQ]
        have hP9 := hP.sub (ws' := [(o0, .inr (11, [.ref t0, o_1, o_2, o_3, o_4, o_5, o_6, o_7, o_8, o_9, .ref p0, o_11, o_12, o_13, o_14, o_15, o_16])), (p0, .inr (5, [.ref a0, p_1, p_2, p_3, p_4, p_5])), (a0, .inr (0, [.ref m0, .ref w0])), (m0, .inr (3, [.ref m1, .int (u_212.2.2.2.1 0)])), (m1, .inl (K 0, 64, .inl (u_212.2.1 0))), (w0, .inl (K 0, 9, .inl (u_212.2.1 1))), (t0, .inr (9, [.ref t1, .ref t3, .ref t2, .ref l0, .int n, .int lt, .int nf, .int fi, k_8, k_9])), (t1, .inl (K 0, 56, .inl f1)), (t2, .inl (K 0, 6, .inl f2)), (t3, .inl (K 0, 24, .inl f3)), (l0, .inl (K 4, 6, .inr (.inr (.inr (.inr fl)))))]) [0, 1, 2, 3, 4, 5, 6, 7, 8, 9, 10] rfl
        have hD9 := hD.sub (ws' := [(o0, .inr (11, [.ref t0, o_1, o_2, o_3, o_4, o_5, o_6, o_7, o_8, o_9, .ref p0, o_11, o_12, o_13, o_14, o_15, o_16])), (p0, .inr (5, [.ref a0, p_1, p_2, p_3, p_4, p_5])), (a0, .inr (0, [.ref m0, .ref w0])), (m0, .inr (3, [.ref m1, .int (u_212.2.2.2.1 0)])), (m1, .inl (K 0, 64, .inl (u_212.2.1 0))), (w0, .inl (K 0, 9, .inl (u_212.2.1 1))), (t0, .inr (9, [.ref t1, .ref t3, .ref t2, .ref l0, .int n, .int lt, .int nf, .int fi, k_8, k_9])), (t1, .inl (K 0, 56, .inl f1)), (t2, .inl (K 0, 6, .inl f2)), (t3, .inl (K 0, 24, .inl f3)), (l0, .inl (K 4, 6, .inr (.inr (.inr (.inr fl)))))]) [0, 1, 2, 3, 4, 5, 6, 7, 8, 9, 10] (by decide +kernel) rfl
        exact W.iret (v := r_211) hx hb hr (fun t ht hW => ⟨⟨r_211, ((fun _ => 0, fun i => match i with | 0 => (u_212.2.1 0) | _ => (u_212.2.1 1), fun _ => fun _ => 0, fun i => match i with | _ => (u_212.2.2.2.1 0), fun _ => 0, fun _ => fun _ => none) : Su), rfl, ⟨(show 0 ≤ ((u_212.2.2.2.1 0) : Int32).toInt ∧ ((u_212.2.2.2.1 0) : Int32).toInt ≤ 1 by omega), hE.symm, trivial⟩, (⟨by rw [ht]; exact hP9, hD9⟩ : Wd D A _ t)⟩, hS.F ht⟩) hS.2.2 dX11_compare_49
    · replace hE := (hE).trans (if_neg (by first | decide | (intro h9; have h8 := congrArg Int32.toInt h9; omega)))
      refine lv_if_ne (tgt := 29) hx hb dX11_compare_24 (by decide +kernel) (fun c_215 => absurd (by decide +kernel) c_215) (fun c_215 => ?_)
      exact j_191   hE _ _ hP hD hS ls (lv_sub hl [] rfl)
  · replace hE := (hE).trans (if_neg (by first | decide | (intro h9; have h8 := congrArg Int32.toInt h9; omega)))
    refine lv_if_eq (tgt := 27) hx hb dX11_compare_14 (by decide +kernel) (fun c_216 => ?_) (fun c_216 => absurd (by decide +kernel) c_216)
    exact j_191   hE _ _ hP hD hS ls (lv_sub hl [] rfl)
