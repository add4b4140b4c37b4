theorem BJ3_checkIndex_8e157_0 : bsegs (ByteArray.data cJ3_checkIndex_8e157 |>.toList.drop 0) 0 [(0, [26]), (1, [155, 0, 8]), (4, [26]), (5, [27]), (6, [161, 0, 10]), (16, [26]), (17, [172])] = true := by decide +kernel
theorem dJ3_checkIndex_8e157_0 : decode cJ3_checkIndex_8e157 0 = .ok (.iload_n 0, 1) := dk_26 (bs_at BJ3_checkIndex_8e157_0 0 rfl)
theorem dJ3_checkIndex_8e157_1 : decode cJ3_checkIndex_8e157 1 = .ok (.ifCond .lt 8, 3) := dk_155 0 8 (bs_at BJ3_checkIndex_8e157_0 1 rfl) rfl
theorem dJ3_checkIndex_8e157_4 : decode cJ3_checkIndex_8e157 4 = .ok (.iload_n 0, 1) := dk_26 (bs_at BJ3_checkIndex_8e157_0 2 rfl)
theorem dJ3_checkIndex_8e157_5 : decode cJ3_checkIndex_8e157 5 = .ok (.iload_n 1, 1) := dk_27 (bs_at BJ3_checkIndex_8e157_0 3 rfl)
theorem dJ3_checkIndex_8e157_6 : decode cJ3_checkIndex_8e157 6 = .ok (.if_icmp .lt 10, 3) := dk_161 0 10 (bs_at BJ3_checkIndex_8e157_0 4 rfl) rfl
theorem dJ3_checkIndex_8e157_16 : decode cJ3_checkIndex_8e157 16 = .ok (.iload_n 0, 1) := dk_26 (bs_at BJ3_checkIndex_8e157_0 5 rfl)
theorem dJ3_checkIndex_8e157_17 : decode cJ3_checkIndex_8e157 17 = .ok (.ireturn, 1) := dk_172 (bs_at BJ3_checkIndex_8e157_0 6 rfl)
theorem BJ0_checkIndex_df160_0 : bsegs (ByteArray.data cJ0_checkIndex_df160 |>.toList.drop 0) 0 [(0, [26]), (1, [27]), (2, [178, 4, 29]), (5, [184, 4, 35]), (8, [87]), (9, [177])] = true := by decide +kernel
theorem dJ0_checkIndex_df160_0 : decode cJ0_checkIndex_df160 0 = .ok (.iload_n 0, 1) := dk_26 (bs_at BJ0_checkIndex_df160_0 0 rfl)
theorem dJ0_checkIndex_df160_1 : decode cJ0_checkIndex_df160 1 = .ok (.iload_n 1, 1) := dk_27 (bs_at BJ0_checkIndex_df160_0 1 rfl)
theorem dJ0_checkIndex_df160_2 : decode cJ0_checkIndex_df160 2 = .ok (.getstatic 1053, 3) := dk_178 4 29 (bs_at BJ0_checkIndex_df160_0 2 rfl) rfl
theorem dJ0_checkIndex_df160_5 : decode cJ0_checkIndex_df160 5 = .ok (.invokestatic 1059, 3) := dk_184 4 35 (bs_at BJ0_checkIndex_df160_0 3 rfl) rfl
theorem dJ0_checkIndex_df160_8 : decode cJ0_checkIndex_df160 8 = .ok (.pop, 1) := dk_87 (bs_at BJ0_checkIndex_df160_0 4 rfl)
theorem dJ0_checkIndex_df160_9 : decode cJ0_checkIndex_df160 9 = .ok (.return_, 1) := dk_177 (bs_at BJ0_checkIndex_df160_0 5 rfl)
theorem BJ0_coder_7d493_0 : bsegs (ByteArray.data cJ0_coder_7d493 |>.toList.drop 0) 0 [(0, [178, 0, 38]), (3, [153, 0, 10]), (6, [42]), (7, [180, 0, 15]), (10, [167, 0, 4]), (14, [172])] = true := by decide +kernel
theorem dJ0_coder_7d493_0 : decode cJ0_coder_7d493 0 = .ok (.getstatic 38, 3) := dk_178 0 38 (bs_at BJ0_coder_7d493_0 0 rfl) rfl
theorem dJ0_coder_7d493_3 : decode cJ0_coder_7d493 3 = .ok (.ifCond .eq 10, 3) := dk_153 0 10 (bs_at BJ0_coder_7d493_0 1 rfl) rfl
theorem dJ0_coder_7d493_6 : decode cJ0_coder_7d493 6 = .ok (.aload_n 0, 1) := dk_42 (bs_at BJ0_coder_7d493_0 2 rfl)
theorem dJ0_coder_7d493_7 : decode cJ0_coder_7d493 7 = .ok (.getfield 15, 3) := dk_180 0 15 (bs_at BJ0_coder_7d493_0 3 rfl) rfl
theorem dJ0_coder_7d493_10 : decode cJ0_coder_7d493 10 = .ok (.goto 4, 3) := dk_167 0 4 (bs_at BJ0_coder_7d493_0 4 rfl) rfl
theorem dJ0_coder_7d493_14 : decode cJ0_coder_7d493 14 = .ok (.ireturn, 1) := dk_172 (bs_at BJ0_coder_7d493_0 5 rfl)
theorem BJ0_isLatin1_aae02_0 : bsegs (ByteArray.data cJ0_isLatin1_aae02 |>.toList.drop 0) 0 [(0, [178, 0, 38]), (3, [153, 0, 14]), (6, [42]), (7, [180, 0, 15]), (10, [154, 0, 7]), (13, [4]), (14, [167, 0, 4]), (18, [172])] = true := by decide +kernel
theorem dJ0_isLatin1_aae02_0 : decode cJ0_isLatin1_aae02 0 = .ok (.getstatic 38, 3) := dk_178 0 38 (bs_at BJ0_isLatin1_aae02_0 0 rfl) rfl
theorem dJ0_isLatin1_aae02_3 : decode cJ0_isLatin1_aae02 3 = .ok (.ifCond .eq 14, 3) := dk_153 0 14 (bs_at BJ0_isLatin1_aae02_0 1 rfl) rfl
theorem dJ0_isLatin1_aae02_6 : decode cJ0_isLatin1_aae02 6 = .ok (.aload_n 0, 1) := dk_42 (bs_at BJ0_isLatin1_aae02_0 2 rfl)
theorem dJ0_isLatin1_aae02_7 : decode cJ0_isLatin1_aae02 7 = .ok (.getfield 15, 3) := dk_180 0 15 (bs_at BJ0_isLatin1_aae02_0 3 rfl) rfl
theorem dJ0_isLatin1_aae02_10 : decode cJ0_isLatin1_aae02 10 = .ok (.ifCond .ne 7, 3) := dk_154 0 7 (bs_at BJ0_isLatin1_aae02_0 4 rfl) rfl
theorem dJ0_isLatin1_aae02_13 : decode cJ0_isLatin1_aae02 13 = .ok (.iconst 1, 1) := dk_4 (bs_at BJ0_isLatin1_aae02_0 5 rfl)
theorem dJ0_isLatin1_aae02_14 : decode cJ0_isLatin1_aae02 14 = .ok (.goto 4, 3) := dk_167 0 4 (bs_at BJ0_isLatin1_aae02_0 6 rfl) rfl
theorem dJ0_isLatin1_aae02_18 : decode cJ0_isLatin1_aae02 18 = .ok (.ireturn, 1) := dk_172 (bs_at BJ0_isLatin1_aae02_0 7 rfl)
theorem BJ0_length_8abf5_0 : bsegs (ByteArray.data cJ0_length_8abf5 |>.toList.drop 0) 0 [(0, [42]), (1, [180, 0, 9]), (4, [190]), (5, [42]), (6, [182, 1, 79]), (9, [122]), (10, [172])] = true := by decide +kernel
theorem dJ0_length_8abf5_0 : decode cJ0_length_8abf5 0 = .ok (.aload_n 0, 1) := dk_42 (bs_at BJ0_length_8abf5_0 0 rfl)
theorem dJ0_length_8abf5_1 : decode cJ0_length_8abf5 1 = .ok (.getfield 9, 3) := dk_180 0 9 (bs_at BJ0_length_8abf5_0 1 rfl) rfl
theorem dJ0_length_8abf5_4 : decode cJ0_length_8abf5 4 = .ok (.arraylength, 1) := dk_190 (bs_at BJ0_length_8abf5_0 2 rfl)
theorem dJ0_length_8abf5_5 : decode cJ0_length_8abf5 5 = .ok (.aload_n 0, 1) := dk_42 (bs_at BJ0_length_8abf5_0 3 rfl)
theorem dJ0_length_8abf5_6 : decode cJ0_length_8abf5 6 = .ok (.invokevirtual 335, 3) := dk_182 1 79 (bs_at BJ0_length_8abf5_0 4 rfl) rfl
theorem dJ0_length_8abf5_9 : decode cJ0_length_8abf5 9 = .ok (.ishr, 1) := dk_122 (bs_at BJ0_length_8abf5_0 5 rfl)
theorem dJ0_length_8abf5_10 : decode cJ0_length_8abf5 10 = .ok (.ireturn, 1) := dk_172 (bs_at BJ0_length_8abf5_0 6 rfl)
theorem BJ1_charAt_3b067_0 : bsegs (ByteArray.data cJ1_charAt_3b067 |>.toList.drop 0) 0 [(0, [27]), (1, [42]), (2, [190]), (3, [184, 0, 9]), (6, [42]), (7, [27]), (8, [51]), (9, [17, 0, 255]), (12, [126]), (13, [146]), (14, [172])] = true := by decide +kernel
theorem dJ1_charAt_3b067_0 : decode cJ1_charAt_3b067 0 = .ok (.iload_n 1, 1) := dk_27 (bs_at BJ1_charAt_3b067_0 0 rfl)
theorem dJ1_charAt_3b067_1 : decode cJ1_charAt_3b067 1 = .ok (.aload_n 0, 1) := dk_42 (bs_at BJ1_charAt_3b067_0 1 rfl)
theorem dJ1_charAt_3b067_2 : decode cJ1_charAt_3b067 2 = .ok (.arraylength, 1) := dk_190 (bs_at BJ1_charAt_3b067_0 2 rfl)
theorem dJ1_charAt_3b067_3 : decode cJ1_charAt_3b067 3 = .ok (.invokestatic 9, 3) := dk_184 0 9 (bs_at BJ1_charAt_3b067_0 3 rfl) rfl
theorem dJ1_charAt_3b067_6 : decode cJ1_charAt_3b067 6 = .ok (.aload_n 0, 1) := dk_42 (bs_at BJ1_charAt_3b067_0 4 rfl)
theorem dJ1_charAt_3b067_7 : decode cJ1_charAt_3b067 7 = .ok (.iload_n 1, 1) := dk_27 (bs_at BJ1_charAt_3b067_0 5 rfl)
theorem dJ1_charAt_3b067_8 : decode cJ1_charAt_3b067 8 = .ok (.baload, 1) := dk_51 (bs_at BJ1_charAt_3b067_0 6 rfl)
theorem dJ1_charAt_3b067_9 : decode cJ1_charAt_3b067 9 = .ok (.sipush 255, 3) := dk_17 0 255 (bs_at BJ1_charAt_3b067_0 7 rfl) rfl
theorem dJ1_charAt_3b067_12 : decode cJ1_charAt_3b067 12 = .ok (.iand, 1) := dk_126 (bs_at BJ1_charAt_3b067_0 8 rfl)
theorem dJ1_charAt_3b067_13 : decode cJ1_charAt_3b067 13 = .ok (.i2c, 1) := dk_146 (bs_at BJ1_charAt_3b067_0 9 rfl)
theorem dJ1_charAt_3b067_14 : decode cJ1_charAt_3b067 14 = .ok (.ireturn, 1) := dk_172 (bs_at BJ1_charAt_3b067_0 10 rfl)
theorem BJ0_charAt_5068e_0 : bsegs (ByteArray.data cJ0_charAt_5068e |>.toList.drop 0) 0 [(0, [42]), (1, [182, 1, 236]), (4, [153, 0, 12]), (7, [42]), (8, [180, 0, 9]), (11, [27]), (12, [184, 1, 239]), (15, [172])] = true := by decide +kernel
theorem dJ0_charAt_5068e_0 : decode cJ0_charAt_5068e 0 = .ok (.aload_n 0, 1) := dk_42 (bs_at BJ0_charAt_5068e_0 0 rfl)
theorem dJ0_charAt_5068e_1 : decode cJ0_charAt_5068e 1 = .ok (.invokevirtual 492, 3) := dk_182 1 236 (bs_at BJ0_charAt_5068e_0 1 rfl) rfl
theorem dJ0_charAt_5068e_4 : decode cJ0_charAt_5068e 4 = .ok (.ifCond .eq 12, 3) := dk_153 0 12 (bs_at BJ0_charAt_5068e_0 2 rfl) rfl
theorem dJ0_charAt_5068e_7 : decode cJ0_charAt_5068e 7 = .ok (.aload_n 0, 1) := dk_42 (bs_at BJ0_charAt_5068e_0 3 rfl)
theorem dJ0_charAt_5068e_8 : decode cJ0_charAt_5068e 8 = .ok (.getfield 9, 3) := dk_180 0 9 (bs_at BJ0_charAt_5068e_0 4 rfl) rfl
theorem dJ0_charAt_5068e_11 : decode cJ0_charAt_5068e 11 = .ok (.iload_n 1, 1) := dk_27 (bs_at BJ0_charAt_5068e_0 5 rfl)
theorem dJ0_charAt_5068e_12 : decode cJ0_charAt_5068e 12 = .ok (.invokestatic 495, 3) := dk_184 1 239 (bs_at BJ0_charAt_5068e_0 6 rfl) rfl
theorem dJ0_charAt_5068e_15 : decode cJ0_charAt_5068e 15 = .ok (.ireturn, 1) := dk_172 (bs_at BJ0_charAt_5068e_0 7 rfl)
theorem BX8_find_0 : bsegs (ByteArray.data cX8_find |>.toList.drop 0) 0 [(0, [3]), (1, [61]), (2, [3]), (3, [62]), (4, [3]), (5, [54, 4]), (7, [21, 4]), (9, [43]), (10, [182, 0, 38]), (13, [163, 0, 106]), (16, [21, 4]), (18, [43]), (19, [182, 0, 38]), (22, [162, 0, 12]), (25, [43]), (26, [21, 4]), (28, [182, 0, 43]), (31, [167, 0, 5]), (34, [16, 32]), (36, [54, 5]), (38, [21, 5]), (40, [16, 32]), (42, [159, 0, 47]), (45, [29])] = true := by decide +kernel
theorem dX8_find_0 : decode cX8_find 0 = .ok (.iconst 0, 1) := dk_3 (bs_at BX8_find_0 0 rfl)
theorem dX8_find_1 : decode cX8_find 1 = .ok (.istore_n 2, 1) := dk_61 (bs_at BX8_find_0 1 rfl)
theorem dX8_find_2 : decode cX8_find 2 = .ok (.iconst 0, 1) := dk_3 (bs_at BX8_find_0 2 rfl)
theorem dX8_find_3 : decode cX8_find 3 = .ok (.istore_n 3, 1) := dk_62 (bs_at BX8_find_0 3 rfl)
theorem dX8_find_4 : decode cX8_find 4 = .ok (.iconst 0, 1) := dk_3 (bs_at BX8_find_0 4 rfl)
theorem dX8_find_5 : decode cX8_find 5 = .ok (.istore 4, 2) := dk_54 4 (bs_at BX8_find_0 5 rfl)
theorem dX8_find_7 : decode cX8_find 7 = .ok (.iload 4, 2) := dk_21 4 (bs_at BX8_find_0 6 rfl)
theorem dX8_find_9 : decode cX8_find 9 = .ok (.aload_n 1, 1) := dk_43 (bs_at BX8_find_0 7 rfl)
theorem dX8_find_10 : decode cX8_find 10 = .ok (.invokevirtual 38, 3) := dk_182 0 38 (bs_at BX8_find_0 8 rfl) rfl
theorem dX8_find_13 : decode cX8_find 13 = .ok (.if_icmp .gt 106, 3) := dk_163 0 106 (bs_at BX8_find_0 9 rfl) rfl
theorem dX8_find_16 : decode cX8_find 16 = .ok (.iload 4, 2) := dk_21 4 (bs_at BX8_find_0 10 rfl)
theorem dX8_find_18 : decode cX8_find 18 = .ok (.aload_n 1, 1) := dk_43 (bs_at BX8_find_0 11 rfl)
theorem dX8_find_19 : decode cX8_find 19 = .ok (.invokevirtual 38, 3) := dk_182 0 38 (bs_at BX8_find_0 12 rfl) rfl
theorem dX8_find_22 : decode cX8_find 22 = .ok (.if_icmp .ge 12, 3) := dk_162 0 12 (bs_at BX8_find_0 13 rfl) rfl
theorem dX8_find_25 : decode cX8_find 25 = .ok (.aload_n 1, 1) := dk_43 (bs_at BX8_find_0 14 rfl)
theorem dX8_find_26 : decode cX8_find 26 = .ok (.iload 4, 2) := dk_21 4 (bs_at BX8_find_0 15 rfl)
theorem dX8_find_28 : decode cX8_find 28 = .ok (.invokevirtual 43, 3) := dk_182 0 43 (bs_at BX8_find_0 16 rfl) rfl
theorem dX8_find_31 : decode cX8_find 31 = .ok (.goto 5, 3) := dk_167 0 5 (bs_at BX8_find_0 17 rfl) rfl
theorem dX8_find_34 : decode cX8_find 34 = .ok (.bipush 32, 2) := dk_16 32 (bs_at BX8_find_0 18 rfl) rfl
theorem dX8_find_36 : decode cX8_find 36 = .ok (.istore 5, 2) := dk_54 5 (bs_at BX8_find_0 19 rfl)
theorem dX8_find_38 : decode cX8_find 38 = .ok (.iload 5, 2) := dk_21 5 (bs_at BX8_find_0 20 rfl)
theorem dX8_find_40 : decode cX8_find 40 = .ok (.bipush 32, 2) := dk_16 32 (bs_at BX8_find_0 21 rfl) rfl
theorem dX8_find_42 : decode cX8_find 42 = .ok (.if_icmp .eq 47, 3) := dk_159 0 47 (bs_at BX8_find_0 22 rfl) rfl
theorem dX8_find_45 : decode cX8_find 45 = .ok (.iload_n 3, 1) := dk_29 (bs_at BX8_find_0 23 rfl)
theorem BX8_find_46 : bsegs (ByteArray.data cX8_find |>.toList.drop 46) 46 [(46, [155, 0, 38]), (49, [42]), (50, [180, 0, 19]), (53, [29]), (54, [96]), (55, [42]), (56, [180, 0, 22]), (59, [162, 0, 25]), (62, [42]), (63, [180, 0, 11]), (66, [42]), (67, [180, 0, 19]), (70, [29]), (71, [96]), (72, [46]), (73, [21, 5]), (75, [160, 0, 9]), (78, [29]), (79, [4]), (80, [96]), (81, [167, 0, 4]), (84, [2]), (85, [62]), (86, [167, 0, 27])] = true := by decide +kernel
theorem dX8_find_46 : decode cX8_find 46 = .ok (.ifCond .lt 38, 3) := dk_155 0 38 (bs_at BX8_find_46 0 rfl) rfl
theorem dX8_find_49 : decode cX8_find 49 = .ok (.aload_n 0, 1) := dk_42 (bs_at BX8_find_46 1 rfl)
theorem dX8_find_50 : decode cX8_find 50 = .ok (.getfield 19, 3) := dk_180 0 19 (bs_at BX8_find_46 2 rfl) rfl
theorem dX8_find_53 : decode cX8_find 53 = .ok (.iload_n 3, 1) := dk_29 (bs_at BX8_find_46 3 rfl)
theorem dX8_find_54 : decode cX8_find 54 = .ok (.iadd, 1) := dk_96 (bs_at BX8_find_46 4 rfl)
theorem dX8_find_55 : decode cX8_find 55 = .ok (.aload_n 0, 1) := dk_42 (bs_at BX8_find_46 5 rfl)
theorem dX8_find_56 : decode cX8_find 56 = .ok (.getfield 22, 3) := dk_180 0 22 (bs_at BX8_find_46 6 rfl) rfl
theorem dX8_find_59 : decode cX8_find 59 = .ok (.if_icmp .ge 25, 3) := dk_162 0 25 (bs_at BX8_find_46 7 rfl) rfl
theorem dX8_find_62 : decode cX8_find 62 = .ok (.aload_n 0, 1) := dk_42 (bs_at BX8_find_46 8 rfl)
theorem dX8_find_63 : decode cX8_find 63 = .ok (.getfield 11, 3) := dk_180 0 11 (bs_at BX8_find_46 9 rfl) rfl
theorem dX8_find_66 : decode cX8_find 66 = .ok (.aload_n 0, 1) := dk_42 (bs_at BX8_find_46 10 rfl)
theorem dX8_find_67 : decode cX8_find 67 = .ok (.getfield 19, 3) := dk_180 0 19 (bs_at BX8_find_46 11 rfl) rfl
theorem dX8_find_70 : decode cX8_find 70 = .ok (.iload_n 3, 1) := dk_29 (bs_at BX8_find_46 12 rfl)
theorem dX8_find_71 : decode cX8_find 71 = .ok (.iadd, 1) := dk_96 (bs_at BX8_find_46 13 rfl)
theorem dX8_find_72 : decode cX8_find 72 = .ok (.iaload, 1) := dk_46 (bs_at BX8_find_46 14 rfl)
theorem dX8_find_73 : decode cX8_find 73 = .ok (.iload 5, 2) := dk_21 5 (bs_at BX8_find_46 15 rfl)
theorem dX8_find_75 : decode cX8_find 75 = .ok (.if_icmp .ne 9, 3) := dk_160 0 9 (bs_at BX8_find_46 16 rfl) rfl
theorem dX8_find_78 : decode cX8_find 78 = .ok (.iload_n 3, 1) := dk_29 (bs_at BX8_find_46 17 rfl)
theorem dX8_find_79 : decode cX8_find 79 = .ok (.iconst 1, 1) := dk_4 (bs_at BX8_find_46 18 rfl)
theorem dX8_find_80 : decode cX8_find 80 = .ok (.iadd, 1) := dk_96 (bs_at BX8_find_46 19 rfl)
theorem dX8_find_81 : decode cX8_find 81 = .ok (.goto 4, 3) := dk_167 0 4 (bs_at BX8_find_46 20 rfl) rfl
theorem dX8_find_84 : decode cX8_find 84 = .ok (.iconst (-1), 1) := dk_2 (bs_at BX8_find_46 21 rfl)
theorem dX8_find_85 : decode cX8_find 85 = .ok (.istore_n 3, 1) := dk_62 (bs_at BX8_find_46 22 rfl)
theorem dX8_find_86 : decode cX8_find 86 = .ok (.goto 27, 3) := dk_167 0 27 (bs_at BX8_find_46 23 rfl) rfl
theorem BX8_find_89 : bsegs (ByteArray.data cX8_find |>.toList.drop 89) 89 [(89, [29]), (90, [158, 0, 18]), (93, [42]), (94, [180, 0, 19]), (97, [29]), (98, [96]), (99, [42]), (100, [180, 0, 22]), (103, [160, 0, 5]), (106, [28]), (107, [172]), (108, [132, 2, 1]), (111, [3]), (112, [62]), (113, [132, 4, 1]), (116, [167, 255, 147]), (119, [2]), (120, [172])] = true := by decide +kernel
theorem dX8_find_89 : decode cX8_find 89 = .ok (.iload_n 3, 1) := dk_29 (bs_at BX8_find_89 0 rfl)
theorem dX8_find_90 : decode cX8_find 90 = .ok (.ifCond .le 18, 3) := dk_158 0 18 (bs_at BX8_find_89 1 rfl) rfl
theorem dX8_find_93 : decode cX8_find 93 = .ok (.aload_n 0, 1) := dk_42 (bs_at BX8_find_89 2 rfl)
theorem dX8_find_94 : decode cX8_find 94 = .ok (.getfield 19, 3) := dk_180 0 19 (bs_at BX8_find_89 3 rfl) rfl
theorem dX8_find_97 : decode cX8_find 97 = .ok (.iload_n 3, 1) := dk_29 (bs_at BX8_find_89 4 rfl)
theorem dX8_find_98 : decode cX8_find 98 = .ok (.iadd, 1) := dk_96 (bs_at BX8_find_89 5 rfl)
theorem dX8_find_99 : decode cX8_find 99 = .ok (.aload_n 0, 1) := dk_42 (bs_at BX8_find_89 6 rfl)
theorem dX8_find_100 : decode cX8_find 100 = .ok (.getfield 22, 3) := dk_180 0 22 (bs_at BX8_find_89 7 rfl) rfl
theorem dX8_find_103 : decode cX8_find 103 = .ok (.if_icmp .ne 5, 3) := dk_160 0 5 (bs_at BX8_find_89 8 rfl) rfl
theorem dX8_find_106 : decode cX8_find 106 = .ok (.iload_n 2, 1) := dk_28 (bs_at BX8_find_89 9 rfl)
theorem dX8_find_107 : decode cX8_find 107 = .ok (.ireturn, 1) := dk_172 (bs_at BX8_find_89 10 rfl)
theorem dX8_find_108 : decode cX8_find 108 = .ok (.iinc 2 1, 3) := dk_132 2 1 (bs_at BX8_find_89 11 rfl) rfl
theorem dX8_find_111 : decode cX8_find 111 = .ok (.iconst 0, 1) := dk_3 (bs_at BX8_find_89 12 rfl)
theorem dX8_find_112 : decode cX8_find 112 = .ok (.istore_n 3, 1) := dk_62 (bs_at BX8_find_89 13 rfl)
theorem dX8_find_113 : decode cX8_find 113 = .ok (.iinc 4 1, 3) := dk_132 4 1 (bs_at BX8_find_89 14 rfl) rfl
theorem dX8_find_116 : decode cX8_find 116 = .ok (.goto (-109), 3) := dk_167 255 147 (bs_at BX8_find_89 15 rfl) rfl
theorem dX8_find_119 : decode cX8_find 119 = .ok (.iconst (-1), 1) := dk_2 (bs_at BX8_find_89 16 rfl)
theorem dX8_find_120 : decode cX8_find 120 = .ok (.ireturn, 1) := dk_172 (bs_at BX8_find_89 17 rfl)
theorem ggJ0_checkIndex_df160_J3_checkIndex_8e157 : GoodIn wsJ0_checkIndex_df160 wsJ3_checkIndex_8e157 := gi_ch ch_J0_checkIndex_df160 ch_J3_checkIndex_8e157 (by decide +kernel)
theorem gJ0_checkIndex_df160_J3_checkIndex_8e157 : GoodIn wsJ0_checkIndex_df160 (va_wsS RJ0 1059 yJ3_checkIndex_8e157 wsJ3_checkIndex_8e157) := gi_ch ch_J0_checkIndex_df160 (ch_s [504, 505, 160] rfl ch_J3_checkIndex_8e157) (by decide +kernel)
theorem ggJ0_length_8abf5_J0_coder_7d493 : GoodIn wsJ0_length_8abf5 wsJ0_coder_7d493 := gi_ch ch_J0_length_8abf5 ch_J0_coder_7d493 (by decide +kernel)
theorem gJ0_length_8abf5_J0_coder_7d493 : GoodIn wsJ0_length_8abf5 (wsV RJ0 335 RJ0 yJ0_coder_7d493 wsJ0_coder_7d493) := gi_ch ch_J0_length_8abf5 (ch_v [484, 485, 486, 158] rfl ch_J0_coder_7d493) (by decide +kernel)
theorem ggJ1_charAt_3b067_J0_checkIndex_df160 : GoodIn wsJ1_charAt_3b067 wsJ0_checkIndex_df160 := gi_ch ch_J1_charAt_3b067 ch_J0_checkIndex_df160 (by decide +kernel)
theorem gJ1_charAt_3b067_J0_checkIndex_df160 : GoodIn wsJ1_charAt_3b067 (va_wsS RJ1 9 yJ0_checkIndex_df160 wsJ0_checkIndex_df160) := gi_ch ch_J1_charAt_3b067 (ch_s [500, 501, 158] rfl ch_J0_checkIndex_df160) (by decide +kernel)
theorem ggJ0_charAt_5068e_J0_isLatin1_aae02 : GoodIn wsJ0_charAt_5068e wsJ0_isLatin1_aae02 := gi_ch ch_J0_charAt_5068e ch_J0_isLatin1_aae02 (by decide +kernel)
theorem gJ0_charAt_5068e_J0_isLatin1_aae02 : GoodIn wsJ0_charAt_5068e (wsV RJ0 492 RJ0 yJ0_isLatin1_aae02 wsJ0_isLatin1_aae02) := gi_ch ch_J0_charAt_5068e (ch_v [493, 494, 495, 158] rfl ch_J0_isLatin1_aae02) (by decide +kernel)
theorem ggJ0_charAt_5068e_J1_charAt_3b067 : GoodIn wsJ0_charAt_5068e wsJ1_charAt_3b067 := gi_ch ch_J0_charAt_5068e ch_J1_charAt_3b067 (by decide +kernel)
theorem gJ0_charAt_5068e_J1_charAt_3b067 : GoodIn wsJ0_charAt_5068e (va_wsS RJ0 495 yJ1_charAt_3b067 wsJ1_charAt_3b067) := gi_ch ch_J0_charAt_5068e (ch_s [497, 498, 159] rfl ch_J1_charAt_3b067) (by decide +kernel)
theorem ggX8_find_J0_length_8abf5 : GoodIn wsX8_find wsJ0_length_8abf5 := gi_ch ch_X8_find ch_J0_length_8abf5 (by decide +kernel)
theorem gX8_find_J0_length_8abf5 : GoodIn wsX8_find (wsV RX8 38 RJ0 yJ0_length_8abf5 wsJ0_length_8abf5) := gi_ch ch_X8_find (ch_v [480, 481, 482, 158] rfl ch_J0_length_8abf5) (by decide +kernel)
theorem ggX8_find_J0_charAt_5068e : GoodIn wsX8_find wsJ0_charAt_5068e := gi_ch ch_X8_find ch_J0_charAt_5068e (by decide +kernel)
theorem gX8_find_J0_charAt_5068e : GoodIn wsX8_find (wsV RX8 43 RJ0 yJ0_charAt_5068e wsJ0_charAt_5068e) := gi_ch ch_X8_find (ch_v [489, 490, 491, 158] rfl ch_J0_charAt_5068e) (by decide +kernel)
set_option maxHeartbeats 4000000 in
set_option maxRecDepth 100000 in
theorem w_check3_0 (l : Launch) (D : va_G) (K : Nat → ClassId) (X : Int) (Y : Int) (x : Int32) (y : Int32) (sz : Nat) (qx : x.toInt = X) (qy : y.toInt = Y) (hix : 0 ≤ X ∧ X < Y) : Met l yJ3_checkIndex_8e157 wsJ3_checkIndex_8e157 ({ frames := 0, cells := 0, slots := 0, locals := 0 }) (va_Pc [.int x, .int y, .null] (Pre D K [] sz)) (vp_Si (fun r : Int32 => ((r = x)) ∧ True)) 0 0 (fun _ => False) := by
  refine Met.ofW (cc := cJ3_checkIndex_8e157) (maxL := 3) (ret := (some .int)) (by decide +kernel) rfl ?_
  intro p e s m args below meth c s₁ B hml hv
  obtain ⟨rfl, hsz, hP, hK, hD0, hN⟩ := hv
  have hx := B.exec
  have hb := B.bytes
  have hr := B.returns
  have hts := atoms_spec (ws := wsJ3_checkIndex_8e157) B.pre
  have hown : s.vm.findClass RJ3 = some m.cls := findClass_of_methodNamed B.named
  have hlocks := B.notSynchronized
  subst hsz
  have hD := hD0
  replace hP : va_P D vwCl [] s.heap := hP
  have hl := lv_entry [.int x, .int y, .null] (n := 3) (Nat.le_of_ble_eq_true rfl)
  rw [lg_entry_eq]
  generalize (lg_sl [.int x, .int y, .null] ++ List.replicate (3 - (lg_sl [.int x, .int y, .null]).length) Slot.unset).toArray = ls at hl ⊢
  have hl : lv_has ls 3 [(0, .int x), (1, .int y), (2, .null)] := hl
  generalize hQ : MQ below _ _ s _ _ _ = Q
  refine lv_iload_n hx hb dJ3_checkIndex_8e157_0 rfl (lv_at hl 0 rfl) ?_
  refine lv_if_lt (tgt := 9) hx hb dJ3_checkIndex_8e157_1 (by decide +kernel) (fun c_63 => ?_) (fun c_63 => ?_)
  · have c_63i := i_lt (x := X) (y := 0) qx rfl c_63
    exfalso; omega
  · have c_63i := i_nlt (x := X) (y := 0) qx rfl c_63
    refine lv_iload_n hx hb dJ3_checkIndex_8e157_4 rfl (lv_at hl 0 rfl) ?_
    refine lv_iload_n hx hb dJ3_checkIndex_8e157_5 rfl (lv_at hl 1 rfl) ?_
    refine lv_icmp_lt (tgt := 16) hx hb dJ3_checkIndex_8e157_6 (by decide +kernel) (fun c_64 => ?_) (fun c_64 => ?_)
    · have c_64i := i_lt (x := X) (y := Y) qx qy c_64
      refine lv_iload_n hx hb dJ3_checkIndex_8e157_16 rfl (lv_at hl 0 rfl) ?_
      rw [← hQ]
      exact W.iret (v := x) hx hb hr (fun t ht hW => ⟨_, rfl, ⟨(by first | exact rfl | assumption), trivial⟩, ht⟩) (fun q hq => by cases hq) dJ3_checkIndex_8e157_17
    · have c_64i := i_nlt (x := X) (y := Y) qx qy c_64
      exfalso; omega
set_option maxHeartbeats 4000000 in
set_option maxRecDepth 100000 in
theorem w_check3_1 (l : Launch) (D : va_G) (K : Nat → ClassId) (X : Int) (Y : Int) (x : Int32) (y : Int32) (a9 : Nat) (sz : Nat) (qx : x.toInt = X) (qy : y.toInt = Y) (hix : 0 ≤ X ∧ X < Y) : Met l yJ3_checkIndex_8e157 wsJ3_checkIndex_8e157 ({ frames := 0, cells := 0, slots := 0, locals := 0 }) (va_Pc [.int x, .int y, .ref a9] (Pre D K [] sz)) (vp_Si (fun r : Int32 => ((r = x)) ∧ True)) 0 0 (fun _ => False) := by
  refine Met.ofW (cc := cJ3_checkIndex_8e157) (maxL := 3) (ret := (some .int)) (by decide +kernel) rfl ?_
  intro p e s m args below meth c s₁ B hml hv
  obtain ⟨rfl, hsz, hP, hK, hD0, hN⟩ := hv
  have hx := B.exec
  have hb := B.bytes
  have hr := B.returns
  have hts := atoms_spec (ws := wsJ3_checkIndex_8e157) B.pre
  have hown : s.vm.findClass RJ3 = some m.cls := findClass_of_methodNamed B.named
  have hlocks := B.notSynchronized
  subst hsz
  have hD := hD0
  replace hP : va_P D vwCl [] s.heap := hP
  have hl := lv_entry [.int x, .int y, .ref a9] (n := 3) (Nat.le_of_ble_eq_true rfl)
  rw [lg_entry_eq]
  generalize (lg_sl [.int x, .int y, .ref a9] ++ List.replicate (3 - (lg_sl [.int x, .int y, .ref a9]).length) Slot.unset).toArray = ls at hl ⊢
  have hl : lv_has ls 3 [(0, .int x), (1, .int y), (2, .ref a9)] := hl
  generalize hQ : MQ below _ _ s _ _ _ = Q
  refine lv_iload_n hx hb dJ3_checkIndex_8e157_0 rfl (lv_at hl 0 rfl) ?_
  refine lv_if_lt (tgt := 9) hx hb dJ3_checkIndex_8e157_1 (by decide +kernel) (fun c_63 => ?_) (fun c_63 => ?_)
  · have c_63i := i_lt (x := X) (y := 0) qx rfl c_63
    exfalso; omega
  · have c_63i := i_nlt (x := X) (y := 0) qx rfl c_63
    refine lv_iload_n hx hb dJ3_checkIndex_8e157_4 rfl (lv_at hl 0 rfl) ?_
    refine lv_iload_n hx hb dJ3_checkIndex_8e157_5 rfl (lv_at hl 1 rfl) ?_
    refine lv_icmp_lt (tgt := 16) hx hb dJ3_checkIndex_8e157_6 (by decide +kernel) (fun c_64 => ?_) (fun c_64 => ?_)
    · have c_64i := i_lt (x := X) (y := Y) qx qy c_64
      refine lv_iload_n hx hb dJ3_checkIndex_8e157_16 rfl (lv_at hl 0 rfl) ?_
      rw [← hQ]
      exact W.iret (v := x) hx hb hr (fun t ht hW => ⟨_, rfl, ⟨(by first | exact rfl | assumption), trivial⟩, ht⟩) (fun q hq => by cases hq) dJ3_checkIndex_8e157_17
    · have c_64i := i_nlt (x := X) (y := Y) qx qy c_64
      exfalso; omega
set_option maxHeartbeats 4000000 in
set_option maxRecDepth 100000 in
theorem w_check (l : Launch) (D : va_G) (K : Nat → ClassId) (g : Nat → Nat) (L : Nat → Prop) (G : Nat → LC) (X : Int) (Y : Int) (x : Int32) (y : Int32) (sz : Nat) (qx : x.toInt = X) (qy : y.toInt = Y) (hix : 0 ≤ X ∧ X < Y) : Met l yJ0_checkIndex_df160 wsJ0_checkIndex_df160 ({ frames := 1, cells := 0, slots := 0, locals := 22 }) (va_Pc [.int x, .int y] (PreY D K [] [] sz g L G (fun _ => False))) (va_Sv (fun _ => True)) 0 0 (fun _ => False) := by
  refine Met.ofW (cc := cJ0_checkIndex_df160) (maxL := 2) (ret := none) (by decide +kernel) rfl ?_
  intro p e s m args below meth c s₁ B hml hv
  obtain ⟨rfl, ⟨hsz, hP, hK, hD0, hN⟩, hG, hPl, hRo⟩ := hv
  have hx := B.exec
  have hb := B.bytes
  have hr := B.returns
  have hts := atoms_spec (ws := wsJ0_checkIndex_df160) B.pre
  have hown : s.vm.findClass RJ0 = some m.cls := findClass_of_methodNamed B.named
  have hlocks := B.notSynchronized
  subst hsz
  have hD := hD0
  have hS : va_S (fun _ => False) s.heap s.heap [] := va_S.rf
  replace hP : va_P D vwCl [] s.heap := hP
  have hl := lv_entry [.int x, .int y] (n := 2) (Nat.le_of_ble_eq_true rfl)
  rw [lg_entry_eq]
  generalize (lg_sl [.int x, .int y] ++ List.replicate (2 - (lg_sl [.int x, .int y]).length) Slot.unset).toArray = ls at hl ⊢
  have hl : lv_has ls 2 [(0, .int x), (1, .int y)] := hl
  generalize hQ : MQ below _ _ s _ _ _ = Q
  refine lv_iload_n hx hb dJ0_checkIndex_df160_0 rfl (lv_at hl 0 rfl) ?_
  refine lv_iload_n hx hb dJ0_checkIndex_df160_1 rfl (lv_at hl 1 rfl) ?_
  rcases hG.2.1.2 with hZq | ⟨tq, hZq⟩
  · refine va_gets hx hb hZq hS hown (hts _ mm_J0_checkIndex_df160_503) (fun _ h9 => h9) dJ0_checkIndex_df160_2 ?_
    refine pci (va_runS (As := [.int x, .int y, .null]) (rest := []) ⟨hx, hb, hml, hown, hts⟩ (w_check3_0 l D K X Y x y s.heap.size qx qy (by first | omega | decide)) (va_cwS 3 hts gJ0_checkIndex_df160_J3_checkIndex_8e157 rfl rfl rfl (by decide +kernel) ⟨Nat.le_of_ble_eq_true rfl, Nat.le_of_ble_eq_true rfl⟩) (mkS hK hN (va_P.nil) (va_D.nil (A := fun _ => True))) rfl rfl hl.1 rfl (lv_room (Nat.le_of_ble_eq_true rfl)) dJ0_checkIndex_df160_5 ⟨Nat.le_of_ble_eq_true rfl, Nat.le_of_ble_eq_true rfl⟩) (fun r_65 hw => ?_)
    obtain ⟨hw, -⟩ := hw
    have er_r_65 := hw
    have hr_r_65 : r_65.toInt = X := (congrArg Int32.toInt er_r_65).trans qx
    refine lv_pop hx hb dJ0_checkIndex_df160_8 rfl ?_
    rw [← hQ]
    exact W.vret hx hb hr (fun t ht hW => ⟨rfl, trivial, ht⟩) (fun q hq => by cases hq) dJ0_checkIndex_df160_9
  · refine va_gets hx hb hZq hS hown (hts _ mm_J0_checkIndex_df160_503) (fun _ h9 => h9) dJ0_checkIndex_df160_2 ?_
    refine pci (va_runS (As := [.int x, .int y, .ref tq]) (rest := []) ⟨hx, hb, hml, hown, hts⟩ (w_check3_1 l D K X Y x y tq s.heap.size qx qy (by first | omega | decide)) (va_cwS 3 hts gJ0_checkIndex_df160_J3_checkIndex_8e157 rfl rfl rfl (by decide +kernel) ⟨Nat.le_of_ble_eq_true rfl, Nat.le_of_ble_eq_true rfl⟩) (mkS hK hN (va_P.nil) (va_D.nil (A := fun _ => True))) rfl rfl hl.1 rfl (lv_room (Nat.le_of_ble_eq_true rfl)) dJ0_checkIndex_df160_5 ⟨Nat.le_of_ble_eq_true rfl, Nat.le_of_ble_eq_true rfl⟩) (fun r_66 hw => ?_)
    obtain ⟨hw, -⟩ := hw
    have er_r_66 := hw
    have hr_r_66 : r_66.toInt = X := (congrArg Int32.toInt er_r_66).trans qx
    refine lv_pop hx hb dJ0_checkIndex_df160_8 rfl ?_
    rw [← hQ]
    exact W.vret hx hb hr (fun t ht hW => ⟨rfl, trivial, ht⟩) (fun q hq => by cases hq) dJ0_checkIndex_df160_9
set_option maxRecDepth 100000 in
noncomputable def E_w_coder (k : Nat) : Int32 :=
  (0 : Int32)
set_option maxHeartbeats 4000000 in
set_option maxRecDepth 100000 in
theorem w_coder (l : Launch) (D : va_G) (K : Nat → ClassId) (g : Nat → Nat) (L : Nat → Prop) (G : Nat → LC) (k : Nat) (sz : Nat) (hk : k < 13) : Met l yJ0_coder_7d493 wsJ0_coder_7d493 ({ frames := 0, cells := 0, slots := 0, locals := 0 }) (va_Pc [.ref (g (8 + 2 * k))] (PreY D K [] [] sz g L G (fun _ => False))) (vp_Si (fun r : Int32 => ((r = 0)) ∧ (r = E_w_coder k) ∧ True)) 0 0 (fun _ => False) := by
  refine Met.ofW (cc := cJ0_coder_7d493) (maxL := 1) (ret := (some .byte)) (by decide +kernel) rfl ?_
  intro p e s m args below meth c s₁ B hml hv
  obtain ⟨rfl, ⟨hsz, hP, hK, hD0, hN⟩, hG, hPl, hRo⟩ := hv
  have hx := B.exec
  have hb := B.bytes
  have hr := B.returns
  have hts := atoms_spec (ws := wsJ0_coder_7d493) B.pre
  have hown : s.vm.findClass RJ0 = some m.cls := findClass_of_methodNamed B.named
  have hlocks := B.notSynchronized
  subst hsz
  have hD := hD0
  have hS : va_S (fun _ => False) s.heap s.heap [] := va_S.rf
  replace hP : va_P D vwCl [] s.heap := hP
  have hl := lv_entry [.ref (g (8 + 2 * k))] (n := 1) (Nat.le_of_ble_eq_true rfl)
  rw [lg_entry_eq]
  generalize (lg_sl [.ref (g (8 + 2 * k))] ++ List.replicate (1 - (lg_sl [.ref (g (8 + 2 * k))]).length) Slot.unset).toArray = ls at hl ⊢
  have hl : lv_has ls 1 [(0, .ref (g (8 + 2 * k)))] := hl
  generalize hQ : MQ below _ _ s _ _ _ = Q
  have hE := E_w_coder.eq_def k
  refine va_gets hx hb hG.cs hS hown (hts _ mm_J0_coder_7d493_488) (fun _ h9 => h9) dJ0_coder_7d493_0 ?_
  refine lv_if_eq (tgt := 13) hx hb dJ0_coder_7d493_3 (by decide +kernel) (fun c_63 => absurd c_63 (by decide +kernel)) (fun c_63 => ?_)
  refine lv_aload_n hx hb dJ0_coder_7d493_6 rfl (lv_at hl 0 rfl) ?_
  refine vk_getf hx hb (hG.str k hk).2.2.1 hS hown (hts _ mm_J0_coder_7d493_1378) (fun _ h9 => h9) dJ0_coder_7d493_7 ?_
  refine lv_goto (tgt := 14) hx hb dJ0_coder_7d493_10 (by decide +kernel) ?_
  rw [← hQ]
  exact W.zret (v := 0) hx hb hr (by decide +kernel) (fun t ht hW => ⟨_, rfl, ⟨(by first | exact rfl), hE.symm, trivial⟩, ht⟩) (fun q hq => by cases hq) dJ0_coder_7d493_14
set_option maxRecDepth 100000 in
noncomputable def E_w_latin (k : Nat) : Int32 :=
  (1 : Int32)
set_option maxHeartbeats 4000000 in
set_option maxRecDepth 100000 in
theorem w_latin (l : Launch) (D : va_G) (K : Nat → ClassId) (g : Nat → Nat) (L : Nat → Prop) (G : Nat → LC) (k : Nat) (sz : Nat) (hk : k < 13) : Met l yJ0_isLatin1_aae02 wsJ0_isLatin1_aae02 ({ frames := 0, cells := 0, slots := 0, locals := 0 }) (va_Pc [.ref (g (8 + 2 * k))] (PreY D K [] [] sz g L G (fun _ => False))) (vp_Si (fun r : Int32 => ((r = 1)) ∧ (r = E_w_latin k) ∧ True)) 0 0 (fun _ => False) := by
  refine Met.ofW (cc := cJ0_isLatin1_aae02) (maxL := 1) (ret := (some .boolean)) (by decide +kernel) rfl ?_
  intro p e s m args below meth c s₁ B hml hv
  obtain ⟨rfl, ⟨hsz, hP, hK, hD0, hN⟩, hG, hPl, hRo⟩ := hv
  have hx := B.exec
  have hb := B.bytes
  have hr := B.returns
  have hts := atoms_spec (ws := wsJ0_isLatin1_aae02) B.pre
  have hown : s.vm.findClass RJ0 = some m.cls := findClass_of_methodNamed B.named
  have hlocks := B.notSynchronized
  subst hsz
  have hD := hD0
  have hS : va_S (fun _ => False) s.heap s.heap [] := va_S.rf
  replace hP : va_P D vwCl [] s.heap := hP
  have hl := lv_entry [.ref (g (8 + 2 * k))] (n := 1) (Nat.le_of_ble_eq_true rfl)
  rw [lg_entry_eq]
  generalize (lg_sl [.ref (g (8 + 2 * k))] ++ List.replicate (1 - (lg_sl [.ref (g (8 + 2 * k))]).length) Slot.unset).toArray = ls at hl ⊢
  have hl : lv_has ls 1 [(0, .ref (g (8 + 2 * k)))] := hl
  generalize hQ : MQ below _ _ s _ _ _ = Q
  have hE := E_w_latin.eq_def k
  refine va_gets hx hb hG.cs hS hown (hts _ mm_J0_isLatin1_aae02_488) (fun _ h9 => h9) dJ0_isLatin1_aae02_0 ?_
  refine lv_if_eq (tgt := 17) hx hb dJ0_isLatin1_aae02_3 (by decide +kernel) (fun c_71 => absurd c_71 (by decide +kernel)) (fun c_71 => ?_)
  refine lv_aload_n hx hb dJ0_isLatin1_aae02_6 rfl (lv_at hl 0 rfl) ?_
  refine vk_getf hx hb (hG.str k hk).2.2.1 hS hown (hts _ mm_J0_isLatin1_aae02_1378) (fun _ h9 => h9) dJ0_isLatin1_aae02_7 ?_
  refine lv_if_ne (tgt := 17) hx hb dJ0_isLatin1_aae02_10 (by decide +kernel) (fun c_72 => absurd (by decide +kernel) c_72) (fun c_72 => ?_)
  refine lv_iconst (v := 1) hx hb dJ0_isLatin1_aae02_13 (by decide +kernel) ?_
  refine lv_goto (tgt := 18) hx hb dJ0_isLatin1_aae02_14 (by decide +kernel) ?_
  rw [← hQ]
  exact W.zret (v := 1) hx hb hr (by decide +kernel) (fun t ht hW => ⟨_, rfl, ⟨(by first | exact rfl), hE.symm, trivial⟩, ht⟩) (fun q hq => by cases hq) dJ0_isLatin1_aae02_18
set_option maxRecDepth 100000 in
noncomputable def E_w_slen (k : Nat) : Int32 :=
  Lt (E_w_coder k) (fun r_67 => Lt ((nI (sn k)) >>> (0 &&& 31) : Int32) (fun x_69 => (x_69 : Int32)))
set_option maxHeartbeats 4000000 in
set_option maxRecDepth 100000 in
theorem w_slen (l : Launch) (D : va_G) (K : Nat → ClassId) (g : Nat → Nat) (L : Nat → Prop) (G : Nat → LC) (k : Nat) (sz : Nat) (hk : k < 13) : Met l yJ0_length_8abf5 wsJ0_length_8abf5 ({ frames := 1, cells := 0, slots := 0, locals := 20 }) (va_Pc [.ref (g (8 + 2 * k))] (PreY D K [] [] sz g L G (fun _ => False))) (vp_Si (fun r : Int32 => ((0 ≤ r.toInt ∧ r.toInt ≤ ((sn k : Nat) : Int)) ∧ True) ∧ r = E_w_slen k)) 0 0 (fun _ => False) := by
  refine Met.ofW (cc := cJ0_length_8abf5) (maxL := 1) (ret := (some .int)) (by decide +kernel) rfl ?_
  intro p e s m args below meth c s₁ B hml hv
  obtain ⟨rfl, ⟨hsz, hP, hK, hD0, hN⟩, hG, hPl, hRo⟩ := hv
  have hx := B.exec
  have hb := B.bytes
  have hr := B.returns
  have hts := atoms_spec (ws := wsJ0_length_8abf5) B.pre
  have hown : s.vm.findClass RJ0 = some m.cls := findClass_of_methodNamed B.named
  have hlocks := B.notSynchronized
  subst hsz
  have hD := hD0
  have hS : va_S (fun _ => False) s.heap s.heap [] := va_S.rf
  replace hP : va_P D vwCl [] s.heap := hP
  have hl := lv_entry [.ref (g (8 + 2 * k))] (n := 1) (Nat.le_of_ble_eq_true rfl)
  rw [lg_entry_eq]
  generalize (lg_sl [.ref (g (8 + 2 * k))] ++ List.replicate (1 - (lg_sl [.ref (g (8 + 2 * k))]).length) Slot.unset).toArray = ls at hl ⊢
  have hl : lv_has ls 1 [(0, .ref (g (8 + 2 * k)))] := hl
  generalize hQ : MQ below _ _ s _ _ _ = Q
  have hE := E_w_slen.eq_def k
  have hsn := sn_le k
  refine lv_aload_n hx hb dJ0_length_8abf5_0 rfl (lv_at hl 0 rfl) ?_
  refine vk_getf hx hb (hG.str k hk).2.2.2.1 hS hown (hts _ mm_J0_length_8abf5_1377) (fun _ h9 => h9) dJ0_length_8abf5_1 ?_
  refine va_tlen (v := nI (sn k)) hx hb (hG.str k hk).2.2.2.2 hS rfl dJ0_length_8abf5_4 ?_
  refine lv_aload_n hx hb dJ0_length_8abf5_5 rfl (lv_at hl 0 rfl) ?_
  refine pci (va_runV (As := []) (rest := [.int (nI (sn k))]) ⟨hx, hb, hml, hown, hts⟩ (w_coder l D K g L G k s.heap.size hk) (cwV 0 hts gJ0_length_8abf5_J0_coder_7d493 rfl rfl rfl (by decide +kernel) ⟨Nat.le_of_ble_eq_true rfl, Nat.le_of_ble_eq_true rfl⟩) (mkVSY hK hN (hG.str k hk).2 hS (fun U hU hW => ⟨Gl.at hG hS hW hU (fun _ h9 => h9.elim), Pool.at hPl hS hU (fun _ h9 => h9.elim), Ro.heap hU (Ro.nil)⟩)) rfl rfl hl.1 rfl (lv_room (Nat.le_of_ble_eq_true rfl)) dJ0_length_8abf5_6 ⟨Nat.le_of_ble_eq_true rfl, Nat.le_of_ble_eq_true rfl⟩) (fun r_67 hw => ?_)
  obtain ⟨hw, k_68, -⟩ := hw
  replace hE := hE.trans (Lt_in k_68)
  obtain rfl := hw
  refine lv_ishr hx hb dJ0_length_8abf5_9 ?_
  refine lv_topi (fun x_69 ex_69 => ?_)
  replace hE := hE.trans (Lt_in ex_69)
  have hx_69 : 0 ≤ x_69.toInt ∧ x_69.toInt ≤ ((sn k : Nat) : Int) := by rw [ex_69]; exact i_shr (nI_toInt (by omega)) (by omega)
  rw [← hQ]
  exact W.iret (v := x_69) hx hb hr (fun t ht hW => ⟨_, rfl, ⟨⟨by omega, trivial⟩, hE.symm⟩, ht⟩) (fun q hq => by cases hq) dJ0_length_8abf5_10
set_option maxRecDepth 100000 in
noncomputable def E_w_char1 (k : Nat) (x : Int32) : Int32 :=
  Lt (sf k (x : Int32).toNatClampNeg : Int32) (fun x_68 => Lt (x_68 &&& 255 : Int32) (fun x_69 => ((x_69.toUInt32 % 65536).toInt32 : Int32)))
set_option maxHeartbeats 4000000 in
set_option maxRecDepth 100000 in
theorem w_char1 (l : Launch) (D : va_G) (K : Nat → ClassId) (g : Nat → Nat) (L : Nat → Prop) (G : Nat → LC) (k : Nat) (X : Int) (x : Int32) (sz : Nat) (hk : k < 13) (qx : x.toInt = X) (hix : 0 ≤ X ∧ X < ((sn k : Nat) : Int)) : Met l yJ1_charAt_3b067 wsJ1_charAt_3b067 ({ frames := 2, cells := 0, slots := 0, locals := 43 }) (va_Pc [.ref (g (9 + 2 * k)), .int x] (PreY D K [] [] sz g L G (fun _ => False))) (vp_Si (fun r : Int32 => (narrow .char (.int r) = .int r) ∧ r = E_w_char1 k x)) 0 0 (fun _ => False) := by
  refine Met.ofW (cc := cJ1_charAt_3b067) (maxL := 2) (ret := (some .char)) (by decide +kernel) rfl ?_
  intro p e s m args below meth c s₁ B hml hv
  obtain ⟨rfl, ⟨hsz, hP, hK, hD0, hN⟩, hG, hPl, hRo⟩ := hv
  have hx := B.exec
  have hb := B.bytes
  have hr := B.returns
  have hts := atoms_spec (ws := wsJ1_charAt_3b067) B.pre
  have hown : s.vm.findClass RJ1 = some m.cls := findClass_of_methodNamed B.named
  have hlocks := B.notSynchronized
  subst hsz
  have hD := hD0
  have hS : va_S (fun _ => False) s.heap s.heap [] := va_S.rf
  replace hP : va_P D vwCl [] s.heap := hP
  have hl := lv_entry [.ref (g (9 + 2 * k)), .int x] (n := 2) (Nat.le_of_ble_eq_true rfl)
  rw [lg_entry_eq]
  generalize (lg_sl [.ref (g (9 + 2 * k)), .int x] ++ List.replicate (2 - (lg_sl [.ref (g (9 + 2 * k)), .int x]).length) Slot.unset).toArray = ls at hl ⊢
  have hl : lv_has ls 2 [(0, .ref (g (9 + 2 * k))), (1, .int x)] := hl
  generalize hQ : MQ below _ _ s _ _ _ = Q
  have hE := E_w_char1.eq_def k x
  have hsn := sn_le k
  refine lv_iload_n hx hb dJ1_charAt_3b067_0 rfl (lv_at hl 1 rfl) ?_
  refine lv_aload_n hx hb dJ1_charAt_3b067_1 rfl (lv_at hl 0 rfl) ?_
  refine va_tlen (v := nI (sn k)) hx hb (hG.str k hk).2.2.2.2 hS rfl dJ1_charAt_3b067_2 ?_
  refine pcv (va_runS (As := [.int x, .int (nI (sn k))]) (rest := []) ⟨hx, hb, hml, hown, hts⟩ (w_check l D K g L G X ((sn k : Nat) : Int) x (nI (sn k)) s.heap.size qx (nI_toInt (by omega)) (by first | omega | decide)) (va_cwS 2 hts gJ1_charAt_3b067_J0_checkIndex_df160 rfl rfl rfl (by decide +kernel) ⟨Nat.le_of_ble_eq_true rfl, Nat.le_of_ble_eq_true rfl⟩) (mkSY hK hN (va_P.nil) (va_D.nil (A := fun _ => True)) (fun U hU hW => ⟨Gl.at hG hS hW hU (fun _ h9 => h9.elim), Pool.at hPl hS hU (fun _ h9 => h9.elim), Ro.heap hU (Ro.nil)⟩)) rfl rfl hl.1 rfl (lv_room (Nat.le_of_ble_eq_true rfl)) dJ1_charAt_3b067_3 ⟨Nat.le_of_ble_eq_true rfl, Nat.le_of_ble_eq_true rfl⟩) (fun hw => ?_)
  refine lv_aload_n hx hb dJ1_charAt_3b067_6 rfl (lv_at hl 0 rfl) ?_
  refine lv_iload_n hx hb dJ1_charAt_3b067_7 rfl (lv_at hl 1 rfl) ?_
  refine va_tb (v := .int (sf k (x : Int32).toNatClampNeg)) hx hb (hG.str k hk).2.2.2.2 hS (i_in qx (by omega)) rfl dJ1_charAt_3b067_8 ?_
  refine lv_topi (fun x_68 ex_68 => ?_)
  replace hE := hE.trans (Lt_in ex_68)
  refine lv_sipush (v := 255) hx hb dJ1_charAt_3b067_9 (by decide +kernel) ?_
  refine lv_iand hx hb dJ1_charAt_3b067_12 ?_
  refine lv_topi (fun x_69 ex_69 => ?_)
  replace hE := hE.trans (Lt_in ex_69)
  have hx_69 : 0 ≤ x_69.toInt ∧ x_69.toInt ≤ 255 := by rw [ex_69]; exact i_mask x_68 8 rfl (by decide +kernel)
  refine lv_i2c hx hb dJ1_charAt_3b067_13 rfl ?_
  rw [← hQ]
  exact W.zret (v := (x_69.toUInt32 % 65536).toInt32) hx hb hr (by first | exact pk_nc _ | assumption) (fun t ht hW => ⟨_, rfl, ⟨pk_nc _, hE.symm⟩, ht⟩) (fun q hq => by cases hq) dJ1_charAt_3b067_14
set_option maxRecDepth 100000 in
noncomputable def E_w_char (k : Nat) (x : Int32) : Int32 :=
  Lt (E_w_latin k) (fun r_71 => Lt (E_w_char1 k x) (fun r_74 => (r_74 : Int32)))
set_option maxHeartbeats 4000000 in
set_option maxRecDepth 100000 in
theorem w_char (l : Launch) (D : va_G) (K : Nat → ClassId) (g : Nat → Nat) (L : Nat → Prop) (G : Nat → LC) (k : Nat) (X : Int) (x : Int32) (sz : Nat) (hk : k < 13) (qx : x.toInt = X) (hix : 0 ≤ X ∧ X < ((sn k : Nat) : Int)) : Met l yJ0_charAt_5068e wsJ0_charAt_5068e ({ frames := 3, cells := 0, slots := 0, locals := 64 }) (va_Pc [.ref (g (8 + 2 * k)), .int x] (PreY D K [] [] sz g L G (fun _ => False))) (vp_Si (fun r : Int32 => (narrow .char (.int r) = .int r) ∧ r = E_w_char k x)) 0 0 (fun _ => False) := by
  refine Met.ofW (cc := cJ0_charAt_5068e) (maxL := 2) (ret := (some .char)) (by decide +kernel) rfl ?_
  intro p e s m args below meth c s₁ B hml hv
  obtain ⟨rfl, ⟨hsz, hP, hK, hD0, hN⟩, hG, hPl, hRo⟩ := hv
  have hx := B.exec
  have hb := B.bytes
  have hr := B.returns
  have hts := atoms_spec (ws := wsJ0_charAt_5068e) B.pre
  have hown : s.vm.findClass RJ0 = some m.cls := findClass_of_methodNamed B.named
  have hlocks := B.notSynchronized
  subst hsz
  have hD := hD0
  have hS : va_S (fun _ => False) s.heap s.heap [] := va_S.rf
  replace hP : va_P D vwCl [] s.heap := hP
  have hl := lv_entry [.ref (g (8 + 2 * k)), .int x] (n := 2) (Nat.le_of_ble_eq_true rfl)
  rw [lg_entry_eq]
  generalize (lg_sl [.ref (g (8 + 2 * k)), .int x] ++ List.replicate (2 - (lg_sl [.ref (g (8 + 2 * k)), .int x]).length) Slot.unset).toArray = ls at hl ⊢
  have hl : lv_has ls 2 [(0, .ref (g (8 + 2 * k))), (1, .int x)] := hl
  generalize hQ : MQ below _ _ s _ _ _ = Q
  have hE := E_w_char.eq_def k x
  have hsn := sn_le k
  refine lv_aload_n hx hb dJ0_charAt_5068e_0 rfl (lv_at hl 0 rfl) ?_
  refine pci (va_runV (As := []) (rest := []) ⟨hx, hb, hml, hown, hts⟩ (w_latin l D K g L G k s.heap.size hk) (cwV 0 hts gJ0_charAt_5068e_J0_isLatin1_aae02 rfl rfl rfl (by decide +kernel) ⟨Nat.le_of_ble_eq_true rfl, Nat.le_of_ble_eq_true rfl⟩) (mkVSY hK hN (hG.str k hk).2 hS (fun U hU hW => ⟨Gl.at hG hS hW hU (fun _ h9 => h9.elim), Pool.at hPl hS hU (fun _ h9 => h9.elim), Ro.heap hU (Ro.nil)⟩)) rfl rfl hl.1 rfl (lv_room (Nat.le_of_ble_eq_true rfl)) dJ0_charAt_5068e_1 ⟨Nat.le_of_ble_eq_true rfl, Nat.le_of_ble_eq_true rfl⟩) (fun r_71 hw => ?_)
  obtain ⟨hw, k_72, -⟩ := hw
  replace hE := hE.trans (Lt_in k_72)
  obtain rfl := hw
  refine lv_if_eq (tgt := 16) hx hb dJ0_charAt_5068e_4 (by decide +kernel) (fun c_73 => absurd c_73 (by decide +kernel)) (fun c_73 => ?_)
  refine lv_aload_n hx hb dJ0_charAt_5068e_7 rfl (lv_at hl 0 rfl) ?_
  refine vk_getf hx hb (hG.str k hk).2.2.2.1 hS hown (hts _ mm_J0_charAt_5068e_1377) (fun _ h9 => h9) dJ0_charAt_5068e_8 ?_
  refine lv_iload_n hx hb dJ0_charAt_5068e_11 rfl (lv_at hl 1 rfl) ?_
  refine pci (va_runS (As := [.ref (g (9 + 2 * k)), .int x]) (rest := []) ⟨hx, hb, hml, hown, hts⟩ (w_char1 l D K g L G k X x s.heap.size hk qx (by first | omega | decide)) (va_cwS 2 hts gJ0_charAt_5068e_J1_charAt_3b067 rfl rfl rfl (by decide +kernel) ⟨Nat.le_of_ble_eq_true rfl, Nat.le_of_ble_eq_true rfl⟩) (mkSY hK hN (va_P.nil) (va_D.nil (A := fun _ => True)) (fun U hU hW => ⟨Gl.at hG hS hW hU (fun _ h9 => h9.elim), Pool.at hPl hS hU (fun _ h9 => h9.elim), Ro.heap hU (Ro.nil)⟩)) rfl rfl hl.1 rfl (lv_room (Nat.le_of_ble_eq_true rfl)) dJ0_charAt_5068e_12 ⟨Nat.le_of_ble_eq_true rfl, Nat.le_of_ble_eq_true rfl⟩) (fun r_74 hw => ?_)
  obtain ⟨hw, k_75⟩ := hw
  replace hE := hE.trans (Lt_in k_75)
  rw [← hQ]
  exact W.zret (v := r_74) hx hb hr (by first | exact pk_nc _ | assumption) (fun t ht hW => ⟨_, rfl, ⟨hw, hE.symm⟩, ht⟩) (fun q hq => by cases hq) dJ0_charAt_5068e_15
set_option maxRecDepth 100000 in
noncomputable def E_w_find_j108 (v_826 : Int32) (v_828 : Int32) (rec_934 : Int32 → Int32 → Int32 → (Int32)) : Int32 :=
  Lt (v_828 + Int32.ofInt 1 : Int32) (fun x_966 => Lt (v_826 + Int32.ofInt 1 : Int32) (fun x_967 => rec_934 x_967 0 x_966))
set_option maxRecDepth 100000 in
noncomputable def E_w_find_j84 (v_826 : Int32) (v_828 : Int32) (rec_934 : Int32 → Int32 → Int32 → (Int32)) : Int32 :=
  Lt (v_826 + Int32.ofInt 1 : Int32) (fun x_970 => rec_934 x_970 (-1) v_828)
set_option maxRecDepth 100000 in
noncomputable def E_w_find_l7 (k : Nat) (tf : Int32) (tt : Int32) (fb : Nat → Int32) (rec_934 : Int32 → Int32 → Int32 → (Int32)) (v_826 : Int32) (v_827 : Int32) (v_828 : Int32) : Int32 :=
  Lt (E_w_slen k) (fun r_936 => if r_936 < v_826 then (((-1) : Int32)) else (Lt (E_w_slen k) (fun r_939 => if r_939 ≤ v_826 then (if v_827 ≤ 0 then (E_w_find_j108 v_826 v_828 rec_934) else (Lt (tf + v_827 : Int32) (fun x_975 => if x_975 = tt then ((v_828 : Int32)) else (E_w_find_j108 v_826 v_828 rec_934)))) else (Lt (E_w_char k v_826) (fun r_977 => if r_977 = 32 then (if v_827 ≤ 0 then (E_w_find_j108 v_826 v_828 rec_934) else (Lt (tf + v_827 : Int32) (fun x_981 => if x_981 = tt then ((v_828 : Int32)) else (E_w_find_j108 v_826 v_828 rec_934)))) else (if v_827 < 0 then (E_w_find_j84 v_826 v_828 rec_934) else (Lt (tf + v_827 : Int32) (fun x_984 => if tt ≤ x_984 then (E_w_find_j84 v_826 v_828 rec_934) else (Lt (tf + v_827 : Int32) (fun x_986 => Lt (fb (x_986 : Int32).toNatClampNeg : Int32) (fun x_987 => if x_987 = r_977 then (Lt (v_827 + 1 : Int32) (fun x_989 => Lt (v_826 + Int32.ofInt 1 : Int32) (fun x_990 => rec_934 x_990 x_989 v_828))) else (E_w_find_j84 v_826 v_828 rec_934))))))))))))
set_option maxRecDepth 100000 in
noncomputable def E_w_find (k : Nat) (ln : Int32) (tf : Int32) (tt : Int32) (ti : Int32) (tu : Int32) (fb : Nat → Int32) : Int32 :=
  Lp (α := Int32 → Int32 → Int32 → (Int32)) (E_w_find_l7 k tf tt fb) (fun _ _ _ => ((0) : Int32)) ((49 - (0 : Int32).toInt : Int).toNat + 1) 0 0 0
set_option maxHeartbeats 4000000 in
set_option maxRecDepth 100000 in
theorem w_find (l : Launch) (D : va_G) (K : Nat → ClassId) (g : Nat → Nat) (L : Nat → Prop) (G : Nat → LC) (k : Nat) (t0 : Nat) (t1 : Nat) (ln : Int32) (tf : Int32) (tt : Int32) (ti : Int32) (tu : Int32) (fb : Nat → Int32) (sz : Nat) (hk : k < 13) (zln : 0 ≤ ln.toInt ∧ ln.toInt ≤ 400) (ztf : 0 ≤ tf.toInt ∧ tf.toInt ≤ 400) (ztt : 0 ≤ tt.toInt ∧ tt.toInt ≤ 400) (ztu : (-1) ≤ tu.toInt ∧ tu.toInt ≤ 1000000) : Met l yX8_find wsX8_find ({ frames := 4, cells := 0, slots := 0, locals := 85 }) (va_Pc [.ref t0, .ref (g (8 + 2 * k))] (PreY D K [(t0, .inr (8, [.ref t1, .int ln, .int tf, .int tt, .int ti, .int tu])), (t1, .inl (K 0, 400, .inl fb))] [] sz g L G (fun _ => False))) (vp_Si (fun r : Int32 => ((-1) ≤ r.toInt ∧ r.toInt ≤ 48) ∧ (r = E_w_find k ln tf tt ti tu fb) ∧ True)) 0 0 (fun _ => False) := by
  refine Met.ofW (cc := cX8_find) (maxL := 6) (ret := (some .int)) (by decide +kernel) rfl ?_
  intro p e s m args below meth c s₁ B hml hv
  obtain ⟨rfl, ⟨hsz, hP, hK, hD0, hN⟩, hG, hPl, hRo⟩ := hv
  have hx := B.exec
  have hb := B.bytes
  have hr := B.returns
  have hts := atoms_spec (ws := wsX8_find) B.pre
  have hown : s.vm.findClass RX8 = some m.cls := findClass_of_methodNamed B.named
  have hlocks := B.notSynchronized
  subst hsz
  have hD := hD0
  have hS : va_S (fun _ => False) s.heap s.heap [] := va_S.rf
  replace hP : va_P D vwCl [(t0, .inr (8, [.ref t1, .int ln, .int tf, .int tt, .int ti, .int tu])), (t1, .inl (K 0, 400, .inl fb))] s.heap := hP
  have hl := lv_entry [.ref t0, .ref (g (8 + 2 * k))] (n := 6) (Nat.le_of_ble_eq_true rfl)
  rw [lg_entry_eq]
  generalize (lg_sl [.ref t0, .ref (g (8 + 2 * k))] ++ List.replicate (6 - (lg_sl [.ref t0, .ref (g (8 + 2 * k))]).length) Slot.unset).toArray = ls at hl ⊢
  have hl : lv_has ls 6 [(0, .ref t0), (1, .ref (g (8 + 2 * k)))] := hl
  have hw8 : ∀ w ∈ wsX80, w ∈ wsX8_find := fun w h => (List.mem_cons_of_mem _ (List.mem_append_right _ h))
  generalize hQ : MQ below _ _ s _ _ _ = Q
  have hE := E_w_find.eq_def k ln tf tt ti tu fb
  refine lv_iconst (v := 0) hx hb dX8_find_0 (by decide +kernel) ?_
  refine lv_istore_n (lv' := [(2, .int 0), (0, .ref t0), (1, .ref (g (8 + 2 * k)))]) hx hb dX8_find_1 rfl hl (by decide +kernel) rfl (fun ls hl => ?_)
  refine lv_iconst (v := 0) hx hb dX8_find_2 (by decide +kernel) ?_
  refine lv_istore_n (lv' := [(3, .int 0), (2, .int 0), (0, .ref t0), (1, .ref (g (8 + 2 * k)))]) hx hb dX8_find_3 rfl hl (by decide +kernel) rfl (fun ls hl => ?_)
  refine lv_iconst (v := 0) hx hb dX8_find_4 (by decide +kernel) ?_
  refine lv_istore (lv' := [(4, .int 0), (3, .int 0), (2, .int 0), (0, .ref t0), (1, .ref (g (8 + 2 * k)))]) hx hb dX8_find_5 hl (by decide +kernel) rfl (fun ls hl => ?_)
  have lp_934 : ∀ (nn_ : Nat) (v_826 : Int32) (v_827 : Int32) (v_828 : Int32) (hv_826 : 0 ≤ v_826.toInt ∧ v_826.toInt ≤ 48) (hv_827 : (-1) ≤ v_827.toInt ∧ v_827.toInt ≤ 400) (hv_828 : 0 ≤ v_828.toInt ∧ v_828.toInt ≤ 48) (hr0_lp_934 : 0 ≤ v_828.toInt ∧ v_828.toInt ≤ v_826.toInt) (hn : (49 - v_826.toInt : Int).toNat < nn_) (hE : E_w_find k ln tf tt ti tu fb = Lp (α := Int32 → Int32 → Int32 → (Int32)) (E_w_find_l7 k tf tt fb) (fun _ _ _ => ((0) : Int32)) nn_ v_826 v_827 v_828) (ls : Array Slot) (hl : lv_has ls 6 [(4, .int v_826), (3, .int v_827), (2, .int v_828), (0, .ref t0), (1, .ref (g (8 + 2 * k)))]), W p l e ({ frames := 4, cells := 0, slots := 0, locals := 85 }) s m (([.ref t0, .ref (g (8 + 2 * k))] : List Value).toArray) below meth c s.heap [] 0 0 Q (F0 m 7 ls []) := by
    clear hE hl
    intro nn_
    induction nn_ with
    | zero =>
      intro v_826 v_827 v_828 hv_826 hv_827 hv_828 hr0_lp_934 hn hE ls hl
      exact absurd hn (Nat.not_lt_zero _)
    | succ nn_ ih_935 =>
      intro v_826 v_827 v_828 hv_826 hv_827 hv_828 hr0_lp_934 hn hE ls hl
      replace hE : E_w_find k ln tf tt ti tu fb = E_w_find_l7 k tf tt fb (Lp (α := Int32 → Int32 → Int32 → (Int32)) (E_w_find_l7 k tf tt fb) (fun _ _ _ => ((0) : Int32)) nn_) v_826 v_827 v_828 := hE
      obtain ⟨rec_934, hrec_934⟩ : ∃ z9, z9 = Lp (α := Int32 → Int32 → Int32 → (Int32)) (E_w_find_l7 k tf tt fb) (fun _ _ _ => ((0) : Int32)) nn_ := ⟨_, rfl⟩
      rw [← hrec_934] at hE
      replace hE := hE.trans (E_w_find_l7.eq_def _ _ _ _ _ _ _ _)
      refine lv_iload hx hb dX8_find_7 (lv_at hl 0 rfl) ?_
      refine lv_aload_n hx hb dX8_find_9 rfl (lv_at hl 4 rfl) ?_
      refine pci (va_runV (As := []) (rest := [.int v_826]) ⟨hx, hb, hml, hown, hts⟩ (w_slen l D K g L G k s.heap.size hk) (cwV 0 hts gX8_find_J0_length_8abf5 rfl rfl rfl (by decide +kernel) ⟨Nat.le_of_ble_eq_true rfl, Nat.le_of_ble_eq_true rfl⟩) (mkVSY hK hN (hG.str k hk).2 hS (fun U hU hW => ⟨Gl.at hG hS hW hU (fun _ h9 => h9.elim), Pool.at hPl hS hU (fun _ h9 => h9.elim), Ro.heap hU (Ro.nil)⟩)) rfl rfl hl.1 rfl (lv_room (Nat.le_of_ble_eq_true rfl)) dX8_find_10 ⟨Nat.le_of_ble_eq_true rfl, Nat.le_of_ble_eq_true rfl⟩) (fun r_936 hw => ?_)
      obtain ⟨hw, k_937⟩ := hw
      replace hE := hE.trans (Lt_in k_937)
      obtain ⟨hr_936, -⟩ := hw
      have hnr_936 := sn_le k
      refine lv_icmp_gt (tgt := 119) hx hb dX8_find_13 (by decide +kernel) (fun c_938 => ?_) (fun c_938 => ?_)
      · have c_938i := i_lt (x := r_936.toInt) (y := v_826.toInt) rfl rfl c_938
        replace hE := hE.trans (if_pos c_938)
        refine lv_iconst (v := (-1)) hx hb dX8_find_119 (by decide +kernel) ?_
        rw [← hQ]
        exact W.iret (v := (-1)) hx hb hr (fun t ht hW => ⟨_, rfl, ⟨(show (-1) ≤ ((-1) : Int32).toInt ∧ ((-1) : Int32).toInt ≤ 48 by decide), hE.symm, trivial⟩, ht⟩) (fun q hq => by cases hq) dX8_find_120
      · have c_938i := i_nlt (x := r_936.toInt) (y := v_826.toInt) rfl rfl c_938
        replace hE := hE.trans (if_neg c_938)
        refine lv_iload hx hb dX8_find_16 (lv_at hl 0 rfl) ?_
        refine lv_aload_n hx hb dX8_find_18 rfl (lv_at hl 4 rfl) ?_
        refine pci (va_runV (As := []) (rest := [.int v_826]) ⟨hx, hb, hml, hown, hts⟩ (w_slen l D K g L G k s.heap.size hk) (cwV 0 hts gX8_find_J0_length_8abf5 rfl rfl rfl (by decide +kernel) ⟨Nat.le_of_ble_eq_true rfl, Nat.le_of_ble_eq_true rfl⟩) (mkVSY hK hN (hG.str k hk).2 hS (fun U hU hW => ⟨Gl.at hG hS hW hU (fun _ h9 => h9.elim), Pool.at hPl hS hU (fun _ h9 => h9.elim), Ro.heap hU (Ro.nil)⟩)) rfl rfl hl.1 rfl (lv_room (Nat.le_of_ble_eq_true rfl)) dX8_find_19 ⟨Nat.le_of_ble_eq_true rfl, Nat.le_of_ble_eq_true rfl⟩) (fun r_939 hw => ?_)
        obtain ⟨hw, k_940⟩ := hw
        replace hE := hE.trans (Lt_in k_940)
        obtain ⟨hr_939, -⟩ := hw
        have hnr_939 := sn_le k
        have j_965 : ∀ (hE : E_w_find k ln tf tt ti tu fb = E_w_find_j108 v_826 v_828 rec_934) (ls : Array Slot) (hl : lv_has ls 6 [(4, .int v_826), (2, .int v_828), (0, .ref t0), (1, .ref (g (8 + 2 * k)))]), W p l e ({ frames := 4, cells := 0, slots := 0, locals := 85 }) s m (([.ref t0, .ref (g (8 + 2 * k))] : List Value).toArray) below meth c s.heap [] 0 0 Q (F0 m 108 ls []) := by
          clear hE hl
          intro hE ls hl
          replace hE := hE.trans (E_w_find_j108.eq_def _ _ _)
          obtain ⟨x_966, ex_966⟩ : ∃ y : Int32, y = v_828 + Int32.ofInt 1 := ⟨_, rfl⟩
          replace hE := hE.trans (Lt_in ex_966)
          have hx_966 : x_966.toInt = (v_828.toInt + 1) := by rw [ex_966]; exact i_add rfl (show (Int32.ofInt 1).toInt = 1 from rfl) (by omega)
          refine lv_iinc (v := x_966) (lv' := [(2, .int x_966), (4, .int v_826), (0, .ref t0), (1, .ref (g (8 + 2 * k)))]) hx hb dX8_find_108 hl (k := 1) rfl (by rw [ex_966]) (by decide +kernel) rfl (fun ls hl => ?_)
          refine lv_iconst (v := 0) hx hb dX8_find_111 (by decide +kernel) ?_
          refine lv_istore_n (lv' := [(3, .int 0), (2, .int x_966), (4, .int v_826), (0, .ref t0), (1, .ref (g (8 + 2 * k)))]) hx hb dX8_find_112 rfl hl (by decide +kernel) rfl (fun ls hl => ?_)
          obtain ⟨x_967, ex_967⟩ : ∃ y : Int32, y = v_826 + Int32.ofInt 1 := ⟨_, rfl⟩
          replace hE := hE.trans (Lt_in ex_967)
          have hx_967 : x_967.toInt = (v_826.toInt + 1) := by rw [ex_967]; exact i_add rfl (show (Int32.ofInt 1).toInt = 1 from rfl) (by omega)
          refine lv_iinc (v := x_967) (lv' := [(4, .int x_967), (3, .int 0), (2, .int x_966), (0, .ref t0), (1, .ref (g (8 + 2 * k)))]) hx hb dX8_find_113 hl (k := 2) rfl (by rw [ex_967]) (by decide +kernel) rfl (fun ls hl => ?_)
          refine lv_goto (tgt := 7) hx hb dX8_find_116 (by decide +kernel) ?_
          have hz_968 : (0 : Int32).toInt = 0 := rfl
          exact ih_935 x_967 0 x_966 (by rw [hx_967]; omega) (by decide +kernel) (by rw [hx_966]; omega) (show 0 ≤ (x_966 : Int32).toInt ∧ (x_966 : Int32).toInt ≤ (x_967 : Int32).toInt by omega) (by omega) (hE.trans (by rw [hrec_934])) ls (lv_sub hl [0, 1, 2, 3, 4] rfl)
        have j_969 : ∀ (hk0_j_969 : v_826.toInt ≤ 46) (hE : E_w_find k ln tf tt ti tu fb = E_w_find_j84 v_826 v_828 rec_934) (ls : Array Slot) (hl : lv_has ls 6 [(4, .int v_826), (2, .int v_828), (0, .ref t0), (1, .ref (g (8 + 2 * k)))]), W p l e ({ frames := 4, cells := 0, slots := 0, locals := 85 }) s m (([.ref t0, .ref (g (8 + 2 * k))] : List Value).toArray) below meth c s.heap [] 0 0 Q (F0 m 84 ls []) := by
          clear hE hl
          intro hk0_j_969 hE ls hl
          replace hE := hE.trans (E_w_find_j84.eq_def _ _ _)
          refine lv_iconst (v := (-1)) hx hb dX8_find_84 (by decide +kernel) ?_
          refine lv_istore_n (lv' := [(3, .int (-1)), (4, .int v_826), (2, .int v_828), (0, .ref t0), (1, .ref (g (8 + 2 * k)))]) hx hb dX8_find_85 rfl hl (by decide +kernel) rfl (fun ls hl => ?_)
          refine lv_goto (tgt := 113) hx hb dX8_find_86 (by decide +kernel) ?_
          obtain ⟨x_970, ex_970⟩ : ∃ y : Int32, y = v_826 + Int32.ofInt 1 := ⟨_, rfl⟩
          replace hE := hE.trans (Lt_in ex_970)
          have hx_970 : x_970.toInt = (v_826.toInt + 1) := by rw [ex_970]; exact i_add rfl (show (Int32.ofInt 1).toInt = 1 from rfl) (by omega)
          refine lv_iinc (v := x_970) (lv' := [(4, .int x_970), (3, .int (-1)), (2, .int v_828), (0, .ref t0), (1, .ref (g (8 + 2 * k)))]) hx hb dX8_find_113 hl (k := 1) rfl (by rw [ex_970]) (by decide +kernel) rfl (fun ls hl => ?_)
          refine lv_goto (tgt := 7) hx hb dX8_find_116 (by decide +kernel) ?_
          have hz_971 : ((-1) : Int32).toInt = (-1) := rfl
          exact ih_935 x_970 (-1) v_828 (by rw [hx_970]; omega) (by decide +kernel) (by omega) (show 0 ≤ (v_828 : Int32).toInt ∧ (v_828 : Int32).toInt ≤ (x_970 : Int32).toInt by omega) (by omega) (hE.trans (by rw [hrec_934])) ls (lv_sub hl [0, 1, 2, 3, 4] rfl)
        refine lv_icmp_ge (tgt := 34) hx hb dX8_find_22 (by decide +kernel) (fun c_972 => ?_) (fun c_972 => ?_)
        · have c_972i := i_le (x := r_939.toInt) (y := v_826.toInt) rfl rfl c_972
          replace hE := hE.trans (if_pos c_972)
          refine lv_bipush (v := 32) hx hb dX8_find_34 (by decide +kernel) ?_
          refine lv_istore (lv' := [(5, .int 32), (4, .int v_826), (3, .int v_827), (2, .int v_828), (0, .ref t0), (1, .ref (g (8 + 2 * k)))]) hx hb dX8_find_36 hl (by decide +kernel) rfl (fun ls hl => ?_)
          refine lv_iload hx hb dX8_find_38 (lv_at hl 0 rfl) ?_
          refine lv_bipush (v := 32) hx hb dX8_find_40 (by decide +kernel) ?_
          refine lv_icmp_eq (tgt := 89) hx hb dX8_find_42 (by decide +kernel) (fun c_973 => ?_) (fun c_973 => absurd (by decide +kernel) c_973)
          refine lv_iload_n hx hb dX8_find_89 rfl (lv_at hl 2 rfl) ?_
          refine lv_if_le (tgt := 108) hx hb dX8_find_90 (by decide +kernel) (fun c_974 => ?_) (fun c_974 => ?_)
          · have c_974i := i_le (x := v_827.toInt) (y := 0) rfl rfl c_974
            replace hE := hE.trans (if_pos c_974)
            exact j_965   hE ls (lv_sub hl [1, 3, 4, 5] rfl)
          · have c_974i := i_nle (x := v_827.toInt) (y := 0) rfl rfl c_974
            replace hE := hE.trans (if_neg c_974)
            refine lv_aload_n hx hb dX8_find_93 rfl (lv_at hl 4 rfl) ?_
            refine va_get (ci := 8) (v := .int tf) (C := RX8) (T := TX8) (N := 6) hx hb hts hw8 hown hK hP 0 rfl rfl 2 (by decide +kernel) (hts _ mm_X8_find_207) (fun _ h9 => h9) rfl dX8_find_94 ?_
            refine lv_iload_n hx hb dX8_find_97 rfl (lv_at hl 2 rfl) ?_
            refine lv_iadd hx hb dX8_find_98 ?_
            refine lv_topi (fun x_975 ex_975 => ?_)
            replace hE := hE.trans (Lt_in ex_975)
            have hx_975 : x_975.toInt = (tf.toInt + v_827.toInt) := by rw [ex_975]; exact i_add rfl rfl (by omega)
            refine lv_aload_n hx hb dX8_find_99 rfl (lv_at hl 4 rfl) ?_
            refine va_get (ci := 8) (v := .int tt) (C := RX8) (T := TX8) (N := 6) hx hb hts hw8 hown hK hP 0 rfl rfl 3 (by decide +kernel) (hts _ mm_X8_find_208) (fun _ h9 => h9) rfl dX8_find_100 ?_
            refine lv_icmp_ne (tgt := 108) hx hb dX8_find_103 (by decide +kernel) (fun c_976 => ?_) (fun c_976 => ?_)
            · have c_976i := i_ne (x := (tf.toInt + v_827.toInt)) (y := tt.toInt) hx_975 rfl c_976
              replace hE := hE.trans (if_neg c_976)
              exact j_965   hE ls (lv_sub hl [1, 3, 4, 5] rfl)
            · have c_976i := i_eq (x := (tf.toInt + v_827.toInt)) (y := tt.toInt) hx_975 rfl c_976
              replace hE := hE.trans (if_pos c_976)
              refine lv_iload_n hx hb dX8_find_106 rfl (lv_at hl 3 rfl) ?_
              rw [← hQ]
              exact W.iret (v := v_828) hx hb hr (fun t ht hW => ⟨_, rfl, ⟨(show (-1) ≤ v_828.toInt ∧ v_828.toInt ≤ 48 by omega), hE.symm, trivial⟩, ht⟩) (fun q hq => by cases hq) dX8_find_107
        · have c_972i := i_nle (x := r_939.toInt) (y := v_826.toInt) rfl rfl c_972
          replace hE := hE.trans (if_neg c_972)
          refine lv_aload_n hx hb dX8_find_25 rfl (lv_at hl 4 rfl) ?_
          refine lv_iload hx hb dX8_find_26 (lv_at hl 0 rfl) ?_
          refine pci (va_runV (As := [.int v_826]) (rest := []) ⟨hx, hb, hml, hown, hts⟩ (w_char l D K g L G k v_826.toInt v_826 s.heap.size hk rfl (by first | omega | decide)) (cwV 1 hts gX8_find_J0_charAt_5068e rfl rfl rfl (by decide +kernel) ⟨Nat.le_of_ble_eq_true rfl, Nat.le_of_ble_eq_true rfl⟩) (mkVSY hK hN (hG.str k hk).2 hS (fun U hU hW => ⟨Gl.at hG hS hW hU (fun _ h9 => h9.elim), Pool.at hPl hS hU (fun _ h9 => h9.elim), Ro.heap hU (Ro.nil)⟩)) rfl rfl hl.1 rfl (lv_room (Nat.le_of_ble_eq_true rfl)) dX8_find_28 ⟨Nat.le_of_ble_eq_true rfl, Nat.le_of_ble_eq_true rfl⟩) (fun r_977 hw => ?_)
          obtain ⟨hw, k_978⟩ := hw
          replace hE := hE.trans (Lt_in k_978)
          refine lv_goto (tgt := 36) hx hb dX8_find_31 (by decide +kernel) ?_
          refine lv_istore (lv' := [(5, .int r_977), (4, .int v_826), (3, .int v_827), (2, .int v_828), (0, .ref t0), (1, .ref (g (8 + 2 * k)))]) hx hb dX8_find_36 hl (by decide +kernel) rfl (fun ls hl => ?_)
          refine lv_iload hx hb dX8_find_38 (lv_at hl 0 rfl) ?_
          refine lv_bipush (v := 32) hx hb dX8_find_40 (by decide +kernel) ?_
          refine lv_icmp_eq (tgt := 89) hx hb dX8_find_42 (by decide +kernel) (fun c_979 => ?_) (fun c_979 => ?_)
          · have c_979i := i_eq (x := r_977.toInt) (y := 32) rfl rfl c_979
            replace hE := hE.trans (if_pos c_979)
            refine lv_iload_n hx hb dX8_find_89 rfl (lv_at hl 2 rfl) ?_
            refine lv_if_le (tgt := 108) hx hb dX8_find_90 (by decide +kernel) (fun c_980 => ?_) (fun c_980 => ?_)
            · have c_980i := i_le (x := v_827.toInt) (y := 0) rfl rfl c_980
              replace hE := hE.trans (if_pos c_980)
              exact j_965   hE ls (lv_sub hl [1, 3, 4, 5] rfl)
            · have c_980i := i_nle (x := v_827.toInt) (y := 0) rfl rfl c_980
              replace hE := hE.trans (if_neg c_980)
              refine lv_aload_n hx hb dX8_find_93 rfl (lv_at hl 4 rfl) ?_
              refine va_get (ci := 8) (v := .int tf) (C := RX8) (T := TX8) (N := 6) hx hb hts hw8 hown hK hP 0 rfl rfl 2 (by decide +kernel) (hts _ mm_X8_find_207) (fun _ h9 => h9) rfl dX8_find_94 ?_
              refine lv_iload_n hx hb dX8_find_97 rfl (lv_at hl 2 rfl) ?_
              refine lv_iadd hx hb dX8_find_98 ?_
              refine lv_topi (fun x_981 ex_981 => ?_)
              replace hE := hE.trans (Lt_in ex_981)
              have hx_981 : x_981.toInt = (tf.toInt + v_827.toInt) := by rw [ex_981]; exact i_add rfl rfl (by omega)
              refine lv_aload_n hx hb dX8_find_99 rfl (lv_at hl 4 rfl) ?_
              refine va_get (ci := 8) (v := .int tt) (C := RX8) (T := TX8) (N := 6) hx hb hts hw8 hown hK hP 0 rfl rfl 3 (by decide +kernel) (hts _ mm_X8_find_208) (fun _ h9 => h9) rfl dX8_find_100 ?_
              refine lv_icmp_ne (tgt := 108) hx hb dX8_find_103 (by decide +kernel) (fun c_982 => ?_) (fun c_982 => ?_)
              · have c_982i := i_ne (x := (tf.toInt + v_827.toInt)) (y := tt.toInt) hx_981 rfl c_982
                replace hE := hE.trans (if_neg c_982)
                exact j_965   hE ls (lv_sub hl [1, 3, 4, 5] rfl)
              · have c_982i := i_eq (x := (tf.toInt + v_827.toInt)) (y := tt.toInt) hx_981 rfl c_982
                replace hE := hE.trans (if_pos c_982)
                refine lv_iload_n hx hb dX8_find_106 rfl (lv_at hl 3 rfl) ?_
                rw [← hQ]
                exact W.iret (v := v_828) hx hb hr (fun t ht hW => ⟨_, rfl, ⟨(show (-1) ≤ v_828.toInt ∧ v_828.toInt ≤ 48 by omega), hE.symm, trivial⟩, ht⟩) (fun q hq => by cases hq) dX8_find_107
          · have c_979i := i_ne (x := r_977.toInt) (y := 32) rfl rfl c_979
            replace hE := hE.trans (if_neg c_979)
            refine lv_iload_n hx hb dX8_find_45 rfl (lv_at hl 2 rfl) ?_
            refine lv_if_lt (tgt := 84) hx hb dX8_find_46 (by decide +kernel) (fun c_983 => ?_) (fun c_983 => ?_)
            · have c_983i := i_lt (x := v_827.toInt) (y := 0) rfl rfl c_983
              replace hE := hE.trans (if_pos c_983)
              exact j_969  (by omega) hE ls (lv_sub hl [1, 3, 4, 5] rfl)
            · have c_983i := i_nlt (x := v_827.toInt) (y := 0) rfl rfl c_983
              replace hE := hE.trans (if_neg c_983)
              refine lv_aload_n hx hb dX8_find_49 rfl (lv_at hl 4 rfl) ?_
              refine va_get (ci := 8) (v := .int tf) (C := RX8) (T := TX8) (N := 6) hx hb hts hw8 hown hK hP 0 rfl rfl 2 (by decide +kernel) (hts _ mm_X8_find_207) (fun _ h9 => h9) rfl dX8_find_50 ?_
              refine lv_iload_n hx hb dX8_find_53 rfl (lv_at hl 2 rfl) ?_
              refine lv_iadd hx hb dX8_find_54 ?_
              refine lv_topi (fun x_984 ex_984 => ?_)
              replace hE := hE.trans (Lt_in ex_984)
              have hx_984 : x_984.toInt = (tf.toInt + v_827.toInt) := by rw [ex_984]; exact i_add rfl rfl (by omega)
              refine lv_aload_n hx hb dX8_find_55 rfl (lv_at hl 4 rfl) ?_
              refine va_get (ci := 8) (v := .int tt) (C := RX8) (T := TX8) (N := 6) hx hb hts hw8 hown hK hP 0 rfl rfl 3 (by decide +kernel) (hts _ mm_X8_find_208) (fun _ h9 => h9) rfl dX8_find_56 ?_
              refine lv_icmp_ge (tgt := 84) hx hb dX8_find_59 (by decide +kernel) (fun c_985 => ?_) (fun c_985 => ?_)
              · have c_985i := i_le (x := tt.toInt) (y := (tf.toInt + v_827.toInt)) rfl hx_984 c_985
                replace hE := hE.trans (if_pos c_985)
                exact j_969  (by omega) hE ls (lv_sub hl [1, 3, 4, 5] rfl)
              · have c_985i := i_nle (x := tt.toInt) (y := (tf.toInt + v_827.toInt)) rfl hx_984 c_985
                replace hE := hE.trans (if_neg c_985)
                refine lv_aload_n hx hb dX8_find_62 rfl (lv_at hl 4 rfl) ?_
                refine va_get (ci := 8) (v := .ref t1) (C := RX8) (T := TX8) (N := 6) hx hb hts hw8 hown hK hP 0 rfl rfl 0 (by decide +kernel) (hts _ mm_X8_find_205) (fun _ h9 => h9) rfl dX8_find_63 ?_
                refine lv_aload_n hx hb dX8_find_66 rfl (lv_at hl 4 rfl) ?_
                refine va_get (ci := 8) (v := .int tf) (C := RX8) (T := TX8) (N := 6) hx hb hts hw8 hown hK hP 0 rfl rfl 2 (by decide +kernel) (hts _ mm_X8_find_207) (fun _ h9 => h9) rfl dX8_find_67 ?_
                refine lv_iload_n hx hb dX8_find_70 rfl (lv_at hl 2 rfl) ?_
                refine lv_iadd hx hb dX8_find_71 ?_
                refine lv_topi (fun x_986 ex_986 => ?_)
                replace hE := hE.trans (Lt_in ex_986)
                have hx_986 : x_986.toInt = (tf.toInt + v_827.toInt) := by rw [ex_986]; exact i_add rfl rfl (by omega)
                refine va_iald hx hb hK hP 1 0 rfl rfl (i_in hx_986 (by omega)) dX8_find_72 ?_
                refine lv_topi (fun x_987 ex_987 => ?_)
                replace hE := hE.trans (Lt_in ex_987)
                refine lv_iload hx hb dX8_find_73 (lv_at hl 0 rfl) ?_
                refine lv_icmp_ne (tgt := 84) hx hb dX8_find_75 (by decide +kernel) (fun c_988 => ?_) (fun c_988 => ?_)
                · have c_988i := i_ne (x := x_987.toInt) (y := r_977.toInt) rfl rfl c_988
                  replace hE := hE.trans (if_neg c_988)
                  exact j_969  (by omega) hE ls (lv_sub hl [1, 3, 4, 5] rfl)
                · have c_988i := i_eq (x := x_987.toInt) (y := r_977.toInt) rfl rfl c_988
                  replace hE := hE.trans (if_pos c_988)
                  refine lv_iload_n hx hb dX8_find_78 rfl (lv_at hl 2 rfl) ?_
                  refine lv_iconst (v := 1) hx hb dX8_find_79 (by decide +kernel) ?_
                  refine lv_iadd hx hb dX8_find_80 ?_
                  refine lv_topi (fun x_989 ex_989 => ?_)
                  replace hE := hE.trans (Lt_in ex_989)
                  have hx_989 : x_989.toInt = (v_827.toInt + 1) := by rw [ex_989]; exact i_add rfl (show (1 : Int32).toInt = 1 from rfl) (by omega)
                  refine lv_goto (tgt := 85) hx hb dX8_find_81 (by decide +kernel) ?_
                  refine lv_istore_n (lv' := [(3, .int x_989), (5, .int r_977), (4, .int v_826), (2, .int v_828), (0, .ref t0), (1, .ref (g (8 + 2 * k)))]) hx hb dX8_find_85 rfl hl (by decide +kernel) rfl (fun ls hl => ?_)
                  refine lv_goto (tgt := 113) hx hb dX8_find_86 (by decide +kernel) ?_
                  obtain ⟨x_990, ex_990⟩ : ∃ y : Int32, y = v_826 + Int32.ofInt 1 := ⟨_, rfl⟩
                  replace hE := hE.trans (Lt_in ex_990)
                  have hx_990 : x_990.toInt = (v_826.toInt + 1) := by rw [ex_990]; exact i_add rfl (show (Int32.ofInt 1).toInt = 1 from rfl) (by omega)
                  refine lv_iinc (v := x_990) (lv' := [(4, .int x_990), (3, .int x_989), (5, .int r_977), (2, .int v_828), (0, .ref t0), (1, .ref (g (8 + 2 * k)))]) hx hb dX8_find_113 hl (k := 2) rfl (by rw [ex_990]) (by decide +kernel) rfl (fun ls hl => ?_)
                  refine lv_goto (tgt := 7) hx hb dX8_find_116 (by decide +kernel) ?_
                  exact ih_935 x_990 x_989 v_828 (by rw [hx_990]; omega) (by rw [hx_989]; omega) (by omega) (show 0 ≤ (v_828 : Int32).toInt ∧ (v_828 : Int32).toInt ≤ (x_990 : Int32).toInt by omega) (by omega) (hE.trans (by rw [hrec_934])) ls (lv_sub hl [0, 1, 3, 4, 5] rfl)
  have hz_991 : (0 : Int32).toInt = 0 := rfl
  have hz_992 : (0 : Int32).toInt = 0 := rfl
  have hz_993 : (0 : Int32).toInt = 0 := rfl
  exact lp_934 ((49 - (0 : Int32).toInt : Int).toNat + 1) 0 0 0 (by decide +kernel) (by decide +kernel) (by decide +kernel) (show 0 ≤ (0 : Int32).toInt ∧ (0 : Int32).toInt ≤ (0 : Int32).toInt by omega) (Nat.lt_succ_self _) hE ls (lv_sub hl [0, 1, 2, 3, 4] rfl)
