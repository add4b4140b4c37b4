theorem BX0_face_0 : bsegs (ByteArray.data cX0_face |>.toList.drop 0) 0 [(0, [43]), (1, [180, 0, 22]), (4, [3]), (5, [46]), (6, [21, 4]), (8, [96]), (9, [54, 5]), (11, [42]), (12, [180, 0, 18]), (15, [3]), (16, [28]), (17, [79]), (18, [42]), (19, [180, 0, 18]), (22, [4]), (23, [43]), (24, [28]), (25, [3]), (26, [182, 0, 27]), (29, [79]), (30, [42]), (31, [180, 0, 18]), (34, [5]), (35, [43])] = true := by decide +kernel
theorem dX0_face_0 : decode cX0_face 0 = .ok (.aload_n 1, 1) := dk_43 (bs_at BX0_face_0 0 rfl)
theorem dX0_face_1 : decode cX0_face 1 = .ok (.getfield 22, 3) := dk_180 0 22 (bs_at BX0_face_0 1 rfl) rfl
theorem dX0_face_4 : decode cX0_face 4 = .ok (.iconst 0, 1) := dk_3 (bs_at BX0_face_0 2 rfl)
theorem dX0_face_5 : decode cX0_face 5 = .ok (.iaload, 1) := dk_46 (bs_at BX0_face_0 3 rfl)
theorem dX0_face_6 : decode cX0_face 6 = .ok (.iload 4, 2) := dk_21 4 (bs_at BX0_face_0 4 rfl)
theorem dX0_face_8 : decode cX0_face 8 = .ok (.iadd, 1) := dk_96 (bs_at BX0_face_0 5 rfl)
theorem dX0_face_9 : decode cX0_face 9 = .ok (.istore 5, 2) := dk_54 5 (bs_at BX0_face_0 6 rfl)
theorem dX0_face_11 : decode cX0_face 11 = .ok (.aload_n 0, 1) := dk_42 (bs_at BX0_face_0 7 rfl)
theorem dX0_face_12 : decode cX0_face 12 = .ok (.getfield 18, 3) := dk_180 0 18 (bs_at BX0_face_0 8 rfl) rfl
theorem dX0_face_15 : decode cX0_face 15 = .ok (.iconst 0, 1) := dk_3 (bs_at BX0_face_0 9 rfl)
theorem dX0_face_16 : decode cX0_face 16 = .ok (.iload_n 2, 1) := dk_28 (bs_at BX0_face_0 10 rfl)
theorem dX0_face_17 : decode cX0_face 17 = .ok (.iastore, 1) := dk_79 (bs_at BX0_face_0 11 rfl)
theorem dX0_face_18 : decode cX0_face 18 = .ok (.aload_n 0, 1) := dk_42 (bs_at BX0_face_0 12 rfl)
theorem dX0_face_19 : decode cX0_face 19 = .ok (.getfield 18, 3) := dk_180 0 18 (bs_at BX0_face_0 13 rfl) rfl
theorem dX0_face_22 : decode cX0_face 22 = .ok (.iconst 1, 1) := dk_4 (bs_at BX0_face_0 14 rfl)
theorem dX0_face_23 : decode cX0_face 23 = .ok (.aload_n 1, 1) := dk_43 (bs_at BX0_face_0 15 rfl)
theorem dX0_face_24 : decode cX0_face 24 = .ok (.iload_n 2, 1) := dk_28 (bs_at BX0_face_0 16 rfl)
theorem dX0_face_25 : decode cX0_face 25 = .ok (.iconst 0, 1) := dk_3 (bs_at BX0_face_0 17 rfl)
theorem dX0_face_26 : decode cX0_face 26 = .ok (.invokevirtual 27, 3) := dk_182 0 27 (bs_at BX0_face_0 18 rfl) rfl
theorem dX0_face_29 : decode cX0_face 29 = .ok (.iastore, 1) := dk_79 (bs_at BX0_face_0 19 rfl)
theorem dX0_face_30 : decode cX0_face 30 = .ok (.aload_n 0, 1) := dk_42 (bs_at BX0_face_0 20 rfl)
theorem dX0_face_31 : decode cX0_face 31 = .ok (.getfield 18, 3) := dk_180 0 18 (bs_at BX0_face_0 21 rfl) rfl
theorem dX0_face_34 : decode cX0_face 34 = .ok (.iconst 2, 1) := dk_5 (bs_at BX0_face_0 22 rfl)
theorem dX0_face_35 : decode cX0_face 35 = .ok (.aload_n 1, 1) := dk_43 (bs_at BX0_face_0 23 rfl)
theorem BX0_face_36 : bsegs (ByteArray.data cX0_face |>.toList.drop 36) 36 [(36, [28]), (37, [4]), (38, [182, 0, 27]), (41, [79]), (42, [42]), (43, [180, 0, 18]), (46, [6]), (47, [29]), (48, [79]), (49, [42]), (50, [180, 0, 18]), (53, [7]), (54, [43]), (55, [28]), (56, [5]), (57, [182, 0, 27]), (60, [79]), (61, [42]), (62, [180, 0, 18]), (65, [8]), (66, [21, 5]), (68, [16, 24]), (70, [112]), (71, [79])] = true := by decide +kernel
theorem dX0_face_36 : decode cX0_face 36 = .ok (.iload_n 2, 1) := dk_28 (bs_at BX0_face_36 0 rfl)
theorem dX0_face_37 : decode cX0_face 37 = .ok (.iconst 1, 1) := dk_4 (bs_at BX0_face_36 1 rfl)
theorem dX0_face_38 : decode cX0_face 38 = .ok (.invokevirtual 27, 3) := dk_182 0 27 (bs_at BX0_face_36 2 rfl) rfl
theorem dX0_face_41 : decode cX0_face 41 = .ok (.iastore, 1) := dk_79 (bs_at BX0_face_36 3 rfl)
theorem dX0_face_42 : decode cX0_face 42 = .ok (.aload_n 0, 1) := dk_42 (bs_at BX0_face_36 4 rfl)
theorem dX0_face_43 : decode cX0_face 43 = .ok (.getfield 18, 3) := dk_180 0 18 (bs_at BX0_face_36 5 rfl) rfl
theorem dX0_face_46 : decode cX0_face 46 = .ok (.iconst 3, 1) := dk_6 (bs_at BX0_face_36 6 rfl)
theorem dX0_face_47 : decode cX0_face 47 = .ok (.iload_n 3, 1) := dk_29 (bs_at BX0_face_36 7 rfl)
theorem dX0_face_48 : decode cX0_face 48 = .ok (.iastore, 1) := dk_79 (bs_at BX0_face_36 8 rfl)
theorem dX0_face_49 : decode cX0_face 49 = .ok (.aload_n 0, 1) := dk_42 (bs_at BX0_face_36 9 rfl)
theorem dX0_face_50 : decode cX0_face 50 = .ok (.getfield 18, 3) := dk_180 0 18 (bs_at BX0_face_36 10 rfl) rfl
theorem dX0_face_53 : decode cX0_face 53 = .ok (.iconst 4, 1) := dk_7 (bs_at BX0_face_36 11 rfl)
theorem dX0_face_54 : decode cX0_face 54 = .ok (.aload_n 1, 1) := dk_43 (bs_at BX0_face_36 12 rfl)
theorem dX0_face_55 : decode cX0_face 55 = .ok (.iload_n 2, 1) := dk_28 (bs_at BX0_face_36 13 rfl)
theorem dX0_face_56 : decode cX0_face 56 = .ok (.iconst 2, 1) := dk_5 (bs_at BX0_face_36 14 rfl)
theorem dX0_face_57 : decode cX0_face 57 = .ok (.invokevirtual 27, 3) := dk_182 0 27 (bs_at BX0_face_36 15 rfl) rfl
theorem dX0_face_60 : decode cX0_face 60 = .ok (.iastore, 1) := dk_79 (bs_at BX0_face_36 16 rfl)
theorem dX0_face_61 : decode cX0_face 61 = .ok (.aload_n 0, 1) := dk_42 (bs_at BX0_face_36 17 rfl)
theorem dX0_face_62 : decode cX0_face 62 = .ok (.getfield 18, 3) := dk_180 0 18 (bs_at BX0_face_36 18 rfl) rfl
theorem dX0_face_65 : decode cX0_face 65 = .ok (.iconst 5, 1) := dk_8 (bs_at BX0_face_36 19 rfl)
theorem dX0_face_66 : decode cX0_face 66 = .ok (.iload 5, 2) := dk_21 5 (bs_at BX0_face_36 20 rfl)
theorem dX0_face_68 : decode cX0_face 68 = .ok (.bipush 24, 2) := dk_16 24 (bs_at BX0_face_36 21 rfl) rfl
theorem dX0_face_70 : decode cX0_face 70 = .ok (.irem, 1) := dk_112 (bs_at BX0_face_36 22 rfl)
theorem dX0_face_71 : decode cX0_face 71 = .ok (.iastore, 1) := dk_79 (bs_at BX0_face_36 23 rfl)
theorem BX0_face_72 : bsegs (ByteArray.data cX0_face |>.toList.drop 72) 72 [(72, [42]), (73, [180, 0, 18]), (76, [16, 6]), (78, [43]), (79, [180, 0, 22]), (82, [4]), (83, [46]), (84, [21, 5]), (86, [16, 24]), (88, [108]), (89, [96]), (90, [79]), (91, [42]), (92, [180, 0, 18]), (95, [16, 7]), (97, [43]), (98, [180, 0, 22]), (101, [8]), (102, [46]), (103, [79]), (104, [42]), (105, [180, 0, 18]), (108, [16, 8]), (110, [2])] = true := by decide +kernel
theorem dX0_face_72 : decode cX0_face 72 = .ok (.aload_n 0, 1) := dk_42 (bs_at BX0_face_72 0 rfl)
theorem dX0_face_73 : decode cX0_face 73 = .ok (.getfield 18, 3) := dk_180 0 18 (bs_at BX0_face_72 1 rfl) rfl
theorem dX0_face_76 : decode cX0_face 76 = .ok (.bipush 6, 2) := dk_16 6 (bs_at BX0_face_72 2 rfl) rfl
theorem dX0_face_78 : decode cX0_face 78 = .ok (.aload_n 1, 1) := dk_43 (bs_at BX0_face_72 3 rfl)
theorem dX0_face_79 : decode cX0_face 79 = .ok (.getfield 22, 3) := dk_180 0 22 (bs_at BX0_face_72 4 rfl) rfl
theorem dX0_face_82 : decode cX0_face 82 = .ok (.iconst 1, 1) := dk_4 (bs_at BX0_face_72 5 rfl)
theorem dX0_face_83 : decode cX0_face 83 = .ok (.iaload, 1) := dk_46 (bs_at BX0_face_72 6 rfl)
theorem dX0_face_84 : decode cX0_face 84 = .ok (.iload 5, 2) := dk_21 5 (bs_at BX0_face_72 7 rfl)
theorem dX0_face_86 : decode cX0_face 86 = .ok (.bipush 24, 2) := dk_16 24 (bs_at BX0_face_72 8 rfl) rfl
theorem dX0_face_88 : decode cX0_face 88 = .ok (.idiv, 1) := dk_108 (bs_at BX0_face_72 9 rfl)
theorem dX0_face_89 : decode cX0_face 89 = .ok (.iadd, 1) := dk_96 (bs_at BX0_face_72 10 rfl)
theorem dX0_face_90 : decode cX0_face 90 = .ok (.iastore, 1) := dk_79 (bs_at BX0_face_72 11 rfl)
theorem dX0_face_91 : decode cX0_face 91 = .ok (.aload_n 0, 1) := dk_42 (bs_at BX0_face_72 12 rfl)
theorem dX0_face_92 : decode cX0_face 92 = .ok (.getfield 18, 3) := dk_180 0 18 (bs_at BX0_face_72 13 rfl) rfl
theorem dX0_face_95 : decode cX0_face 95 = .ok (.bipush 7, 2) := dk_16 7 (bs_at BX0_face_72 14 rfl) rfl
theorem dX0_face_97 : decode cX0_face 97 = .ok (.aload_n 1, 1) := dk_43 (bs_at BX0_face_72 15 rfl)
theorem dX0_face_98 : decode cX0_face 98 = .ok (.getfield 22, 3) := dk_180 0 22 (bs_at BX0_face_72 16 rfl) rfl
theorem dX0_face_101 : decode cX0_face 101 = .ok (.iconst 5, 1) := dk_8 (bs_at BX0_face_72 17 rfl)
theorem dX0_face_102 : decode cX0_face 102 = .ok (.iaload, 1) := dk_46 (bs_at BX0_face_72 18 rfl)
theorem dX0_face_103 : decode cX0_face 103 = .ok (.iastore, 1) := dk_79 (bs_at BX0_face_72 19 rfl)
theorem dX0_face_104 : decode cX0_face 104 = .ok (.aload_n 0, 1) := dk_42 (bs_at BX0_face_72 20 rfl)
theorem dX0_face_105 : decode cX0_face 105 = .ok (.getfield 18, 3) := dk_180 0 18 (bs_at BX0_face_72 21 rfl) rfl
theorem dX0_face_108 : decode cX0_face 108 = .ok (.bipush 8, 2) := dk_16 8 (bs_at BX0_face_72 22 rfl) rfl
theorem dX0_face_110 : decode cX0_face 110 = .ok (.iconst (-1), 1) := dk_2 (bs_at BX0_face_72 23 rfl)
theorem BX0_face_111 : bsegs (ByteArray.data cX0_face |>.toList.drop 111) 111 [(111, [79]), (112, [177])] = true := by decide +kernel
theorem dX0_face_111 : decode cX0_face 111 = .ok (.iastore, 1) := dk_79 (bs_at BX0_face_111 0 rfl)
theorem dX0_face_112 : decode cX0_face 112 = .ok (.return_, 1) := dk_177 (bs_at BX0_face_111 1 rfl)
theorem BX0_facing_0 : bsegs (ByteArray.data cX0_facing |>.toList.drop 0) 0 [(0, [42]), (1, [180, 0, 18]), (4, [16, 8]), (6, [27]), (7, [79]), (8, [177])] = true := by decide +kernel
theorem dX0_facing_0 : decode cX0_facing 0 = .ok (.aload_n 0, 1) := dk_42 (bs_at BX0_facing_0 0 rfl)
theorem dX0_facing_1 : decode cX0_facing 1 = .ok (.getfield 18, 3) := dk_180 0 18 (bs_at BX0_facing_0 1 rfl) rfl
theorem dX0_facing_4 : decode cX0_facing 4 = .ok (.bipush 8, 2) := dk_16 8 (bs_at BX0_facing_0 2 rfl) rfl
theorem dX0_facing_6 : decode cX0_facing 6 = .ok (.iload_n 1, 1) := dk_27 (bs_at BX0_facing_0 3 rfl)
theorem dX0_facing_7 : decode cX0_facing 7 = .ok (.iastore, 1) := dk_79 (bs_at BX0_facing_0 4 rfl)
theorem dX0_facing_8 : decode cX0_facing 8 = .ok (.return_, 1) := dk_177 (bs_at BX0_facing_0 5 rfl)
theorem BX0_told_0 : bsegs (ByteArray.data cX0_told |>.toList.drop 0) 0 [(0, [43]), (1, [199, 0, 9]), (4, [178, 0, 31]), (7, [28]), (8, [46]), (9, [172]), (10, [43]), (11, [180, 0, 34]), (14, [4]), (15, [100]), (16, [62]), (17, [29]), (18, [155, 0, 124]), (21, [43]), (22, [29]), (23, [3]), (24, [182, 0, 40]), (27, [28]), (28, [159, 0, 6]), (31, [167, 0, 105]), (34, [43]), (35, [29]), (36, [7]), (37, [182, 0, 40])] = true := by decide +kernel
theorem dX0_told_0 : decode cX0_told 0 = .ok (.aload_n 1, 1) := dk_43 (bs_at BX0_told_0 0 rfl)
theorem dX0_told_1 : decode cX0_told 1 = .ok (.ifnonnull 9, 3) := dk_199 0 9 (bs_at BX0_told_0 1 rfl) rfl
theorem dX0_told_4 : decode cX0_told 4 = .ok (.getstatic 31, 3) := dk_178 0 31 (bs_at BX0_told_0 2 rfl) rfl
theorem dX0_told_7 : decode cX0_told 7 = .ok (.iload_n 2, 1) := dk_28 (bs_at BX0_told_0 3 rfl)
theorem dX0_told_8 : decode cX0_told 8 = .ok (.iaload, 1) := dk_46 (bs_at BX0_told_0 4 rfl)
theorem dX0_told_9 : decode cX0_told 9 = .ok (.ireturn, 1) := dk_172 (bs_at BX0_told_0 5 rfl)
theorem dX0_told_10 : decode cX0_told 10 = .ok (.aload_n 1, 1) := dk_43 (bs_at BX0_told_0 6 rfl)
theorem dX0_told_11 : decode cX0_told 11 = .ok (.getfield 34, 3) := dk_180 0 34 (bs_at BX0_told_0 7 rfl) rfl
theorem dX0_told_14 : decode cX0_told 14 = .ok (.iconst 1, 1) := dk_4 (bs_at BX0_told_0 8 rfl)
theorem dX0_told_15 : decode cX0_told 15 = .ok (.isub, 1) := dk_100 (bs_at BX0_told_0 9 rfl)
theorem dX0_told_16 : decode cX0_told 16 = .ok (.istore_n 3, 1) := dk_62 (bs_at BX0_told_0 10 rfl)
theorem dX0_told_17 : decode cX0_told 17 = .ok (.iload_n 3, 1) := dk_29 (bs_at BX0_told_0 11 rfl)
theorem dX0_told_18 : decode cX0_told 18 = .ok (.ifCond .lt 124, 3) := dk_155 0 124 (bs_at BX0_told_0 12 rfl) rfl
theorem dX0_told_21 : decode cX0_told 21 = .ok (.aload_n 1, 1) := dk_43 (bs_at BX0_told_0 13 rfl)
theorem dX0_told_22 : decode cX0_told 22 = .ok (.iload_n 3, 1) := dk_29 (bs_at BX0_told_0 14 rfl)
theorem dX0_told_23 : decode cX0_told 23 = .ok (.iconst 0, 1) := dk_3 (bs_at BX0_told_0 15 rfl)
theorem dX0_told_24 : decode cX0_told 24 = .ok (.invokevirtual 40, 3) := dk_182 0 40 (bs_at BX0_told_0 16 rfl) rfl
theorem dX0_told_27 : decode cX0_told 27 = .ok (.iload_n 2, 1) := dk_28 (bs_at BX0_told_0 17 rfl)
theorem dX0_told_28 : decode cX0_told 28 = .ok (.if_icmp .eq 6, 3) := dk_159 0 6 (bs_at BX0_told_0 18 rfl) rfl
theorem dX0_told_31 : decode cX0_told 31 = .ok (.goto 105, 3) := dk_167 0 105 (bs_at BX0_told_0 19 rfl) rfl
theorem dX0_told_34 : decode cX0_told 34 = .ok (.aload_n 1, 1) := dk_43 (bs_at BX0_told_0 20 rfl)
theorem dX0_told_35 : decode cX0_told 35 = .ok (.iload_n 3, 1) := dk_29 (bs_at BX0_told_0 21 rfl)
theorem dX0_told_36 : decode cX0_told 36 = .ok (.iconst 4, 1) := dk_7 (bs_at BX0_told_0 22 rfl)
theorem dX0_told_37 : decode cX0_told 37 = .ok (.invokevirtual 40, 3) := dk_182 0 40 (bs_at BX0_told_0 23 rfl) rfl
theorem BX0_told_40 : bsegs (ByteArray.data cX0_told |>.toList.drop 40) 40 [(40, [54, 4]), (42, [21, 4]), (44, [2]), (45, [159, 0, 36]), (48, [42]), (49, [180, 0, 12]), (52, [43]), (53, [180, 0, 43]), (56, [21, 4]), (58, [42]), (59, [180, 0, 18]), (62, [182, 0, 46]), (65, [153, 0, 71]), (68, [42]), (69, [180, 0, 12]), (72, [180, 0, 50]), (75, [153, 0, 6]), (78, [167, 0, 58]), (81, [28]), (82, [6]), (83, [160, 0, 5]), (86, [4]), (87, [172]), (88, [42])] = true := by decide +kernel
theorem dX0_told_40 : decode cX0_told 40 = .ok (.istore 4, 2) := dk_54 4 (bs_at BX0_told_40 0 rfl)
theorem dX0_told_42 : decode cX0_told 42 = .ok (.iload 4, 2) := dk_21 4 (bs_at BX0_told_40 1 rfl)
theorem dX0_told_44 : decode cX0_told 44 = .ok (.iconst (-1), 1) := dk_2 (bs_at BX0_told_40 2 rfl)
theorem dX0_told_45 : decode cX0_told 45 = .ok (.if_icmp .eq 36, 3) := dk_159 0 36 (bs_at BX0_told_40 3 rfl) rfl
theorem dX0_told_48 : decode cX0_told 48 = .ok (.aload_n 0, 1) := dk_42 (bs_at BX0_told_40 4 rfl)
theorem dX0_told_49 : decode cX0_told 49 = .ok (.getfield 12, 3) := dk_180 0 12 (bs_at BX0_told_40 5 rfl) rfl
theorem dX0_told_52 : decode cX0_told 52 = .ok (.aload_n 1, 1) := dk_43 (bs_at BX0_told_40 6 rfl)
theorem dX0_told_53 : decode cX0_told 53 = .ok (.getfield 43, 3) := dk_180 0 43 (bs_at BX0_told_40 7 rfl) rfl
theorem dX0_told_56 : decode cX0_told 56 = .ok (.iload 4, 2) := dk_21 4 (bs_at BX0_told_40 8 rfl)
theorem dX0_told_58 : decode cX0_told 58 = .ok (.aload_n 0, 1) := dk_42 (bs_at BX0_told_40 9 rfl)
theorem dX0_told_59 : decode cX0_told 59 = .ok (.getfield 18, 3) := dk_180 0 18 (bs_at BX0_told_40 10 rfl) rfl
theorem dX0_told_62 : decode cX0_told 62 = .ok (.invokevirtual 46, 3) := dk_182 0 46 (bs_at BX0_told_40 11 rfl) rfl
theorem dX0_told_65 : decode cX0_told 65 = .ok (.ifCond .eq 71, 3) := dk_153 0 71 (bs_at BX0_told_40 12 rfl) rfl
theorem dX0_told_68 : decode cX0_told 68 = .ok (.aload_n 0, 1) := dk_42 (bs_at BX0_told_40 13 rfl)
theorem dX0_told_69 : decode cX0_told 69 = .ok (.getfield 12, 3) := dk_180 0 12 (bs_at BX0_told_40 14 rfl) rfl
theorem dX0_told_72 : decode cX0_told 72 = .ok (.getfield 50, 3) := dk_180 0 50 (bs_at BX0_told_40 15 rfl) rfl
theorem dX0_told_75 : decode cX0_told 75 = .ok (.ifCond .eq 6, 3) := dk_153 0 6 (bs_at BX0_told_40 16 rfl) rfl
theorem dX0_told_78 : decode cX0_told 78 = .ok (.goto 58, 3) := dk_167 0 58 (bs_at BX0_told_40 17 rfl) rfl
theorem dX0_told_81 : decode cX0_told 81 = .ok (.iload_n 2, 1) := dk_28 (bs_at BX0_told_40 18 rfl)
theorem dX0_told_82 : decode cX0_told 82 = .ok (.iconst 3, 1) := dk_6 (bs_at BX0_told_40 19 rfl)
theorem dX0_told_83 : decode cX0_told 83 = .ok (.if_icmp .ne 5, 3) := dk_160 0 5 (bs_at BX0_told_40 20 rfl) rfl
theorem dX0_told_86 : decode cX0_told 86 = .ok (.iconst 1, 1) := dk_4 (bs_at BX0_told_40 21 rfl)
theorem dX0_told_87 : decode cX0_told 87 = .ok (.ireturn, 1) := dk_172 (bs_at BX0_told_40 22 rfl)
theorem dX0_told_88 : decode cX0_told 88 = .ok (.aload_n 0, 1) := dk_42 (bs_at BX0_told_40 23 rfl)
theorem BX0_told_89 : bsegs (ByteArray.data cX0_told |>.toList.drop 89) 89 [(89, [180, 0, 12]), (92, [43]), (93, [180, 0, 43]), (96, [43]), (97, [29]), (98, [5]), (99, [182, 0, 40]), (102, [42]), (103, [180, 0, 18]), (106, [182, 0, 46]), (109, [54, 5]), (111, [42]), (112, [180, 0, 12]), (115, [180, 0, 50]), (118, [154, 0, 18]), (121, [3]), (122, [178, 0, 54]), (125, [28]), (126, [46]), (127, [21, 5]), (129, [184, 0, 57]), (132, [184, 0, 62]), (135, [172]), (136, [132, 3, 255])] = true := by decide +kernel
theorem dX0_told_89 : decode cX0_told 89 = .ok (.getfield 12, 3) := dk_180 0 12 (bs_at BX0_told_89 0 rfl) rfl
theorem dX0_told_92 : decode cX0_told 92 = .ok (.aload_n 1, 1) := dk_43 (bs_at BX0_told_89 1 rfl)
theorem dX0_told_93 : decode cX0_told 93 = .ok (.getfield 43, 3) := dk_180 0 43 (bs_at BX0_told_89 2 rfl) rfl
theorem dX0_told_96 : decode cX0_told 96 = .ok (.aload_n 1, 1) := dk_43 (bs_at BX0_told_89 3 rfl)
theorem dX0_told_97 : decode cX0_told 97 = .ok (.iload_n 3, 1) := dk_29 (bs_at BX0_told_89 4 rfl)
theorem dX0_told_98 : decode cX0_told 98 = .ok (.iconst 2, 1) := dk_5 (bs_at BX0_told_89 5 rfl)
theorem dX0_told_99 : decode cX0_told 99 = .ok (.invokevirtual 40, 3) := dk_182 0 40 (bs_at BX0_told_89 6 rfl) rfl
theorem dX0_told_102 : decode cX0_told 102 = .ok (.aload_n 0, 1) := dk_42 (bs_at BX0_told_89 7 rfl)
theorem dX0_told_103 : decode cX0_told 103 = .ok (.getfield 18, 3) := dk_180 0 18 (bs_at BX0_told_89 8 rfl) rfl
theorem dX0_told_106 : decode cX0_told 106 = .ok (.invokevirtual 46, 3) := dk_182 0 46 (bs_at BX0_told_89 9 rfl) rfl
theorem dX0_told_109 : decode cX0_told 109 = .ok (.istore 5, 2) := dk_54 5 (bs_at BX0_told_89 10 rfl)
theorem dX0_told_111 : decode cX0_told 111 = .ok (.aload_n 0, 1) := dk_42 (bs_at BX0_told_89 11 rfl)
theorem dX0_told_112 : decode cX0_told 112 = .ok (.getfield 12, 3) := dk_180 0 12 (bs_at BX0_told_89 12 rfl) rfl
theorem dX0_told_115 : decode cX0_told 115 = .ok (.getfield 50, 3) := dk_180 0 50 (bs_at BX0_told_89 13 rfl) rfl
theorem dX0_told_118 : decode cX0_told 118 = .ok (.ifCond .ne 18, 3) := dk_154 0 18 (bs_at BX0_told_89 14 rfl) rfl
theorem dX0_told_121 : decode cX0_told 121 = .ok (.iconst 0, 1) := dk_3 (bs_at BX0_told_89 15 rfl)
theorem dX0_told_122 : decode cX0_told 122 = .ok (.getstatic 54, 3) := dk_178 0 54 (bs_at BX0_told_89 16 rfl) rfl
theorem dX0_told_125 : decode cX0_told 125 = .ok (.iload_n 2, 1) := dk_28 (bs_at BX0_told_89 17 rfl)
theorem dX0_told_126 : decode cX0_told 126 = .ok (.iaload, 1) := dk_46 (bs_at BX0_told_89 18 rfl)
theorem dX0_told_127 : decode cX0_told 127 = .ok (.iload 5, 2) := dk_21 5 (bs_at BX0_told_89 19 rfl)
theorem dX0_told_129 : decode cX0_told 129 = .ok (.invokestatic 57, 3) := dk_184 0 57 (bs_at BX0_told_89 20 rfl) rfl
theorem dX0_told_132 : decode cX0_told 132 = .ok (.invokestatic 62, 3) := dk_184 0 62 (bs_at BX0_told_89 21 rfl) rfl
theorem dX0_told_135 : decode cX0_told 135 = .ok (.ireturn, 1) := dk_172 (bs_at BX0_told_89 22 rfl)
theorem dX0_told_136 : decode cX0_told 136 = .ok (.iinc 3 (-1), 3) := dk_132 3 255 (bs_at BX0_told_89 23 rfl) rfl
theorem BX0_told_139 : bsegs (ByteArray.data cX0_told |>.toList.drop 139) 139 [(139, [167, 255, 134]), (142, [178, 0, 31]), (145, [28]), (146, [46]), (147, [172])] = true := by decide +kernel
theorem dX0_told_139 : decode cX0_told 139 = .ok (.goto (-122), 3) := dk_167 255 134 (bs_at BX0_told_139 0 rfl) rfl
theorem dX0_told_142 : decode cX0_told 142 = .ok (.getstatic 31, 3) := dk_178 0 31 (bs_at BX0_told_139 1 rfl) rfl
theorem dX0_told_145 : decode cX0_told 145 = .ok (.iload_n 2, 1) := dk_28 (bs_at BX0_told_139 2 rfl)
theorem dX0_told_146 : decode cX0_told 146 = .ok (.iaload, 1) := dk_46 (bs_at BX0_told_139 3 rfl)
theorem dX0_told_147 : decode cX0_told 147 = .ok (.ireturn, 1) := dk_172 (bs_at BX0_told_139 4 rfl)
theorem BX9_lawAt_0 : bsegs (ByteArray.data cX9_lawAt |>.toList.drop 0) 0 [(0, [27]), (1, [3]), (2, [42]), (3, [180, 0, 31]), (6, [4]), (7, [100]), (8, [184, 0, 52]), (11, [153, 0, 12]), (14, [42]), (15, [180, 0, 23]), (18, [27]), (19, [50]), (20, [167, 0, 4]), (23, [1]), (24, [176])] = true := by decide +kernel
theorem dX9_lawAt_0 : decode cX9_lawAt 0 = .ok (.iload_n 1, 1) := dk_27 (bs_at BX9_lawAt_0 0 rfl)
theorem dX9_lawAt_1 : decode cX9_lawAt 1 = .ok (.iconst 0, 1) := dk_3 (bs_at BX9_lawAt_0 1 rfl)
theorem dX9_lawAt_2 : decode cX9_lawAt 2 = .ok (.aload_n 0, 1) := dk_42 (bs_at BX9_lawAt_0 2 rfl)
theorem dX9_lawAt_3 : decode cX9_lawAt 3 = .ok (.getfield 31, 3) := dk_180 0 31 (bs_at BX9_lawAt_0 3 rfl) rfl
theorem dX9_lawAt_6 : decode cX9_lawAt 6 = .ok (.iconst 1, 1) := dk_4 (bs_at BX9_lawAt_0 4 rfl)
theorem dX9_lawAt_7 : decode cX9_lawAt 7 = .ok (.isub, 1) := dk_100 (bs_at BX9_lawAt_0 5 rfl)
theorem dX9_lawAt_8 : decode cX9_lawAt 8 = .ok (.invokestatic 52, 3) := dk_184 0 52 (bs_at BX9_lawAt_0 6 rfl) rfl
theorem dX9_lawAt_11 : decode cX9_lawAt 11 = .ok (.ifCond .eq 12, 3) := dk_153 0 12 (bs_at BX9_lawAt_0 7 rfl) rfl
theorem dX9_lawAt_14 : decode cX9_lawAt 14 = .ok (.aload_n 0, 1) := dk_42 (bs_at BX9_lawAt_0 8 rfl)
theorem dX9_lawAt_15 : decode cX9_lawAt 15 = .ok (.getfield 23, 3) := dk_180 0 23 (bs_at BX9_lawAt_0 9 rfl) rfl
theorem dX9_lawAt_18 : decode cX9_lawAt 18 = .ok (.iload_n 1, 1) := dk_27 (bs_at BX9_lawAt_0 10 rfl)
theorem dX9_lawAt_19 : decode cX9_lawAt 19 = .ok (.aaload, 1) := dk_50 (bs_at BX9_lawAt_0 11 rfl)
theorem dX9_lawAt_20 : decode cX9_lawAt 20 = .ok (.goto 4, 3) := dk_167 0 4 (bs_at BX9_lawAt_0 12 rfl) rfl
theorem dX9_lawAt_23 : decode cX9_lawAt 23 = .ok (.aconst_null, 1) := dk_1 (bs_at BX9_lawAt_0 13 rfl)
theorem dX9_lawAt_24 : decode cX9_lawAt 24 = .ok (.areturn, 1) := dk_176 (bs_at BX9_lawAt_0 14 rfl)
theorem BX9_lawInForce_0 : bsegs (ByteArray.data cX9_lawInForce |>.toList.drop 0) 0 [(0, [42]), (1, [42]), (2, [180, 0, 34]), (5, [182, 0, 64]), (8, [176])] = true := by decide +kernel
theorem dX9_lawInForce_0 : decode cX9_lawInForce 0 = .ok (.aload_n 0, 1) := dk_42 (bs_at BX9_lawInForce_0 0 rfl)
theorem dX9_lawInForce_1 : decode cX9_lawInForce 1 = .ok (.aload_n 0, 1) := dk_42 (bs_at BX9_lawInForce_0 1 rfl)
theorem dX9_lawInForce_2 : decode cX9_lawInForce 2 = .ok (.getfield 34, 3) := dk_180 0 34 (bs_at BX9_lawInForce_0 2 rfl) rfl
theorem dX9_lawInForce_5 : decode cX9_lawInForce 5 = .ok (.invokevirtual 64, 3) := dk_182 0 64 (bs_at BX9_lawInForce_0 3 rfl) rfl
theorem dX9_lawInForce_8 : decode cX9_lawInForce 8 = .ok (.areturn, 1) := dk_176 (bs_at BX9_lawInForce_0 4 rfl)
theorem ggX0_face_X9_fact : GoodIn wsX0_face wsX9_fact := gi_ch ch_X0_face ch_X9_fact (by decide +kernel)
set_option maxRecDepth 20000 in
theorem gX0_face_X9_fact_n27 : GoodIn wsX0_face (wsX9_fact) := ggX0_face_X9_fact
theorem ggX0_told_X7_head : GoodIn wsX0_told wsX7_head := gi_ch ch_X0_told ch_X7_head (by decide +kernel)
set_option maxRecDepth 20000 in
theorem gX0_told_X7_head_n40 : GoodIn wsX0_told (wsX7_head) := ggX0_told_X7_head
theorem ggX0_told_X3_run : GoodIn wsX0_told wsX3_run := gi_ch ch_X0_told ch_X3_run (by decide +kernel)
set_option maxRecDepth 20000 in
theorem gX0_told_X3_run_n46 : GoodIn wsX0_told (wsX3_run) := ggX0_told_X3_run
theorem ggX9_lawAt_X11_within : GoodIn wsX9_lawAt wsX11_within := gi_ch ch_X9_lawAt ch_X11_within (by decide +kernel)
set_option maxRecDepth 20000 in
theorem gX9_lawAt_X11_within_n52 : GoodIn wsX9_lawAt (wsX11_within) := ggX9_lawAt_X11_within
theorem ggX9_lawInForce_X9_lawAt : GoodIn wsX9_lawInForce wsX9_lawAt := gi_ch ch_X9_lawInForce ch_X9_lawAt (by decide +kernel)
theorem gX9_lawInForce_X9_lawAt : GoodIn wsX9_lawInForce (wsV RX9 64 RX9 yX9_lawAt wsX9_lawAt) := gi_ch ch_X9_lawInForce (ch_v [408, 409, 12, 145] rfl ch_X9_lawAt) (by decide +kernel)
set_option maxRecDepth 100000 in
noncomputable def E_w_face (x : Int32) (y : Int32) (z : Int32) (fw : Nat → Int32) (f1 : Nat → Int32) (f2 : Nat → Int32) : (Nat → Int32) :=
  Lt (f2 (0 : Int32).toNatClampNeg : Int32) (fun x_105 => Lt (x_105 + z : Int32) (fun x_106 => Lt (upd fw (0 : Int32).toNatClampNeg x : Nat → Int32) (fun f_107 => Lt (E_w_fact x 0 f1) (fun r_108 => Lt (upd f_107 (1 : Int32).toNatClampNeg r_108 : Nat → Int32) (fun f_110 => Lt (E_w_fact x 1 f1) (fun r_111 => Lt (upd f_110 (2 : Int32).toNatClampNeg r_111 : Nat → Int32) (fun f_113 => Lt (upd f_113 (3 : Int32).toNatClampNeg y : Nat → Int32) (fun f_114 => Lt (E_w_fact x 2 f1) (fun r_115 => Lt (upd f_114 (4 : Int32).toNatClampNeg r_115 : Nat → Int32) (fun f_117 => Lt (x_106 - x_106 / 24 * 24 : Int32) (fun x_118 => Lt (upd f_117 (5 : Int32).toNatClampNeg x_118 : Nat → Int32) (fun f_119 => Lt (f2 (1 : Int32).toNatClampNeg : Int32) (fun x_120 => Lt (x_106 / 24 : Int32) (fun x_121 => Lt (x_120 + x_121 : Int32) (fun x_122 => Lt (upd f_119 (6 : Int32).toNatClampNeg x_122 : Nat → Int32) (fun f_123 => Lt (f2 (5 : Int32).toNatClampNeg : Int32) (fun x_124 => Lt (upd f_123 (7 : Int32).toNatClampNeg x_124 : Nat → Int32) (fun f_125 => Lt (upd f_125 (8 : Int32).toNatClampNeg (-1) : Nat → Int32) (fun f_126 => (f_126 : (Nat → Int32)))))))))))))))))))))
set_option maxHeartbeats 4000000 in
set_option maxRecDepth 100000 in
theorem w_face (l : Launch) (D : va_G) (K : Nat → ClassId) (a0 : Nat) (t0 : Nat) (x : Int32) (y : Int32) (z : Int32) (c_0 : Value) (w0 : Nat) (fw : Nat → Int32) (t1 : Nat) (k_1 : Value) (t2 : Nat) (k_3 : Value) (k_4 : Value) (k_5 : Value) (k_6 : Value) (k_7 : Value) (k_8 : Value) (k_9 : Value) (f1 : Nat → Int32) (f2 : Nat → Int32) (sz : Nat) : Met l yX0_face wsX0_face ({ frames := 1, cells := 0, slots := 0, locals := 23 }) (va_Pc [.ref a0, .ref t0, .int x, .int y, .int z] (Pre D K [(a0, .inr (0, [c_0, .ref w0])), (w0, .inl (K 0, 9, .inl fw)), (t0, .inr (9, [.ref t1, k_1, .ref t2, k_3, k_4, k_5, k_6, k_7, k_8, k_9])), (t1, .inl (K 0, 56, .inl f1)), (t2, .inl (K 0, 6, .inl f2))] sz)) (va_Qv (S := Su) (fun (u : Su) => ((u.2.1 0) = E_w_face x y z fw f1 f2) ∧ True) (fun u t => Wd D (va_A [(a0, .inr (0, [c_0, .ref w0])), (w0, .inl (K 0, 9, .inl fw)), (t0, .inr (9, [.ref t1, k_1, .ref t2, k_3, k_4, k_5, k_6, k_7, k_8, k_9])), (t1, .inl (K 0, 56, .inl f1)), (t2, .inl (K 0, 6, .inl f2))] sz) ((fun u => [(a0, .inr (0, [c_0, .ref w0])), (w0, .inl (K 0, 9, .inl (u.2.1 0))), (t0, .inr (9, [.ref t1, k_1, .ref t2, k_3, k_4, k_5, k_6, k_7, k_8, k_9])), (t1, .inl (K 0, 56, .inl f1)), (t2, .inl (K 0, 6, .inl f2))]) u) t) (va_A [(a0, .inr (0, [c_0, .ref w0])), (w0, .inl (K 0, 9, .inl fw)), (t0, .inr (9, [.ref t1, k_1, .ref t2, k_3, k_4, k_5, k_6, k_7, k_8, k_9])), (t1, .inl (K 0, 56, .inl f1)), (t2, .inl (K 0, 6, .inl f2))] sz)) 0 0 (va_A [(a0, .inr (0, [c_0, .ref w0])), (w0, .inl (K 0, 9, .inl fw)), (t0, .inr (9, [.ref t1, k_1, .ref t2, k_3, k_4, k_5, k_6, k_7, k_8, k_9])), (t1, .inl (K 0, 56, .inl f1)), (t2, .inl (K 0, 6, .inl f2))] sz) := by
  refine Met.ofW (cc := cX0_face) (maxL := 6) (ret := none) (by decide +kernel) rfl ?_
  intro p e s m args below meth c s₁ B hml hv
  obtain ⟨rfl, hsz, hP, hK, hD0, hN⟩ := hv
  have hx := B.exec
  have hb := B.bytes
  have hr := B.returns
  have hts := atoms_spec (ws := wsX0_face) B.pre
  have hown : s.vm.findClass RX0 = some m.cls := findClass_of_methodNamed B.named
  have hlocks := B.notSynchronized
  subst hsz
  have hD := hD0.self (sz := s.heap.size)
  generalize hAe : va_A [(a0, .inr (0, [c_0, .ref w0])), (w0, .inl (K 0, 9, .inl fw)), (t0, .inr (9, [.ref t1, k_1, .ref t2, k_3, k_4, k_5, k_6, k_7, k_8, k_9])), (t1, .inl (K 0, 56, .inl f1)), (t2, .inl (K 0, 6, .inl f2))] s.heap.size = A at hD ⊢
  have hA : ∀ q : Nat, s.heap.size ≤ q → A q := fun q h => by rw [← hAe]; exact Or.inr h
  clear hAe
  have hS : va_S A s.heap s.heap [] := va_S.rf
  replace hP : va_P D vwCl [(a0, .inr (0, [c_0, .ref w0])), (w0, .inl (K 0, 9, .inl fw)), (t0, .inr (9, [.ref t1, k_1, .ref t2, k_3, k_4, k_5, k_6, k_7, k_8, k_9])), (t1, .inl (K 0, 56, .inl f1)), (t2, .inl (K 0, 6, .inl f2))] s.heap := hP
  have hl := lv_entry [.ref a0, .ref t0, .int x, .int y, .int z] (n := 6) (Nat.le_of_ble_eq_true rfl)
  rw [lg_entry_eq]
  generalize (lg_sl [.ref a0, .ref t0, .int x, .int y, .int z] ++ List.replicate (6 - (lg_sl [.ref a0, .ref t0, .int x, .int y, .int z]).length) Slot.unset).toArray = ls at hl ⊢
  have hl : lv_has ls 6 [(0, .ref a0), (1, .ref t0), (2, .int x), (3, .int y), (4, .int z)] := hl
  have hw0 : ∀ w ∈ wsX00, w ∈ wsX0_face := fun w h => (List.mem_cons_of_mem _ (List.mem_append_right _ h))
  have hw9 : ∀ w ∈ wsX90, w ∈ wsX0_face := fun w h => (List.mem_cons_of_mem _ (List.mem_append_left _ (List.mem_append_right _ h)))
  generalize hQ : MQ below _ _ s _ _ _ = Q
  have hE := E_w_face.eq_def x y z fw f1 f2
  refine lv_aload_n hx hb dX0_face_0 rfl (lv_at hl 1 rfl) ?_
  refine va_getN (ci := 9) (v := .ref t2) (C := RX9) (T := TX9) (N := 10) hx hb hts hw9 hown hK hP 2 rfl rfl 2 (by decide +kernel) (nst_use hN 99 rfl) (fun _ h9 => h9) rfl dX0_face_1 ?_
  refine lv_iconst (v := 0) hx hb dX0_face_4 (by decide +kernel) ?_
  refine va_iald hx hb hK hP 4 0 rfl rfl (i_in (x := 0) rfl (by omega)) dX0_face_5 ?_
  refine lv_topi (fun x_105 ex_105 => ?_)
  replace hE := hE.trans (Lt_in ex_105)
  refine lv_iload hx hb dX0_face_6 (lv_at hl 4 rfl) ?_
  refine lv_iadd hx hb dX0_face_8 ?_
  refine lv_topi (fun x_106 ex_106 => ?_)
  replace hE := hE.trans (Lt_in ex_106)
  refine lv_istore (lv' := [(5, .int x_106), (0, .ref a0), (1, .ref t0), (2, .int x), (3, .int y), (4, .int z)]) hx hb dX0_face_9 hl (by decide +kernel) rfl (fun ls hl => ?_)
  refine lv_aload_n hx hb dX0_face_11 rfl (lv_at hl 1 rfl) ?_
  refine va_get (ci := 0) (v := .ref w0) (C := RX0) (T := TX0) (N := 2) hx hb hts hw0 hown hK hP 0 rfl rfl 1 (by decide +kernel) (hts _ mm_X0_face_266) (fun _ h9 => h9) rfl dX0_face_12 ?_
  refine lv_iconst (v := 0) hx hb dX0_face_15 (by decide +kernel) ?_
  refine lv_iload_n hx hb dX0_face_16 rfl (lv_at hl 3 rfl) ?_
  refine va_iast hx hb hK hP hD hS 1 0 rfl rfl (i_in (x := 0) rfl (by omega)) dX0_face_17 (fun H locs hP0 hD0 hS0 => ?_)
  clear hP hD hS
  have hP := hP0
  have hD := hD0
  have hS := hS0
  clear hP0 hD0 hS0
  generalize hf_107 : (upd fw (0 : Int32).toNatClampNeg x) = f_107 at hP hD
  replace hE := hE.trans (Lt_in hf_107.symm)
  replace hP : va_P D vwCl [(a0, .inr (0, [c_0, .ref w0])), (w0, .inl (K 0, 9, .inl f_107)), (t0, .inr (9, [.ref t1, k_1, .ref t2, k_3, k_4, k_5, k_6, k_7, k_8, k_9])), (t1, .inl (K 0, 56, .inl f1)), (t2, .inl (K 0, 6, .inl f2))] H := hP
  replace hD : va_D A [(a0, .inr (0, [c_0, .ref w0])), (w0, .inl (K 0, 9, .inl f_107)), (t0, .inr (9, [.ref t1, k_1, .ref t2, k_3, k_4, k_5, k_6, k_7, k_8, k_9])), (t1, .inl (K 0, 56, .inl f1)), (t2, .inl (K 0, 6, .inl f2))] := hD
  refine lv_aload_n hx hb dX0_face_18 rfl (lv_at hl 1 rfl) ?_
  refine va_get (ci := 0) (v := .ref w0) (C := RX0) (T := TX0) (N := 2) hx hb hts hw0 hown hK hP 0 rfl rfl 1 (by decide +kernel) (hts _ mm_X0_face_266) (fun _ h9 => h9) rfl dX0_face_19 ?_
  refine lv_iconst (v := 1) hx hb dX0_face_22 (by decide +kernel) ?_
  refine lv_aload_n hx hb dX0_face_23 rfl (lv_at hl 2 rfl) ?_
  refine lv_iload_n hx hb dX0_face_24 rfl (lv_at hl 3 rfl) ?_
  refine lv_iconst (v := 0) hx hb dX0_face_25 (by decide +kernel) ?_
  refine pci (va_runVN (As := [.int x, .int 0]) (rest := [.int 1, .ref w0]) ⟨hx, hb, hml, hown, hts⟩ (w_fact l D K t0 x 0 t1 k_1 (.ref t2) k_3 k_4 k_5 k_6 k_7 k_8 k_9 f1 H.size) ⟨va_cnB 2 hts gX0_face_X9_fact_n27 rfl rfl rfl (nst_at hN 23 rfl) (hts _ mm_X0_face_145) (by decide +kernel) ⟨Nat.le_of_ble_eq_true rfl, Nat.le_of_ble_eq_true rfl⟩, (hts _ mm_X0_face_381), (hts _ mm_X0_face_2)⟩ (mkV hK hN (hP.sub [2, 3] rfl) (hD.sub [2, 3] (by decide +kernel) rfl) (ci := 9) (q0 := 0) rfl rfl) rfl rfl hl.1 rfl (lv_room (Nat.le_of_ble_eq_true rfl)) dX0_face_26 ⟨Nat.le_of_ble_eq_true rfl, Nat.le_of_ble_eq_true rfl⟩) (fun r_108 hw => ?_)
  obtain ⟨k_109, -⟩ := hw
  replace hE := hE.trans (Lt_in k_109)
  refine va_iast hx hb hK hP hD hS 1 0 rfl rfl (i_in (x := 1) rfl (by omega)) dX0_face_29 (fun H locs hP0 hD0 hS0 => ?_)
  clear hP hD hS
  have hP := hP0
  have hD := hD0
  have hS := hS0
  clear hP0 hD0 hS0
  generalize hf_110 : (upd f_107 (1 : Int32).toNatClampNeg r_108) = f_110 at hP hD
  replace hE := hE.trans (Lt_in hf_110.symm)
  replace hP : va_P D vwCl [(a0, .inr (0, [c_0, .ref w0])), (w0, .inl (K 0, 9, .inl f_110)), (t0, .inr (9, [.ref t1, k_1, .ref t2, k_3, k_4, k_5, k_6, k_7, k_8, k_9])), (t1, .inl (K 0, 56, .inl f1)), (t2, .inl (K 0, 6, .inl f2))] H := hP
  replace hD : va_D A [(a0, .inr (0, [c_0, .ref w0])), (w0, .inl (K 0, 9, .inl f_110)), (t0, .inr (9, [.ref t1, k_1, .ref t2, k_3, k_4, k_5, k_6, k_7, k_8, k_9])), (t1, .inl (K 0, 56, .inl f1)), (t2, .inl (K 0, 6, .inl f2))] := hD
  refine lv_aload_n hx hb dX0_face_30 rfl (lv_at hl 1 rfl) ?_
  refine va_get (ci := 0) (v := .ref w0) (C := RX0) (T := TX0) (N := 2) hx hb hts hw0 hown hK hP 0 rfl rfl 1 (by decide +kernel) (hts _ mm_X0_face_266) (fun _ h9 => h9) rfl dX0_face_31 ?_
  refine lv_iconst (v := 2) hx hb dX0_face_34 (by decide +kernel) ?_
  refine lv_aload_n hx hb dX0_face_35 rfl (lv_at hl 2 rfl) ?_
  refine lv_iload_n hx hb dX0_face_36 rfl (lv_at hl 3 rfl) ?_
  refine lv_iconst (v := 1) hx hb dX0_face_37 (by decide +kernel) ?_
  refine pci (va_runVN (As := [.int x, .int 1]) (rest := [.int 2, .ref w0]) ⟨hx, hb, hml, hown, hts⟩ (w_fact l D K t0 x 1 t1 k_1 (.ref t2) k_3 k_4 k_5 k_6 k_7 k_8 k_9 f1 H.size) ⟨va_cnB 2 hts gX0_face_X9_fact_n27 rfl rfl rfl (nst_at hN 23 rfl) (hts _ mm_X0_face_145) (by decide +kernel) ⟨Nat.le_of_ble_eq_true rfl, Nat.le_of_ble_eq_true rfl⟩, (hts _ mm_X0_face_381), (hts _ mm_X0_face_2)⟩ (mkV hK hN (hP.sub [2, 3] rfl) (hD.sub [2, 3] (by decide +kernel) rfl) (ci := 9) (q0 := 0) rfl rfl) rfl rfl hl.1 rfl (lv_room (Nat.le_of_ble_eq_true rfl)) dX0_face_38 ⟨Nat.le_of_ble_eq_true rfl, Nat.le_of_ble_eq_true rfl⟩) (fun r_111 hw => ?_)
  obtain ⟨k_112, -⟩ := hw
  replace hE := hE.trans (Lt_in k_112)
  refine va_iast hx hb hK hP hD hS 1 0 rfl rfl (i_in (x := 2) rfl (by omega)) dX0_face_41 (fun H locs hP0 hD0 hS0 => ?_)
  clear hP hD hS
  have hP := hP0
  have hD := hD0
  have hS := hS0
  clear hP0 hD0 hS0
  generalize hf_113 : (upd f_110 (2 : Int32).toNatClampNeg r_111) = f_113 at hP hD
  replace hE := hE.trans (Lt_in hf_113.symm)
  replace hP : va_P D vwCl [(a0, .inr (0, [c_0, .ref w0])), (w0, .inl (K 0, 9, .inl f_113)), (t0, .inr (9, [.ref t1, k_1, .ref t2, k_3, k_4, k_5, k_6, k_7, k_8, k_9])), (t1, .inl (K 0, 56, .inl f1)), (t2, .inl (K 0, 6, .inl f2))] H := hP
  replace hD : va_D A [(a0, .inr (0, [c_0, .ref w0])), (w0, .inl (K 0, 9, .inl f_113)), (t0, .inr (9, [.ref t1, k_1, .ref t2, k_3, k_4, k_5, k_6, k_7, k_8, k_9])), (t1, .inl (K 0, 56, .inl f1)), (t2, .inl (K 0, 6, .inl f2))] := hD
  refine lv_aload_n hx hb dX0_face_42 rfl (lv_at hl 1 rfl) ?_
  refine va_get (ci := 0) (v := .ref w0) (C := RX0) (T := TX0) (N := 2) hx hb hts hw0 hown hK hP 0 rfl rfl 1 (by decide +kernel) (hts _ mm_X0_face_266) (fun _ h9 => h9) rfl dX0_face_43 ?_
  refine lv_iconst (v := 3) hx hb dX0_face_46 (by decide +kernel) ?_
  refine lv_iload_n hx hb dX0_face_47 rfl (lv_at hl 4 rfl) ?_
  refine va_iast hx hb hK hP hD hS 1 0 rfl rfl (i_in (x := 3) rfl (by omega)) dX0_face_48 (fun H locs hP0 hD0 hS0 => ?_)
  clear hP hD hS
  have hP := hP0
  have hD := hD0
  have hS := hS0
  clear hP0 hD0 hS0
  generalize hf_114 : (upd f_113 (3 : Int32).toNatClampNeg y) = f_114 at hP hD
  replace hE := hE.trans (Lt_in hf_114.symm)
  replace hP : va_P D vwCl [(a0, .inr (0, [c_0, .ref w0])), (w0, .inl (K 0, 9, .inl f_114)), (t0, .inr (9, [.ref t1, k_1, .ref t2, k_3, k_4, k_5, k_6, k_7, k_8, k_9])), (t1, .inl (K 0, 56, .inl f1)), (t2, .inl (K 0, 6, .inl f2))] H := hP
  replace hD : va_D A [(a0, .inr (0, [c_0, .ref w0])), (w0, .inl (K 0, 9, .inl f_114)), (t0, .inr (9, [.ref t1, k_1, .ref t2, k_3, k_4, k_5, k_6, k_7, k_8, k_9])), (t1, .inl (K 0, 56, .inl f1)), (t2, .inl (K 0, 6, .inl f2))] := hD
  refine lv_aload_n hx hb dX0_face_49 rfl (lv_at hl 1 rfl) ?_
  refine va_get (ci := 0) (v := .ref w0) (C := RX0) (T := TX0) (N := 2) hx hb hts hw0 hown hK hP 0 rfl rfl 1 (by decide +kernel) (hts _ mm_X0_face_266) (fun _ h9 => h9) rfl dX0_face_50 ?_
  refine lv_iconst (v := 4) hx hb dX0_face_53 (by decide +kernel) ?_
  refine lv_aload_n hx hb dX0_face_54 rfl (lv_at hl 2 rfl) ?_
  refine lv_iload_n hx hb dX0_face_55 rfl (lv_at hl 3 rfl) ?_
  refine lv_iconst (v := 2) hx hb dX0_face_56 (by decide +kernel) ?_
  refine pci (va_runVN (As := [.int x, .int 2]) (rest := [.int 4, .ref w0]) ⟨hx, hb, hml, hown, hts⟩ (w_fact l D K t0 x 2 t1 k_1 (.ref t2) k_3 k_4 k_5 k_6 k_7 k_8 k_9 f1 H.size) ⟨va_cnB 2 hts gX0_face_X9_fact_n27 rfl rfl rfl (nst_at hN 23 rfl) (hts _ mm_X0_face_145) (by decide +kernel) ⟨Nat.le_of_ble_eq_true rfl, Nat.le_of_ble_eq_true rfl⟩, (hts _ mm_X0_face_381), (hts _ mm_X0_face_2)⟩ (mkV hK hN (hP.sub [2, 3] rfl) (hD.sub [2, 3] (by decide +kernel) rfl) (ci := 9) (q0 := 0) rfl rfl) rfl rfl hl.1 rfl (lv_room (Nat.le_of_ble_eq_true rfl)) dX0_face_57 ⟨Nat.le_of_ble_eq_true rfl, Nat.le_of_ble_eq_true rfl⟩) (fun r_115 hw => ?_)
  obtain ⟨k_116, -⟩ := hw
  replace hE := hE.trans (Lt_in k_116)
  refine va_iast hx hb hK hP hD hS 1 0 rfl rfl (i_in (x := 4) rfl (by omega)) dX0_face_60 (fun H locs hP0 hD0 hS0 => ?_)
  clear hP hD hS
  have hP := hP0
  have hD := hD0
  have hS := hS0
  clear hP0 hD0 hS0
  generalize hf_117 : (upd f_114 (4 : Int32).toNatClampNeg r_115) = f_117 at hP hD
  replace hE := hE.trans (Lt_in hf_117.symm)
  replace hP : va_P D vwCl [(a0, .inr (0, [c_0, .ref w0])), (w0, .inl (K 0, 9, .inl f_117)), (t0, .inr (9, [.ref t1, k_1, .ref t2, k_3, k_4, k_5, k_6, k_7, k_8, k_9])), (t1, .inl (K 0, 56, .inl f1)), (t2, .inl (K 0, 6, .inl f2))] H := hP
  replace hD : va_D A [(a0, .inr (0, [c_0, .ref w0])), (w0, .inl (K 0, 9, .inl f_117)), (t0, .inr (9, [.ref t1, k_1, .ref t2, k_3, k_4, k_5, k_6, k_7, k_8, k_9])), (t1, .inl (K 0, 56, .inl f1)), (t2, .inl (K 0, 6, .inl f2))] := hD
  refine lv_aload_n hx hb dX0_face_61 rfl (lv_at hl 1 rfl) ?_
  refine va_get (ci := 0) (v := .ref w0) (C := RX0) (T := TX0) (N := 2) hx hb hts hw0 hown hK hP 0 rfl rfl 1 (by decide +kernel) (hts _ mm_X0_face_266) (fun _ h9 => h9) rfl dX0_face_62 ?_
  refine lv_iconst (v := 5) hx hb dX0_face_65 (by decide +kernel) ?_
  refine lv_iload hx hb dX0_face_66 (lv_at hl 0 rfl) ?_
  refine lv_bipush (v := 24) hx hb dX0_face_68 (by decide +kernel) ?_
  refine lv_irem hx hb dX0_face_70 (by decide +kernel) ?_
  refine lv_topi (fun x_118 ex_118 => ?_)
  replace hE := hE.trans (Lt_in ex_118)
  refine va_iast hx hb hK hP hD hS 1 0 rfl rfl (i_in (x := 5) rfl (by omega)) dX0_face_71 (fun H locs hP0 hD0 hS0 => ?_)
  clear hP hD hS
  have hP := hP0
  have hD := hD0
  have hS := hS0
  clear hP0 hD0 hS0
  generalize hf_119 : (upd f_117 (5 : Int32).toNatClampNeg x_118) = f_119 at hP hD
  replace hE := hE.trans (Lt_in hf_119.symm)
  replace hP : va_P D vwCl [(a0, .inr (0, [c_0, .ref w0])), (w0, .inl (K 0, 9, .inl f_119)), (t0, .inr (9, [.ref t1, k_1, .ref t2, k_3, k_4, k_5, k_6, k_7, k_8, k_9])), (t1, .inl (K 0, 56, .inl f1)), (t2, .inl (K 0, 6, .inl f2))] H := hP
  replace hD : va_D A [(a0, .inr (0, [c_0, .ref w0])), (w0, .inl (K 0, 9, .inl f_119)), (t0, .inr (9, [.ref t1, k_1, .ref t2, k_3, k_4, k_5, k_6, k_7, k_8, k_9])), (t1, .inl (K 0, 56, .inl f1)), (t2, .inl (K 0, 6, .inl f2))] := hD
  refine lv_aload_n hx hb dX0_face_72 rfl (lv_at hl 1 rfl) ?_
  refine va_get (ci := 0) (v := .ref w0) (C := RX0) (T := TX0) (N := 2) hx hb hts hw0 hown hK hP 0 rfl rfl 1 (by decide +kernel) (hts _ mm_X0_face_266) (fun _ h9 => h9) rfl dX0_face_73 ?_
  refine lv_bipush (v := 6) hx hb dX0_face_76 (by decide +kernel) ?_
  refine lv_aload_n hx hb dX0_face_78 rfl (lv_at hl 2 rfl) ?_
  refine va_getN (ci := 9) (v := .ref t2) (C := RX9) (T := TX9) (N := 10) hx hb hts hw9 hown hK hP 2 rfl rfl 2 (by decide +kernel) (nst_use hN 99 rfl) (fun _ h9 => h9) rfl dX0_face_79 ?_
  refine lv_iconst (v := 1) hx hb dX0_face_82 (by decide +kernel) ?_
  refine va_iald hx hb hK hP 4 0 rfl rfl (i_in (x := 1) rfl (by omega)) dX0_face_83 ?_
  refine lv_topi (fun x_120 ex_120 => ?_)
  replace hE := hE.trans (Lt_in ex_120)
  refine lv_iload hx hb dX0_face_84 (lv_at hl 0 rfl) ?_
  refine lv_bipush (v := 24) hx hb dX0_face_86 (by decide +kernel) ?_
  refine lv_idiv hx hb dX0_face_88 (by decide +kernel) ?_
  refine lv_topi (fun x_121 ex_121 => ?_)
  replace hE := hE.trans (Lt_in ex_121)
  refine lv_iadd hx hb dX0_face_89 ?_
  refine lv_topi (fun x_122 ex_122 => ?_)
  replace hE := hE.trans (Lt_in ex_122)
  refine va_iast hx hb hK hP hD hS 1 0 rfl rfl (i_in (x := 6) rfl (by omega)) dX0_face_90 (fun H locs hP0 hD0 hS0 => ?_)
  clear hP hD hS
  have hP := hP0
  have hD := hD0
  have hS := hS0
  clear hP0 hD0 hS0
  generalize hf_123 : (upd f_119 (6 : Int32).toNatClampNeg x_122) = f_123 at hP hD
  replace hE := hE.trans (Lt_in hf_123.symm)
  replace hP : va_P D vwCl [(a0, .inr (0, [c_0, .ref w0])), (w0, .inl (K 0, 9, .inl f_123)), (t0, .inr (9, [.ref t1, k_1, .ref t2, k_3, k_4, k_5, k_6, k_7, k_8, k_9])), (t1, .inl (K 0, 56, .inl f1)), (t2, .inl (K 0, 6, .inl f2))] H := hP
  replace hD : va_D A [(a0, .inr (0, [c_0, .ref w0])), (w0, .inl (K 0, 9, .inl f_123)), (t0, .inr (9, [.ref t1, k_1, .ref t2, k_3, k_4, k_5, k_6, k_7, k_8, k_9])), (t1, .inl (K 0, 56, .inl f1)), (t2, .inl (K 0, 6, .inl f2))] := hD
  refine lv_aload_n hx hb dX0_face_91 rfl (lv_at hl 1 rfl) ?_
  refine va_get (ci := 0) (v := .ref w0) (C := RX0) (T := TX0) (N := 2) hx hb hts hw0 hown hK hP 0 rfl rfl 1 (by decide +kernel) (hts _ mm_X0_face_266) (fun _ h9 => h9) rfl dX0_face_92 ?_
  refine lv_bipush (v := 7) hx hb dX0_face_95 (by decide +kernel) ?_
  refine lv_aload_n hx hb dX0_face_97 rfl (lv_at hl 2 rfl) ?_
  refine va_getN (ci := 9) (v := .ref t2) (C := RX9) (T := TX9) (N := 10) hx hb hts hw9 hown hK hP 2 rfl rfl 2 (by decide +kernel) (nst_use hN 99 rfl) (fun _ h9 => h9) rfl dX0_face_98 ?_
  refine lv_iconst (v := 5) hx hb dX0_face_101 (by decide +kernel) ?_
  refine va_iald hx hb hK hP 4 0 rfl rfl (i_in (x := 5) rfl (by omega)) dX0_face_102 ?_
  refine lv_topi (fun x_124 ex_124 => ?_)
  replace hE := hE.trans (Lt_in ex_124)
  refine va_iast hx hb hK hP hD hS 1 0 rfl rfl (i_in (x := 7) rfl (by omega)) dX0_face_103 (fun H locs hP0 hD0 hS0 => ?_)
  clear hP hD hS
  have hP := hP0
  have hD := hD0
  have hS := hS0
  clear hP0 hD0 hS0
  generalize hf_125 : (upd f_123 (7 : Int32).toNatClampNeg x_124) = f_125 at hP hD
  replace hE := hE.trans (Lt_in hf_125.symm)
  replace hP : va_P D vwCl [(a0, .inr (0, [c_0, .ref w0])), (w0, .inl (K 0, 9, .inl f_125)), (t0, .inr (9, [.ref t1, k_1, .ref t2, k_3, k_4, k_5, k_6, k_7, k_8, k_9])), (t1, .inl (K 0, 56, .inl f1)), (t2, .inl (K 0, 6, .inl f2))] H := hP
  replace hD : va_D A [(a0, .inr (0, [c_0, .ref w0])), (w0, .inl (K 0, 9, .inl f_125)), (t0, .inr (9, [.ref t1, k_1, .ref t2, k_3, k_4, k_5, k_6, k_7, k_8, k_9])), (t1, .inl (K 0, 56, .inl f1)), (t2, .inl (K 0, 6, .inl f2))] := hD
  refine lv_aload_n hx hb dX0_face_104 rfl (lv_at hl 1 rfl) ?_
  refine va_get (ci := 0) (v := .ref w0) (C := RX0) (T := TX0) (N := 2) hx hb hts hw0 hown hK hP 0 rfl rfl 1 (by decide +kernel) (hts _ mm_X0_face_266) (fun _ h9 => h9) rfl dX0_face_105 ?_
  refine lv_bipush (v := 8) hx hb dX0_face_108 (by decide +kernel) ?_
  refine lv_iconst (v := (-1)) hx hb dX0_face_110 (by decide +kernel) ?_
  refine va_iast hx hb hK hP hD hS 1 0 rfl rfl (i_in (x := 8) rfl (by omega)) dX0_face_111 (fun H locs hP0 hD0 hS0 => ?_)
  clear hP hD hS
  have hP := hP0
  have hD := hD0
  have hS := hS0
  clear hP0 hD0 hS0
  generalize hf_126 : (upd f_125 (8 : Int32).toNatClampNeg (-1)) = f_126 at hP hD
  replace hE := hE.trans (Lt_in hf_126.symm)
  replace hP : va_P D vwCl [(a0, .inr (0, [c_0, .ref w0])), (w0, .inl (K 0, 9, .inl f_126)), (t0, .inr (9, [.ref t1, k_1, .ref t2, k_3, k_4, k_5, k_6, k_7, k_8, k_9])), (t1, .inl (K 0, 56, .inl f1)), (t2, .inl (K 0, 6, .inl f2))] H := hP
  replace hD : va_D A [(a0, .inr (0, [c_0, .ref w0])), (w0, .inl (K 0, 9, .inl f_126)), (t0, .inr (9, [.ref t1, k_1, .ref t2, k_3, k_4, k_5, k_6, k_7, k_8, k_9])), (t1, .inl (K 0, 56, .inl f1)), (t2, .inl (K 0, 6, .inl f2))] := hD
  rw [← hQ]
  have hP9 := hP.sub (ws' := [(a0, .inr (0, [c_0, .ref w0])), (w0, .inl (K 0, 9, .inl f_126)), (t0, .inr (9, [.ref t1, k_1, .ref t2, k_3, k_4, k_5, k_6, k_7, k_8, k_9])), (t1, .inl (K 0, 56, .inl f1)), (t2, .inl (K 0, 6, .inl f2))]) [0, 1, 2, 3, 4] rfl
  have hD9 := hD.sub (ws' := [(a0, .inr (0, [c_0, .ref w0])), (w0, .inl (K 0, 9, .inl f_126)), (t0, .inr (9, [.ref t1, k_1, .ref t2, k_3, k_4, k_5, k_6, k_7, k_8, k_9])), (t1, .inl (K 0, 56, .inl f1)), (t2, .inl (K 0, 6, .inl f2))]) [0, 1, 2, 3, 4] (by decide +kernel) rfl
  exact W.vret hx hb hr (fun t ht hW => ⟨⟨((fun _ => 0, fun i => match i with | _ => f_126, fun _ => fun _ => 0, fun _ => 0, fun _ => 0, fun _ => fun _ => none) : Su), rfl, ⟨hE.symm, trivial⟩, (⟨by rw [ht]; exact hP9, hD9⟩ : Wd D A _ t)⟩, hS.F ht⟩) hS.2.2 dX0_face_112
set_option maxRecDepth 100000 in
noncomputable def E_w_facing (x : Int32) (fw : Nat → Int32) : (Nat → Int32) :=
  Lt (upd fw (8 : Int32).toNatClampNeg x : Nat → Int32) (fun f_63 => (f_63 : (Nat → Int32)))
set_option maxHeartbeats 4000000 in
set_option maxRecDepth 100000 in
theorem w_facing (l : Launch) (D : va_G) (K : Nat → ClassId) (a0 : Nat) (x : Int32) (c_0 : Value) (w0 : Nat) (fw : Nat → Int32) (sz : Nat) : Met l yX0_facing wsX0_facing ({ frames := 0, cells := 0, slots := 0, locals := 0 }) (va_Pc [.ref a0, .int x] (Pre D K [(a0, .inr (0, [c_0, .ref w0])), (w0, .inl (K 0, 9, .inl fw))] sz)) (va_Qv (S := Su) (fun (u : Su) => ((u.2.1 0) = E_w_facing x fw) ∧ True) (fun u t => Wd D (va_A [(a0, .inr (0, [c_0, .ref w0])), (w0, .inl (K 0, 9, .inl fw))] sz) ((fun u => [(a0, .inr (0, [c_0, .ref w0])), (w0, .inl (K 0, 9, .inl (u.2.1 0)))]) u) t) (va_A [(a0, .inr (0, [c_0, .ref w0])), (w0, .inl (K 0, 9, .inl fw))] sz)) 0 0 (va_A [(a0, .inr (0, [c_0, .ref w0])), (w0, .inl (K 0, 9, .inl fw))] sz) := by
  refine Met.ofW (cc := cX0_facing) (maxL := 2) (ret := none) (by decide +kernel) rfl ?_
  intro p e s m args below meth c s₁ B hml hv
  obtain ⟨rfl, hsz, hP, hK, hD0, hN⟩ := hv
  have hx := B.exec
  have hb := B.bytes
  have hr := B.returns
  have hts := atoms_spec (ws := wsX0_facing) B.pre
  have hown : s.vm.findClass RX0 = some m.cls := findClass_of_methodNamed B.named
  have hlocks := B.notSynchronized
  subst hsz
  have hD := hD0.self (sz := s.heap.size)
  generalize hAe : va_A [(a0, .inr (0, [c_0, .ref w0])), (w0, .inl (K 0, 9, .inl fw))] s.heap.size = A at hD ⊢
  have hA : ∀ q : Nat, s.heap.size ≤ q → A q := fun q h => by rw [← hAe]; exact Or.inr h
  clear hAe
  have hS : va_S A s.heap s.heap [] := va_S.rf
  replace hP : va_P D vwCl [(a0, .inr (0, [c_0, .ref w0])), (w0, .inl (K 0, 9, .inl fw))] s.heap := hP
  have hl := lv_entry [.ref a0, .int x] (n := 2) (Nat.le_of_ble_eq_true rfl)
  rw [lg_entry_eq]
  generalize (lg_sl [.ref a0, .int x] ++ List.replicate (2 - (lg_sl [.ref a0, .int x]).length) Slot.unset).toArray = ls at hl ⊢
  have hl : lv_has ls 2 [(0, .ref a0), (1, .int x)] := hl
  have hw0 : ∀ w ∈ wsX00, w ∈ wsX0_facing := fun w h => (List.mem_cons_of_mem _ (List.mem_append_right _ h))
  generalize hQ : MQ below _ _ s _ _ _ = Q
  have hE := E_w_facing.eq_def x fw
  refine lv_aload_n hx hb dX0_facing_0 rfl (lv_at hl 0 rfl) ?_
  refine va_get (ci := 0) (v := .ref w0) (C := RX0) (T := TX0) (N := 2) hx hb hts hw0 hown hK hP 0 rfl rfl 1 (by decide +kernel) (hts _ mm_X0_facing_266) (fun _ h9 => h9) rfl dX0_facing_1 ?_
  refine lv_bipush (v := 8) hx hb dX0_facing_4 (by decide +kernel) ?_
  refine lv_iload_n hx hb dX0_facing_6 rfl (lv_at hl 1 rfl) ?_
  refine va_iast hx hb hK hP hD hS 1 0 rfl rfl (i_in (x := 8) rfl (by omega)) dX0_facing_7 (fun H locs hP0 hD0 hS0 => ?_)
  clear hP hD hS
  have hP := hP0
  have hD := hD0
  have hS := hS0
  clear hP0 hD0 hS0
  generalize hf_63 : (upd fw (8 : Int32).toNatClampNeg x) = f_63 at hP hD
  replace hE := hE.trans (Lt_in hf_63.symm)
  replace hP : va_P D vwCl [(a0, .inr (0, [c_0, .ref w0])), (w0, .inl (K 0, 9, .inl f_63))] H := hP
  replace hD : va_D A [(a0, .inr (0, [c_0, .ref w0])), (w0, .inl (K 0, 9, .inl f_63))] := hD
  rw [← hQ]
  have hP9 := hP.sub (ws' := [(a0, .inr (0, [c_0, .ref w0])), (w0, .inl (K 0, 9, .inl f_63))]) [0, 1] rfl
  have hD9 := hD.sub (ws' := [(a0, .inr (0, [c_0, .ref w0])), (w0, .inl (K 0, 9, .inl f_63))]) [0, 1] (by decide +kernel) rfl
  exact W.vret hx hb hr (fun t ht hW => ⟨⟨((fun _ => 0, fun i => match i with | _ => f_63, fun _ => fun _ => 0, fun _ => 0, fun _ => 0, fun _ => fun _ => none) : Su), rfl, ⟨hE.symm, trivial⟩, (⟨by rw [ht]; exact hP9, hD9⟩ : Wd D A _ t)⟩, hS.F ht⟩) hS.2.2 dX0_facing_8
set_option maxRecDepth 100000 in
noncomputable def E_w_told_n (v : Int32) (br : Int32) (fs : Nat → Int32) (fw : Nat → Int32) : Int32 :=
  Lt (aF 2 (v : Int32).toNatClampNeg : Int32) (fun x_63 => (x_63 : Int32))
set_option maxHeartbeats 4000000 in
set_option maxRecDepth 100000 in
theorem w_told_n (l : Launch) (D : va_G) (K : Nat → ClassId) (g : Nat → Nat) (L : Nat → Prop) (G : Nat → LC) (a0 : Nat) (v : Int32) (m0 : Nat) (w0 : Nat) (m1 : Nat) (br : Int32) (fs : Nat → Int32) (fw : Nat → Int32) (sz : Nat) (zv : 0 ≤ v.toInt ∧ v.toInt ≤ 3) (zbr : 0 ≤ br.toInt ∧ br.toInt ≤ 1) : Met l yX0_told wsX0_told ({ frames := 0, cells := 0, slots := 0, locals := 0 }) (va_Pc [.ref a0, .null, .int v] (PreY D K [(a0, .inr (0, [.ref m0, .ref w0])), (m0, .inr (3, [.ref m1, .int br])), (m1, .inl (K 0, 64, .inl fs)), (w0, .inl (K 0, 9, .inl fw))] [] sz g L G (va_A [(a0, .inr (0, [.ref m0, .ref w0])), (m0, .inr (3, [.ref m1, .int br])), (m1, .inl (K 0, 64, .inl fs)), (w0, .inl (K 0, 9, .inl fw))] sz))) (va_Qi (S := Su) (fun (r : Int32) (u : Su) => (0 ≤ r.toInt ∧ r.toInt ≤ 4) ∧ (r = E_w_told_n v br fs fw) ∧ True) (fun u t => Wd D (va_A [(a0, .inr (0, [.ref m0, .ref w0])), (m0, .inr (3, [.ref m1, .int br])), (m1, .inl (K 0, 64, .inl fs)), (w0, .inl (K 0, 9, .inl fw))] sz) ((fun u => [(a0, .inr (0, [.ref m0, .ref w0])), (m0, .inr (3, [.ref m1, .int br])), (m1, .inl (K 0, 64, .inl fs)), (w0, .inl (K 0, 9, .inl fw))]) u) t) (va_A [(a0, .inr (0, [.ref m0, .ref w0])), (m0, .inr (3, [.ref m1, .int br])), (m1, .inl (K 0, 64, .inl fs)), (w0, .inl (K 0, 9, .inl fw))] sz)) 0 0 (va_A [(a0, .inr (0, [.ref m0, .ref w0])), (m0, .inr (3, [.ref m1, .int br])), (m1, .inl (K 0, 64, .inl fs)), (w0, .inl (K 0, 9, .inl fw))] sz) := by
  refine Met.ofW (cc := cX0_told) (maxL := 6) (ret := (some .int)) (by decide +kernel) rfl ?_
  intro p e s m args below meth c s₁ B hml hv
  obtain ⟨rfl, ⟨hsz, hP, hK, hD0, hN⟩, hG, hPl, hRo⟩ := hv
  have hx := B.exec
  have hb := B.bytes
  have hr := B.returns
  have hts := atoms_spec (ws := wsX0_told) B.pre
  have hown : s.vm.findClass RX0 = some m.cls := findClass_of_methodNamed B.named
  have hlocks := B.notSynchronized
  subst hsz
  have hD := hD0.self (sz := s.heap.size)
  generalize hAe : va_A [(a0, .inr (0, [.ref m0, .ref w0])), (m0, .inr (3, [.ref m1, .int br])), (m1, .inl (K 0, 64, .inl fs)), (w0, .inl (K 0, 9, .inl fw))] s.heap.size = A at hD hG hPl hRo ⊢
  have hA : ∀ q : Nat, s.heap.size ≤ q → A q := fun q h => by rw [← hAe]; exact Or.inr h
  clear hAe
  have hS : va_S A s.heap s.heap [] := va_S.rf
  replace hP : va_P D vwCl [(a0, .inr (0, [.ref m0, .ref w0])), (m0, .inr (3, [.ref m1, .int br])), (m1, .inl (K 0, 64, .inl fs)), (w0, .inl (K 0, 9, .inl fw))] s.heap := hP
  have hl := lv_entry [.ref a0, .null, .int v] (n := 6) (Nat.le_of_ble_eq_true rfl)
  rw [lg_entry_eq]
  generalize (lg_sl [.ref a0, .null, .int v] ++ List.replicate (6 - (lg_sl [.ref a0, .null, .int v]).length) Slot.unset).toArray = ls at hl ⊢
  have hl : lv_has ls 6 [(0, .ref a0), (1, .null), (2, .int v)] := hl
  have hw0 : ∀ w ∈ wsX00, w ∈ wsX0_told := fun w h => (List.mem_cons_of_mem _ (List.mem_append_left _ (List.mem_append_right _ h)))
  have hw3 : ∀ w ∈ wsX30, w ∈ wsX0_told := fun w h => (List.mem_cons_of_mem _ (List.mem_append_right _ h))
  have hw7 : ∀ w ∈ wsX70, w ∈ wsX0_told := fun w h => (List.mem_cons_of_mem _ (List.mem_append_left _ (List.mem_append_left _ (List.mem_append_right _ h))))
  generalize hQ : MQ below _ _ s _ _ _ = Q
  have hE := E_w_told_n.eq_def v br fs fw
  refine lv_aload_nN hx hb dX0_told_0 rfl (lv_at hl 1 rfl) ?_
  refine lv_ifnonnullN hx hb dX0_told_1 ?_
  refine va_getsN (C := "SmokeTune") (n := "WITHOUT_LAW") (d := "[I") (v := .ref (g 2)) hx hb (hG.arr 2 (by decide +kernel)).1 hS hown (nst_use hN 140 rfl) (fun _ h9 => h9) dX0_told_4 ?_
  refine lv_iload_n hx hb dX0_told_7 rfl (lv_at hl 2 rfl) ?_
  refine va_ti hx hb (hG.arr 2 (by decide +kernel)).2 hS (show vp_in _ 4 from (i_in rfl (by omega))) rfl dX0_told_8 ?_
  refine lv_topi (fun x_63 ex_63 => ?_)
  replace hE := hE.trans (Lt_in ex_63)
  have hx_63 : 0 ≤ x_63.toInt ∧ x_63.toInt ≤ 4 := by rw [ex_63]; exact Rg.at sr_2 rfl (show 0 ≤ v.toInt ∧ v.toInt < _ by omega)
  rw [← hQ]
  have hP9 := hP.sub (ws' := [(a0, .inr (0, [.ref m0, .ref w0])), (m0, .inr (3, [.ref m1, .int br])), (m1, .inl (K 0, 64, .inl fs)), (w0, .inl (K 0, 9, .inl fw))]) [0, 1, 2, 3] rfl
  have hD9 := hD.sub (ws' := [(a0, .inr (0, [.ref m0, .ref w0])), (m0, .inr (3, [.ref m1, .int br])), (m1, .inl (K 0, 64, .inl fs)), (w0, .inl (K 0, 9, .inl fw))]) [0, 1, 2, 3] (by decide +kernel) rfl
  exact W.iret (v := x_63) hx hb hr (fun t ht hW => ⟨⟨x_63, ((fun _ => 0, fun _ => fun _ => 0, fun _ => fun _ => 0, fun _ => 0, fun _ => 0, fun _ => fun _ => none) : Su), rfl, ⟨(show 0 ≤ x_63.toInt ∧ x_63.toInt ≤ 4 by omega), hE.symm, trivial⟩, (⟨by rw [ht]; exact hP9, hD9⟩ : Wd D A _ t)⟩, hS.F ht⟩) hS.2.2 dX0_told_9
set_option maxRecDepth 100000 in
noncomputable def E_w_told_j136 (v_1159 : Int32) (rec_1339 : Int32 → Int32 → (Nat → Int32) → (Int32 × Int32 × (Nat → Int32))) (v_1391 : Int32) (f_1392 : Nat → Int32) : Int32 × Int32 × (Nat → Int32) :=
  Lt (v_1159 + Int32.ofInt (-1) : Int32) (fun x_1395 => rec_1339 x_1395 v_1391 f_1392)
set_option maxRecDepth 100000 in
noncomputable def E_w_told_j81 (lc_0 : Nat) (lc_1 : Nat) (lc_2 : Nat → Int32) (lc_3 : Nat → Int32) (v : Int32) (fw : Nat → Int32) (v_1159 : Int32) (rec_1339 : Int32 → Int32 → (Nat → Int32) → (Int32 × Int32 × (Nat → Int32))) (v_1407 : Int32) (f_1408 : Nat → Int32) : Int32 × Int32 × (Nat → Int32) :=
  if v = 3 then (((1, v_1407, f_1408) : Int32 × Int32 × (Nat → Int32))) else (Lt (E_w_head v_1159 2 (lc_0) (lc_2)) (fun r_1423 => Lt2 (E_w_run r_1423 v_1407 f_1408 9 fw (lc_1) (lc_3)) (fun r_1426 q0_r_1426 => Lt2 q0_r_1426 (fun u_1427_2_2_2_1_0 u_1427_2_1_0 => if u_1427_2_2_2_1_0 = 0 then (Lt (aF 3 (v : Int32).toNatClampNeg : Int32) (fun x_1431 => Lt (if (r_1426 : Int32) < (x_1431 : Int32) then (r_1426 : Int32) else (x_1431 : Int32) : Int32) (fun x_1432 => Lt (if (0 : Int32) < (x_1432 : Int32) then (x_1432 : Int32) else (0 : Int32) : Int32) (fun x_1433 => ((x_1433, u_1427_2_2_2_1_0, u_1427_2_1_0) : Int32 × Int32 × (Nat → Int32)))))) else (E_w_told_j136 v_1159 rec_1339 u_1427_2_2_2_1_0 u_1427_2_1_0)))))
set_option maxRecDepth 100000 in
noncomputable def E_w_told_l17 (lc_0 : Nat) (lc_1 : Nat) (lc_2 : Nat → Int32) (lc_3 : Nat → Int32) (v : Int32) (fw : Nat → Int32) (rec_1339 : Int32 → Int32 → (Nat → Int32) → (Int32 × Int32 × (Nat → Int32))) (v_1159 : Int32) (v_1160 : Int32) (f_1161 : Nat → Int32) : Int32 × Int32 × (Nat → Int32) :=
  if v_1159 < 0 then (Lt (aF 2 (v : Int32).toNatClampNeg : Int32) (fun x_1342 => ((x_1342, v_1160, f_1161) : Int32 × Int32 × (Nat → Int32)))) else (Lt (E_w_head v_1159 0 (lc_0) (lc_2)) (fun r_1343 => if r_1343 = v then (Lt (E_w_head v_1159 4 (lc_0) (lc_2)) (fun r_1397 => if r_1397 = (-1) then (E_w_told_j81 lc_0 lc_1 lc_2 lc_3 v fw v_1159 rec_1339 v_1160 f_1161) else (Lt2 (E_w_run r_1397 v_1160 f_1161 9 fw (lc_1) (lc_3)) (fun r_1435 q0_r_1435 => Lt2 q0_r_1435 (fun u_1436_2_2_2_1_0 u_1436_2_1_0 => if r_1435 = 0 then (E_w_told_j136 v_1159 rec_1339 u_1436_2_2_2_1_0 u_1436_2_1_0) else (if u_1436_2_2_2_1_0 = 0 then (E_w_told_j81 lc_0 lc_1 lc_2 lc_3 v fw v_1159 rec_1339 u_1436_2_2_2_1_0 u_1436_2_1_0) else (E_w_told_j136 v_1159 rec_1339 u_1436_2_2_2_1_0 u_1436_2_1_0))))))) else (E_w_told_j136 v_1159 rec_1339 v_1160 f_1161)))
set_option maxRecDepth 100000 in
noncomputable def E_w_told (lc_0 : Nat) (lc_1 : Nat) (lc_2 : Nat → Int32) (lc_3 : Nat → Int32) (lc_4 : Int32) (v : Int32) (br : Int32) (fs : Nat → Int32) (fw : Nat → Int32) : Int32 × Int32 × (Nat → Int32) :=
  Lt ((lc_4) - 1 : Int32) (fun x_981 => Lp (α := Int32 → Int32 → (Nat → Int32) → (Int32 × Int32 × (Nat → Int32))) (E_w_told_l17 lc_0 lc_1 lc_2 lc_3 v fw) (fun _ _ _ => ((0, 0, fun _ => 0) : Int32 × Int32 × (Nat → Int32))) (((x_981 : Int32).toInt + 1 : Int).toNat + 1) x_981 br fs)
set_option maxHeartbeats 4000000 in
set_option maxRecDepth 100000 in
theorem w_told (l : Launch) (D : va_G) (K : Nat → ClassId) (g : Nat → Nat) (L : Nat → Prop) (G : Nat → LC) (a0 : Nat) (q0 : Nat) (v : Int32) (m0 : Nat) (w0 : Nat) (m1 : Nat) (br : Int32) (fs : Nat → Int32) (fw : Nat → Int32) (sz : Nat) (hq0 : L q0) (zv : 0 ≤ v.toInt ∧ v.toInt ≤ 3) (zbr : 0 ≤ br.toInt ∧ br.toInt ≤ 1) : Met l yX0_told wsX0_told ({ frames := 2, cells := 0, slots := 0, locals := 56 }) (va_Pc [.ref a0, .ref q0, .int v] (PreY D K [(a0, .inr (0, [.ref m0, .ref w0])), (m0, .inr (3, [.ref m1, .int br])), (m1, .inl (K 0, 64, .inl fs)), (w0, .inl (K 0, 9, .inl fw))] [] sz g L G (va_A [(a0, .inr (0, [.ref m0, .ref w0])), (m0, .inr (3, [.ref m1, .int br])), (m1, .inl (K 0, 64, .inl fs)), (w0, .inl (K 0, 9, .inl fw))] sz))) (va_Qi (S := Su) (fun (r : Int32) (u : Su) => (0 ≤ r.toInt ∧ r.toInt ≤ 999) ∧ (0 ≤ (u.2.2.2.1 0).toInt ∧ (u.2.2.2.1 0).toInt ≤ 1) ∧ ((r, (u.2.2.2.1 0), (u.2.1 0)) = E_w_told (G q0).1 (G q0).2.1 (G q0).2.2.1 (G q0).2.2.2.1 (G q0).2.2.2.2.1 v br fs fw) ∧ True) (fun u t => Wd D (va_A [(a0, .inr (0, [.ref m0, .ref w0])), (m0, .inr (3, [.ref m1, .int br])), (m1, .inl (K 0, 64, .inl fs)), (w0, .inl (K 0, 9, .inl fw))] sz) ((fun u => [(a0, .inr (0, [.ref m0, .ref w0])), (m0, .inr (3, [.ref m1, .int (u.2.2.2.1 0)])), (m1, .inl (K 0, 64, .inl (u.2.1 0))), (w0, .inl (K 0, 9, .inl fw))]) u) t) (va_A [(a0, .inr (0, [.ref m0, .ref w0])), (m0, .inr (3, [.ref m1, .int br])), (m1, .inl (K 0, 64, .inl fs)), (w0, .inl (K 0, 9, .inl fw))] sz)) 0 0 (va_A [(a0, .inr (0, [.ref m0, .ref w0])), (m0, .inr (3, [.ref m1, .int br])), (m1, .inl (K 0, 64, .inl fs)), (w0, .inl (K 0, 9, .inl fw))] sz) := by
  refine Met.ofW (cc := cX0_told) (maxL := 6) (ret := (some .int)) (by decide +kernel) rfl ?_
  intro p e s m args below meth c s₁ B hml hv
  obtain ⟨rfl, ⟨hsz, hP, hK, hD0, hN⟩, hG, hPl, hRo⟩ := hv
  have hx := B.exec
  have hb := B.bytes
  have hr := B.returns
  have hts := atoms_spec (ws := wsX0_told) B.pre
  have hown : s.vm.findClass RX0 = some m.cls := findClass_of_methodNamed B.named
  have hlocks := B.notSynchronized
  subst hsz
  have hD := hD0.self (sz := s.heap.size)
  generalize hAe : va_A [(a0, .inr (0, [.ref m0, .ref w0])), (m0, .inr (3, [.ref m1, .int br])), (m1, .inl (K 0, 64, .inl fs)), (w0, .inl (K 0, 9, .inl fw))] s.heap.size = A at hD hG hPl hRo ⊢
  have hA : ∀ q : Nat, s.heap.size ≤ q → A q := fun q h => by rw [← hAe]; exact Or.inr h
  clear hAe
  have hS : va_S A s.heap s.heap [] := va_S.rf
  replace hP : va_P D vwCl [(a0, .inr (0, [.ref m0, .ref w0])), (m0, .inr (3, [.ref m1, .int br])), (m1, .inl (K 0, 64, .inl fs)), (w0, .inl (K 0, 9, .inl fw))] s.heap := hP
  have hl := lv_entry [.ref a0, .ref q0, .int v] (n := 6) (Nat.le_of_ble_eq_true rfl)
  rw [lg_entry_eq]
  generalize (lg_sl [.ref a0, .ref q0, .int v] ++ List.replicate (6 - (lg_sl [.ref a0, .ref q0, .int v]).length) Slot.unset).toArray = ls at hl ⊢
  have hl : lv_has ls 6 [(0, .ref a0), (1, .ref q0), (2, .int v)] := hl
  have hw0 : ∀ w ∈ wsX00, w ∈ wsX0_told := fun w h => (List.mem_cons_of_mem _ (List.mem_append_left _ (List.mem_append_right _ h)))
  have hw3 : ∀ w ∈ wsX30, w ∈ wsX0_told := fun w h => (List.mem_cons_of_mem _ (List.mem_append_right _ h))
  have hw7 : ∀ w ∈ wsX70, w ∈ wsX0_told := fun w h => (List.mem_cons_of_mem _ (List.mem_append_left _ (List.mem_append_left _ (List.mem_append_right _ h))))
  generalize hQ : MQ below _ _ s _ _ _ = Q
  have hE := E_w_told.eq_def ((G q0).1) ((G q0).2.1) ((G q0).2.2.1) ((G q0).2.2.2.1) ((G q0).2.2.2.2.1) v br fs fw
  obtain ⟨sh, sc, hnh, hnc, ⟨zfh, zfc⟩, hRs⟩ := hPl q0 hq0
  refine lv_aload_n hx hb dX0_told_0 rfl (lv_at hl 1 rfl) ?_
  refine lv_ifnonnull (tgt := 10) hx hb dX0_told_1 (by decide +kernel) ?_
  refine lv_aload_n hx hb dX0_told_10 rfl (lv_at hl 1 rfl) ?_
  refine va_getN (ci := 7) (v := .int (G q0).2.2.2.2.1) (C := RX7) (T := TX7) (N := 4) hx hb hts hw7 hown hK (Ro.at hRs hS) 0 rfl rfl 2 (by decide +kernel) (nst_use hN 129 rfl) (fun _ h9 => h9) rfl dX0_told_11 ?_
  refine lv_iconst (v := 1) hx hb dX0_told_14 (by decide +kernel) ?_
  refine lv_isub hx hb dX0_told_15 ?_
  refine lv_topi (fun x_981 ex_981 => ?_)
  replace hE := hE.trans (Lt_in ex_981)
  refine lv_istore_n (lv' := [(3, .int x_981), (0, .ref a0), (1, .ref q0), (2, .int v)]) hx hb dX0_told_16 rfl hl (by decide +kernel) rfl (fun ls hl => ?_)
  have lp_1339 : ∀ (nn_ : Nat) (v_1159 : Int32) (v_1160 : Int32) (f_1161 : Nat → Int32) (hv_1160 : 0 ≤ v_1160.toInt ∧ v_1160.toInt ≤ 1) (hn : (v_1159.toInt + 1 : Int).toNat < nn_) (hE : E_w_told (G q0).1 (G q0).2.1 (G q0).2.2.1 (G q0).2.2.2.1 (G q0).2.2.2.2.1 v br fs fw = Lp (α := Int32 → Int32 → (Nat → Int32) → (Int32 × Int32 × (Nat → Int32))) (E_w_told_l17 ((G q0).1) ((G q0).2.1) ((G q0).2.2.1) ((G q0).2.2.2.1) v fw) (fun _ _ _ => ((0, 0, fun _ => 0) : Int32 × Int32 × (Nat → Int32))) nn_ v_1159 v_1160 f_1161) (H : Heap) (locs : List Loc) (hP : va_P D vwCl [(a0, .inr (0, [.ref m0, .ref w0])), (m0, .inr (3, [.ref m1, .int v_1160])), (m1, .inl (K 0, 64, .inl f_1161)), (w0, .inl (K 0, 9, .inl fw))] H) (hD : va_D A [(a0, .inr (0, [.ref m0, .ref w0])), (m0, .inr (3, [.ref m1, .int v_1160])), (m1, .inl (K 0, 64, .inl f_1161)), (w0, .inl (K 0, 9, .inl fw))]) (hS : va_S A s.heap H locs) (ls : Array Slot) (hl : lv_has ls 6 [(3, .int v_1159), (0, .ref a0), (1, .ref q0), (2, .int v)]), W p l e ({ frames := 2, cells := 0, slots := 0, locals := 56 }) s m (([.ref a0, .ref q0, .int v] : List Value).toArray) below meth c H locs 0 0 Q (F0 m 17 ls []) := by
    clear hE hP hD hS hl
    intro nn_
    induction nn_ with
    | zero =>
      intro v_1159 v_1160 f_1161 hv_1160 hn hE H locs hP hD hS ls hl
      exact absurd hn (Nat.not_lt_zero _)
    | succ nn_ ih_1340 =>
      intro v_1159 v_1160 f_1161 hv_1160 hn hE H locs hP hD hS ls hl
      replace hE : E_w_told (G q0).1 (G q0).2.1 (G q0).2.2.1 (G q0).2.2.2.1 (G q0).2.2.2.2.1 v br fs fw = E_w_told_l17 ((G q0).1) ((G q0).2.1) ((G q0).2.2.1) ((G q0).2.2.2.1) v fw (Lp (α := Int32 → Int32 → (Nat → Int32) → (Int32 × Int32 × (Nat → Int32))) (E_w_told_l17 ((G q0).1) ((G q0).2.1) ((G q0).2.2.1) ((G q0).2.2.2.1) v fw) (fun _ _ _ => ((0, 0, fun _ => 0) : Int32 × Int32 × (Nat → Int32))) nn_) v_1159 v_1160 f_1161 := hE
      obtain ⟨rec_1339, hrec_1339⟩ : ∃ z9, z9 = Lp (α := Int32 → Int32 → (Nat → Int32) → (Int32 × Int32 × (Nat → Int32))) (E_w_told_l17 ((G q0).1) ((G q0).2.1) ((G q0).2.2.1) ((G q0).2.2.2.1) v fw) (fun _ _ _ => ((0, 0, fun _ => 0) : Int32 × Int32 × (Nat → Int32))) nn_ := ⟨_, rfl⟩
      rw [← hrec_1339] at hE
      replace hE := hE.trans (E_w_told_l17.eq_def _ _ _ _ _ _ _ _ _ _)
      refine lv_iload_n hx hb dX0_told_17 rfl (lv_at hl 0 rfl) ?_
      refine lv_if_lt (tgt := 142) hx hb dX0_told_18 (by decide +kernel) (fun c_1341 => ?_) (fun c_1341 => ?_)
      · have c_1341i := i_lt (x := v_1159.toInt) (y := 0) rfl rfl c_1341
        replace hE := hE.trans (if_pos c_1341)
        refine va_getsN (C := "SmokeTune") (n := "WITHOUT_LAW") (d := "[I") (v := .ref (g 2)) hx hb (hG.arr 2 (by decide +kernel)).1 hS hown (nst_use hN 140 rfl) (fun _ h9 => h9) dX0_told_142 ?_
        refine lv_iload_n hx hb dX0_told_145 rfl (lv_at hl 3 rfl) ?_
        refine va_ti hx hb (hG.arr 2 (by decide +kernel)).2 hS (show vp_in _ 4 from (i_in rfl (by omega))) rfl dX0_told_146 ?_
        refine lv_topi (fun x_1342 ex_1342 => ?_)
        replace hE := hE.trans (Lt_in ex_1342)
        have hx_1342 : 0 ≤ x_1342.toInt ∧ x_1342.toInt ≤ 4 := by rw [ex_1342]; exact Rg.at sr_2 rfl (show 0 ≤ v.toInt ∧ v.toInt < _ by omega)
        rw [← hQ]
        have hP9 := hP.sub (ws' := [(a0, .inr (0, [.ref m0, .ref w0])), (m0, .inr (3, [.ref m1, .int v_1160])), (m1, .inl (K 0, 64, .inl f_1161)), (w0, .inl (K 0, 9, .inl fw))]) [0, 1, 2, 3] rfl
        have hD9 := hD.sub (ws' := [(a0, .inr (0, [.ref m0, .ref w0])), (m0, .inr (3, [.ref m1, .int v_1160])), (m1, .inl (K 0, 64, .inl f_1161)), (w0, .inl (K 0, 9, .inl fw))]) [0, 1, 2, 3] (by decide +kernel) rfl
        exact W.iret (v := x_1342) hx hb hr (fun t ht hW => ⟨⟨x_1342, ((fun _ => 0, fun i => match i with | _ => f_1161, fun _ => fun _ => 0, fun i => match i with | _ => v_1160, fun _ => 0, fun _ => fun _ => none) : Su), rfl, ⟨(show 0 ≤ x_1342.toInt ∧ x_1342.toInt ≤ 999 by omega), (show 0 ≤ (v_1160 : Int32).toInt ∧ (v_1160 : Int32).toInt ≤ 1 by omega), hE.symm, trivial⟩, (⟨by rw [ht]; exact hP9, hD9⟩ : Wd D A _ t)⟩, hS.F ht⟩) hS.2.2 dX0_told_147
      · have c_1341i := i_nlt (x := v_1159.toInt) (y := 0) rfl rfl c_1341
        replace hE := hE.trans (if_neg c_1341)
        refine lv_aload_n hx hb dX0_told_21 rfl (lv_at hl 2 rfl) ?_
        refine lv_iload_n hx hb dX0_told_22 rfl (lv_at hl 0 rfl) ?_
        refine lv_iconst (v := 0) hx hb dX0_told_23 (by decide +kernel) ?_
        refine pci (va_runVN (As := [.int v_1159, .int 0]) (rest := []) ⟨hx, hb, hml, hown, hts⟩ (w_head l D K q0 v_1159 0 sh (.ref sc) (.int (G q0).2.2.2.2.1) (.int (G q0).2.2.2.2.2) ((G q0).1) ((G q0).2.2.1) H.size (by omega) zfh) ⟨va_cnB 2 hts gX0_told_X7_head_n40 rfl rfl rfl (nst_at hN 26 rfl) (hts _ mm_X0_told_148) (by decide +kernel) ⟨Nat.le_of_ble_eq_true rfl, Nat.le_of_ble_eq_true rfl⟩, (hts _ mm_X0_told_413), (hts _ mm_X0_told_14)⟩ (mkV hK hN ((Ro.at hRs hS).sub [0, 1] rfl) (Ro.di hRs [0, 1] (by decide +kernel) rfl) (ci := 7) (q0 := 0) rfl rfl) rfl rfl hl.1 rfl (lv_room (Nat.le_of_ble_eq_true rfl)) dX0_told_24 ⟨Nat.le_of_ble_eq_true rfl, Nat.le_of_ble_eq_true rfl⟩) (fun r_1343 hw => ?_)
        obtain ⟨h_1345, k_1344, -⟩ := hw
        replace hE := hE.trans (Lt_in k_1344)
        refine lv_iload_n hx hb dX0_told_27 rfl (lv_at hl 3 rfl) ?_
        have j_1394 : ∀ (v_1391 : Int32) (f_1392 : Nat → Int32) (hv_1391 : 0 ≤ v_1391.toInt ∧ v_1391.toInt ≤ 1) (hE : E_w_told (G q0).1 (G q0).2.1 (G q0).2.2.1 (G q0).2.2.2.1 (G q0).2.2.2.2.1 v br fs fw = E_w_told_j136 v_1159 rec_1339 v_1391 f_1392) (H : Heap) (locs : List Loc) (hP : va_P D vwCl [(a0, .inr (0, [.ref m0, .ref w0])), (m0, .inr (3, [.ref m1, .int v_1391])), (m1, .inl (K 0, 64, .inl f_1392)), (w0, .inl (K 0, 9, .inl fw))] H) (hD : va_D A [(a0, .inr (0, [.ref m0, .ref w0])), (m0, .inr (3, [.ref m1, .int v_1391])), (m1, .inl (K 0, 64, .inl f_1392)), (w0, .inl (K 0, 9, .inl fw))]) (hS : va_S A s.heap H locs) (ls : Array Slot) (hl : lv_has ls 6 [(3, .int v_1159), (0, .ref a0), (1, .ref q0), (2, .int v)]), W p l e ({ frames := 2, cells := 0, slots := 0, locals := 56 }) s m (([.ref a0, .ref q0, .int v] : List Value).toArray) below meth c H locs 0 0 Q (F0 m 136 ls []) := by
          clear hE hP hD hS hl
          intro v_1391 f_1392 hv_1391 hE H locs hP hD hS ls hl
          replace hE := hE.trans (E_w_told_j136.eq_def _ _ _ _)
          obtain ⟨x_1395, ex_1395⟩ : ∃ y : Int32, y = v_1159 + Int32.ofInt (-1) := ⟨_, rfl⟩
          replace hE := hE.trans (Lt_in ex_1395)
          have hx_1395 : x_1395.toInt = (v_1159.toInt + (-1)) := by rw [ex_1395]; exact i_add rfl (show (Int32.ofInt (-1)).toInt = (-1) from rfl) (by have q1 := i_rng (a := v_1159) rfl; omega)
          refine lv_iinc (v := x_1395) (lv' := [(3, .int x_1395), (0, .ref a0), (1, .ref q0), (2, .int v)]) hx hb dX0_told_136 hl (k := 0) rfl (by rw [ex_1395]) (by decide +kernel) rfl (fun ls hl => ?_)
          refine lv_goto (tgt := 17) hx hb dX0_told_139 (by decide +kernel) ?_
          exact ih_1340 x_1395 v_1391 f_1392 (by omega) (by omega) (hE.trans (by rw [hrec_1339])) _ _ hP hD hS ls (lv_sub hl [0, 1, 2, 3] rfl)
        refine lv_icmp_eq (tgt := 34) hx hb dX0_told_28 (by decide +kernel) (fun c_1396 => ?_) (fun c_1396 => ?_)
        · have c_1396i := i_eq (x := r_1343.toInt) (y := v.toInt) rfl rfl c_1396
          replace hE := hE.trans (if_pos c_1396)
          refine lv_aload_n hx hb dX0_told_34 rfl (lv_at hl 2 rfl) ?_
          refine lv_iload_n hx hb dX0_told_35 rfl (lv_at hl 0 rfl) ?_
          refine lv_iconst (v := 4) hx hb dX0_told_36 (by decide +kernel) ?_
          refine pci (va_runVN (As := [.int v_1159, .int 4]) (rest := []) ⟨hx, hb, hml, hown, hts⟩ (w_head l D K q0 v_1159 4 sh (.ref sc) (.int (G q0).2.2.2.2.1) (.int (G q0).2.2.2.2.2) ((G q0).1) ((G q0).2.2.1) H.size (by omega) zfh) ⟨va_cnB 2 hts gX0_told_X7_head_n40 rfl rfl rfl (nst_at hN 26 rfl) (hts _ mm_X0_told_148) (by decide +kernel) ⟨Nat.le_of_ble_eq_true rfl, Nat.le_of_ble_eq_true rfl⟩, (hts _ mm_X0_told_413), (hts _ mm_X0_told_14)⟩ (mkV hK hN ((Ro.at hRs hS).sub [0, 1] rfl) (Ro.di hRs [0, 1] (by decide +kernel) rfl) (ci := 7) (q0 := 0) rfl rfl) rfl rfl hl.1 rfl (lv_room (Nat.le_of_ble_eq_true rfl)) dX0_told_37 ⟨Nat.le_of_ble_eq_true rfl, Nat.le_of_ble_eq_true rfl⟩) (fun r_1397 hw => ?_)
          obtain ⟨h_1399, k_1398, -⟩ := hw
          replace hE := hE.trans (Lt_in k_1398)
          refine lv_istore (lv' := [(4, .int r_1397), (3, .int v_1159), (0, .ref a0), (1, .ref q0), (2, .int v)]) hx hb dX0_told_40 hl (by decide +kernel) rfl (fun ls hl => ?_)
          refine lv_iload hx hb dX0_told_42 (lv_at hl 0 rfl) ?_
          refine lv_iconst (v := (-1)) hx hb dX0_told_44 (by decide +kernel) ?_
          have j_1421 : ∀ (v_1407 : Int32) (f_1408 : Nat → Int32) (hv_1407 : 0 ≤ v_1407.toInt ∧ v_1407.toInt ≤ 1) (hE : E_w_told (G q0).1 (G q0).2.1 (G q0).2.2.1 (G q0).2.2.2.1 (G q0).2.2.2.2.1 v br fs fw = E_w_told_j81 ((G q0).1) ((G q0).2.1) ((G q0).2.2.1) ((G q0).2.2.2.1) v fw v_1159 rec_1339 v_1407 f_1408) (H : Heap) (locs : List Loc) (hP : va_P D vwCl [(a0, .inr (0, [.ref m0, .ref w0])), (m0, .inr (3, [.ref m1, .int v_1407])), (m1, .inl (K 0, 64, .inl f_1408)), (w0, .inl (K 0, 9, .inl fw))] H) (hD : va_D A [(a0, .inr (0, [.ref m0, .ref w0])), (m0, .inr (3, [.ref m1, .int v_1407])), (m1, .inl (K 0, 64, .inl f_1408)), (w0, .inl (K 0, 9, .inl fw))]) (hS : va_S A s.heap H locs) (ls : Array Slot) (hl : lv_has ls 6 [(3, .int v_1159), (0, .ref a0), (1, .ref q0), (2, .int v)]), W p l e ({ frames := 2, cells := 0, slots := 0, locals := 56 }) s m (([.ref a0, .ref q0, .int v] : List Value).toArray) below meth c H locs 0 0 Q (F0 m 81 ls []) := by
            clear hE hP hD hS hl
            intro v_1407 f_1408 hv_1407 hE H locs hP hD hS ls hl
            replace hE := hE.trans (E_w_told_j81.eq_def _ _ _ _ _ _ _ _ _ _)
            refine lv_iload_n hx hb dX0_told_81 rfl (lv_at hl 3 rfl) ?_
            refine lv_iconst (v := 3) hx hb dX0_told_82 (by decide +kernel) ?_
            refine lv_icmp_ne (tgt := 88) hx hb dX0_told_83 (by decide +kernel) (fun c_1422 => ?_) (fun c_1422 => ?_)
            · have c_1422i := i_ne (x := v.toInt) (y := 3) rfl rfl c_1422
              replace hE := hE.trans (if_neg c_1422)
              refine lv_aload_n hx hb dX0_told_88 rfl (lv_at hl 1 rfl) ?_
              refine va_get (ci := 0) (v := .ref m0) (C := RX0) (T := TX0) (N := 2) hx hb hts hw0 hown hK hP 0 rfl rfl 0 (by decide +kernel) (hts _ mm_X0_told_265) (fun _ h9 => h9) rfl dX0_told_89 ?_
              refine lv_aload_n hx hb dX0_told_92 rfl (lv_at hl 2 rfl) ?_
              refine va_getN (ci := 7) (v := .ref sc) (C := RX7) (T := TX7) (N := 4) hx hb hts hw7 hown hK (Ro.at hRs hS) 0 rfl rfl 1 (by decide +kernel) (nst_use hN 126 rfl) (fun _ h9 => h9) rfl dX0_told_93 ?_
              refine lv_aload_n hx hb dX0_told_96 rfl (lv_at hl 2 rfl) ?_
              refine lv_iload_n hx hb dX0_told_97 rfl (lv_at hl 0 rfl) ?_
              refine lv_iconst (v := 2) hx hb dX0_told_98 (by decide +kernel) ?_
              refine pci (va_runVN (As := [.int v_1159, .int 2]) (rest := [.ref sc, .ref m0]) ⟨hx, hb, hml, hown, hts⟩ (w_head l D K q0 v_1159 2 sh (.ref sc) (.int (G q0).2.2.2.2.1) (.int (G q0).2.2.2.2.2) ((G q0).1) ((G q0).2.2.1) H.size (by omega) zfh) ⟨va_cnB 2 hts gX0_told_X7_head_n40 rfl rfl rfl (nst_at hN 26 rfl) (hts _ mm_X0_told_148) (by decide +kernel) ⟨Nat.le_of_ble_eq_true rfl, Nat.le_of_ble_eq_true rfl⟩, (hts _ mm_X0_told_413), (hts _ mm_X0_told_14)⟩ (mkV hK hN ((Ro.at hRs hS).sub [0, 1] rfl) (Ro.di hRs [0, 1] (by decide +kernel) rfl) (ci := 7) (q0 := 0) rfl rfl) rfl rfl hl.1 rfl (lv_room (Nat.le_of_ble_eq_true rfl)) dX0_told_99 ⟨Nat.le_of_ble_eq_true rfl, Nat.le_of_ble_eq_true rfl⟩) (fun r_1423 hw => ?_)
              obtain ⟨h_1425, k_1424, -⟩ := hw
              replace hE := hE.trans (Lt_in k_1424)
              refine lv_aload_n hx hb dX0_told_102 rfl (lv_at hl 1 rfl) ?_
              refine va_get (ci := 0) (v := .ref w0) (C := RX0) (T := TX0) (N := 2) hx hb hts hw0 hown hK hP 0 rfl rfl 1 (by decide +kernel) (hts _ mm_X0_told_266) (fun _ h9 => h9) rfl dX0_told_103 ?_
              refine kci (S := Su) (wr := [(a0, .inr (0, [.ref m0, .ref w0]))]) (va_runVN (As := [.ref sc, .int r_1423, .ref w0]) (rest := []) ⟨hx, hb, hml, hown, hts⟩ (w_run l D K g L G m0 sc r_1423 w0 m1 v_1407 f_1408 9 fw ((G q0).2.1) ((G q0).2.2.2.1) H.size (by first | omega | decide) (by omega) (by omega) zfc) ⟨va_cnB 3 hts gX0_told_X3_run_n46 rfl rfl rfl (nst_at hN 27 rfl) (hts _ mm_X0_told_152) (by decide +kernel) ⟨Nat.le_of_ble_eq_true rfl, Nat.le_of_ble_eq_true rfl⟩, (hts _ mm_X0_told_415), (hts _ mm_X0_told_15)⟩ (mkVY hK hN (hP.sub [1, 2, 3] rfl) (hD.sub [1, 2, 3] (by decide +kernel) rfl) (ci := 3) (q0 := 0) rfl rfl (fun U hU hW => ⟨Gl.at hG hS hW hU (fun q h => va_free hD hS hA [1, 2, 3] rfl q h), Pool.at hPl hS hU (fun q h => va_free hD hS hA [1, 2, 3] rfl q h), Ro.heap hU (Ro.ofRo hRs hS [2] (by decide +kernel) rfl (fun q h => va_free hD hS hA [1, 2, 3] rfl q h))⟩)) rfl rfl hl.1 rfl (lv_room (Nat.le_of_ble_eq_true rfl)) dX0_told_106 ⟨Nat.le_of_ble_eq_true rfl, Nat.le_of_ble_eq_true rfl⟩) hP hD hS hA [1, 2, 3] [0] rfl rfl (by decide +kernel) (by decide +kernel) (fun r_1426 u_1427 H locs hw hP0 hD0 hS0 => ?_)
              clear hP hD hS
              have hP := hP0
              have hD := hD0
              have hS := hS0
              clear hP0 hD0 hS0
              replace hP : va_P D vwCl [(a0, .inr (0, [.ref m0, .ref w0])), (m0, .inr (3, [.ref m1, .int (u_1427.2.2.2.1 0)])), (m1, .inl (K 0, 64, .inl (u_1427.2.1 0))), (w0, .inl (K 0, 9, .inl fw))] H := hP
              replace hD : va_D A [(a0, .inr (0, [.ref m0, .ref w0])), (m0, .inr (3, [.ref m1, .int (u_1427.2.2.2.1 0)])), (m1, .inl (K 0, 64, .inl (u_1427.2.1 0))), (w0, .inl (K 0, 9, .inl fw))] := hD
              obtain ⟨k_1428, k_1429, -⟩ := hw
              replace hE := (hE.trans (Lt2_in k_1429)).trans (Lt2_in rfl)
              refine lv_istore (lv' := [(5, .int r_1426), (3, .int v_1159), (0, .ref a0), (1, .ref q0), (2, .int v)]) hx hb dX0_told_109 hl (by decide +kernel) rfl (fun ls hl => ?_)
              refine lv_aload_n hx hb dX0_told_111 rfl (lv_at hl 2 rfl) ?_
              refine va_get (ci := 0) (v := .ref m0) (C := RX0) (T := TX0) (N := 2) hx hb hts hw0 hown hK hP 0 rfl rfl 0 (by decide +kernel) (hts _ mm_X0_told_265) (fun _ h9 => h9) rfl dX0_told_112 ?_
              refine va_getN (ci := 3) (v := .int (u_1427.2.2.2.1 0)) (C := RX3) (T := TX3) (N := 2) hx hb hts hw3 hown hK hP 1 rfl rfl 1 (by decide +kernel) (nst_use hN 135 rfl) (fun _ h9 => h9) rfl dX0_told_115 ?_
              refine lv_if_ne (tgt := 136) hx hb dX0_told_118 (by decide +kernel) (fun c_1430 => ?_) (fun c_1430 => ?_)
              · have c_1430i := i_ne (x := (u_1427.2.2.2.1 0).toInt) (y := 0) rfl rfl c_1430
                replace hE := hE.trans (if_neg c_1430)
                exact j_1394 (u_1427.2.2.2.1 0) (u_1427.2.1 0) (by omega) hE _ _ hP hD hS ls (lv_sub hl [1, 2, 3, 4] rfl)
              · have c_1430i := i_eq (x := (u_1427.2.2.2.1 0).toInt) (y := 0) rfl rfl c_1430
                replace hE := hE.trans (if_pos c_1430)
                refine lv_iconst (v := 0) hx hb dX0_told_121 (by decide +kernel) ?_
                refine va_getsN (C := "SmokeTune") (n := "MOST_BY_LAW") (d := "[I") (v := .ref (g 3)) hx hb (hG.arr 3 (by decide +kernel)).1 hS hown (nst_use hN 141 rfl) (fun _ h9 => h9) dX0_told_122 ?_
                refine lv_iload_n hx hb dX0_told_125 rfl (lv_at hl 4 rfl) ?_
                refine va_ti hx hb (hG.arr 3 (by decide +kernel)).2 hS (show vp_in _ 4 from (i_in rfl (by omega))) rfl dX0_told_126 ?_
                refine lv_topi (fun x_1431 ex_1431 => ?_)
                replace hE := hE.trans (Lt_in ex_1431)
                have hx_1431 : 1 ≤ x_1431.toInt ∧ x_1431.toInt ≤ 999 := by rw [ex_1431]; exact Rg.at sr_3 rfl (show 0 ≤ v.toInt ∧ v.toInt < _ by omega)
                refine lv_iload hx hb dX0_told_127 (lv_at hl 0 rfl) ?_
                refine va_mmin hx hb (hml.trans hl.1.symm) hown (hts _ mm_X0_told_425) (hts _ mm_X0_told_426) (hts _ mm_X0_told_157) (hts _ mm_X0_told_427) (Nat.le_of_ble_eq_true rfl) (Nat.le_of_ble_eq_true rfl) (Nat.le_of_ble_eq_true rfl) (Nat.le_of_ble_eq_true rfl) dX0_told_129 ?_
                refine lv_topi (fun x_1432 ex_1432 => ?_)
                replace hE := hE.trans (Lt_in ex_1432)
                have hx_1432 : (x_1431.toInt ≤ r_1426.toInt ∧ x_1432.toInt = x_1431.toInt) ∨ (r_1426.toInt < x_1431.toInt ∧ x_1432.toInt = r_1426.toInt) := by rw [ex_1432]; exact i_min rfl rfl
                replace hx_1432 : x_1432.toInt ≤ x_1431.toInt ∧ x_1432.toInt ≤ r_1426.toInt ∧ x_1432.toInt ≤ 999 := by omega
                refine va_mmax hx hb (hml.trans hl.1.symm) hown (hts _ mm_X0_told_428) (hts _ mm_X0_told_418) (hts _ mm_X0_told_157) (hts _ mm_X0_told_419) (Nat.le_of_ble_eq_true rfl) (Nat.le_of_ble_eq_true rfl) (Nat.le_of_ble_eq_true rfl) (Nat.le_of_ble_eq_true rfl) dX0_told_132 ?_
                refine lv_topi (fun x_1433 ex_1433 => ?_)
                replace hE := hE.trans (Lt_in ex_1433)
                have hx_1433 : (x_1432.toInt ≤ 0 ∧ x_1433.toInt = 0) ∨ (0 < x_1432.toInt ∧ x_1433.toInt = x_1432.toInt) := by rw [ex_1433]; exact i_max (show (0 : Int32).toInt = 0 from rfl) rfl
                replace hx_1433 : x_1432.toInt ≤ x_1433.toInt ∧ 0 ≤ x_1433.toInt ∧ x_1433.toInt ≤ 999 := by omega
                rw [← hQ]
                have hP9 := hP.sub (ws' := [(a0, .inr (0, [.ref m0, .ref w0])), (m0, .inr (3, [.ref m1, .int (u_1427.2.2.2.1 0)])), (m1, .inl (K 0, 64, .inl (u_1427.2.1 0))), (w0, .inl (K 0, 9, .inl fw))]) [0, 1, 2, 3] rfl
                have hD9 := hD.sub (ws' := [(a0, .inr (0, [.ref m0, .ref w0])), (m0, .inr (3, [.ref m1, .int (u_1427.2.2.2.1 0)])), (m1, .inl (K 0, 64, .inl (u_1427.2.1 0))), (w0, .inl (K 0, 9, .inl fw))]) [0, 1, 2, 3] (by decide +kernel) rfl
                exact W.iret (v := x_1433) hx hb hr (fun t ht hW => ⟨⟨x_1433, ((fun _ => 0, fun i => match i with | _ => (u_1427.2.1 0), fun _ => fun _ => 0, fun i => match i with | _ => (u_1427.2.2.2.1 0), fun _ => 0, fun _ => fun _ => none) : Su), rfl, ⟨(show 0 ≤ x_1433.toInt ∧ x_1433.toInt ≤ 999 by omega), (show 0 ≤ ((u_1427.2.2.2.1 0) : Int32).toInt ∧ ((u_1427.2.2.2.1 0) : Int32).toInt ≤ 1 by omega), hE.symm, trivial⟩, (⟨by rw [ht]; exact hP9, hD9⟩ : Wd D A _ t)⟩, hS.F ht⟩) hS.2.2 dX0_told_135
            · have c_1422i := i_eq (x := v.toInt) (y := 3) rfl rfl c_1422
              replace hE := hE.trans (if_pos c_1422)
              refine lv_iconst (v := 1) hx hb dX0_told_86 (by decide +kernel) ?_
              rw [← hQ]
              have hP9 := hP.sub (ws' := [(a0, .inr (0, [.ref m0, .ref w0])), (m0, .inr (3, [.ref m1, .int v_1407])), (m1, .inl (K 0, 64, .inl f_1408)), (w0, .inl (K 0, 9, .inl fw))]) [0, 1, 2, 3] rfl
              have hD9 := hD.sub (ws' := [(a0, .inr (0, [.ref m0, .ref w0])), (m0, .inr (3, [.ref m1, .int v_1407])), (m1, .inl (K 0, 64, .inl f_1408)), (w0, .inl (K 0, 9, .inl fw))]) [0, 1, 2, 3] (by decide +kernel) rfl
              exact W.iret (v := 1) hx hb hr (fun t ht hW => ⟨⟨1, ((fun _ => 0, fun i => match i with | _ => f_1408, fun _ => fun _ => 0, fun i => match i with | _ => v_1407, fun _ => 0, fun _ => fun _ => none) : Su), rfl, ⟨(show 0 ≤ (1 : Int32).toInt ∧ (1 : Int32).toInt ≤ 999 by decide), (show 0 ≤ (v_1407 : Int32).toInt ∧ (v_1407 : Int32).toInt ≤ 1 by omega), hE.symm, trivial⟩, (⟨by rw [ht]; exact hP9, hD9⟩ : Wd D A _ t)⟩, hS.F ht⟩) hS.2.2 dX0_told_87
          refine lv_icmp_eq (tgt := 81) hx hb dX0_told_45 (by decide +kernel) (fun c_1434 => ?_) (fun c_1434 => ?_)
          · have c_1434i := i_eq (x := r_1397.toInt) (y := (-1)) rfl rfl c_1434
            replace hE := hE.trans (if_pos c_1434)
            exact j_1421 v_1160 f_1161 (by omega) hE _ _ hP hD hS ls (lv_sub hl [1, 2, 3, 4] rfl)
          · have c_1434i := i_ne (x := r_1397.toInt) (y := (-1)) rfl rfl c_1434
            replace hE := hE.trans (if_neg c_1434)
            refine lv_aload_n hx hb dX0_told_48 rfl (lv_at hl 2 rfl) ?_
            refine va_get (ci := 0) (v := .ref m0) (C := RX0) (T := TX0) (N := 2) hx hb hts hw0 hown hK hP 0 rfl rfl 0 (by decide +kernel) (hts _ mm_X0_told_265) (fun _ h9 => h9) rfl dX0_told_49 ?_
            refine lv_aload_n hx hb dX0_told_52 rfl (lv_at hl 3 rfl) ?_
            refine va_getN (ci := 7) (v := .ref sc) (C := RX7) (T := TX7) (N := 4) hx hb hts hw7 hown hK (Ro.at hRs hS) 0 rfl rfl 1 (by decide +kernel) (nst_use hN 126 rfl) (fun _ h9 => h9) rfl dX0_told_53 ?_
            refine lv_iload hx hb dX0_told_56 (lv_at hl 0 rfl) ?_
            refine lv_aload_n hx hb dX0_told_58 rfl (lv_at hl 2 rfl) ?_
            refine va_get (ci := 0) (v := .ref w0) (C := RX0) (T := TX0) (N := 2) hx hb hts hw0 hown hK hP 0 rfl rfl 1 (by decide +kernel) (hts _ mm_X0_told_266) (fun _ h9 => h9) rfl dX0_told_59 ?_
            refine kci (S := Su) (wr := [(a0, .inr (0, [.ref m0, .ref w0]))]) (va_runVN (As := [.ref sc, .int r_1397, .ref w0]) (rest := []) ⟨hx, hb, hml, hown, hts⟩ (w_run l D K g L G m0 sc r_1397 w0 m1 v_1160 f_1161 9 fw ((G q0).2.1) ((G q0).2.2.2.1) H.size (by first | omega | decide) (by omega) (by omega) zfc) ⟨va_cnB 3 hts gX0_told_X3_run_n46 rfl rfl rfl (nst_at hN 27 rfl) (hts _ mm_X0_told_152) (by decide +kernel) ⟨Nat.le_of_ble_eq_true rfl, Nat.le_of_ble_eq_true rfl⟩, (hts _ mm_X0_told_415), (hts _ mm_X0_told_15)⟩ (mkVY hK hN (hP.sub [1, 2, 3] rfl) (hD.sub [1, 2, 3] (by decide +kernel) rfl) (ci := 3) (q0 := 0) rfl rfl (fun U hU hW => ⟨Gl.at hG hS hW hU (fun q h => va_free hD hS hA [1, 2, 3] rfl q h), Pool.at hPl hS hU (fun q h => va_free hD hS hA [1, 2, 3] rfl q h), Ro.heap hU (Ro.ofRo hRs hS [2] (by decide +kernel) rfl (fun q h => va_free hD hS hA [1, 2, 3] rfl q h))⟩)) rfl rfl hl.1 rfl (lv_room (Nat.le_of_ble_eq_true rfl)) dX0_told_62 ⟨Nat.le_of_ble_eq_true rfl, Nat.le_of_ble_eq_true rfl⟩) hP hD hS hA [1, 2, 3] [0] rfl rfl (by decide +kernel) (by decide +kernel) (fun r_1435 u_1436 H locs hw hP0 hD0 hS0 => ?_)
            clear hP hD hS
            have hP := hP0
            have hD := hD0
            have hS := hS0
            clear hP0 hD0 hS0
            replace hP : va_P D vwCl [(a0, .inr (0, [.ref m0, .ref w0])), (m0, .inr (3, [.ref m1, .int (u_1436.2.2.2.1 0)])), (m1, .inl (K 0, 64, .inl (u_1436.2.1 0))), (w0, .inl (K 0, 9, .inl fw))] H := hP
            replace hD : va_D A [(a0, .inr (0, [.ref m0, .ref w0])), (m0, .inr (3, [.ref m1, .int (u_1436.2.2.2.1 0)])), (m1, .inl (K 0, 64, .inl (u_1436.2.1 0))), (w0, .inl (K 0, 9, .inl fw))] := hD
            obtain ⟨k_1437, k_1438, -⟩ := hw
            replace hE := (hE.trans (Lt2_in k_1438)).trans (Lt2_in rfl)
            refine lv_if_eq (tgt := 136) hx hb dX0_told_65 (by decide +kernel) (fun c_1439 => ?_) (fun c_1439 => ?_)
            · have c_1439i := i_eq (x := r_1435.toInt) (y := 0) rfl rfl c_1439
              replace hE := hE.trans (if_pos c_1439)
              exact j_1394 (u_1436.2.2.2.1 0) (u_1436.2.1 0) (by omega) hE _ _ hP hD hS ls (lv_sub hl [1, 2, 3, 4] rfl)
            · have c_1439i := i_ne (x := r_1435.toInt) (y := 0) rfl rfl c_1439
              replace hE := hE.trans (if_neg c_1439)
              refine lv_aload_n hx hb dX0_told_68 rfl (lv_at hl 2 rfl) ?_
              refine va_get (ci := 0) (v := .ref m0) (C := RX0) (T := TX0) (N := 2) hx hb hts hw0 hown hK hP 0 rfl rfl 0 (by decide +kernel) (hts _ mm_X0_told_265) (fun _ h9 => h9) rfl dX0_told_69 ?_
              refine va_getN (ci := 3) (v := .int (u_1436.2.2.2.1 0)) (C := RX3) (T := TX3) (N := 2) hx hb hts hw3 hown hK hP 1 rfl rfl 1 (by decide +kernel) (nst_use hN 135 rfl) (fun _ h9 => h9) rfl dX0_told_72 ?_
              refine lv_if_eq (tgt := 81) hx hb dX0_told_75 (by decide +kernel) (fun c_1440 => ?_) (fun c_1440 => ?_)
              · have c_1440i := i_eq (x := (u_1436.2.2.2.1 0).toInt) (y := 0) rfl rfl c_1440
                replace hE := hE.trans (if_pos c_1440)
                exact j_1421 (u_1436.2.2.2.1 0) (u_1436.2.1 0) (by omega) hE _ _ hP hD hS ls (lv_sub hl [1, 2, 3, 4] rfl)
              · have c_1440i := i_ne (x := (u_1436.2.2.2.1 0).toInt) (y := 0) rfl rfl c_1440
                replace hE := hE.trans (if_neg c_1440)
                refine lv_goto (tgt := 136) hx hb dX0_told_78 (by decide +kernel) ?_
                exact j_1394 (u_1436.2.2.2.1 0) (u_1436.2.1 0) (by omega) hE _ _ hP hD hS ls (lv_sub hl [1, 2, 3, 4] rfl)
        · have c_1396i := i_ne (x := r_1343.toInt) (y := v.toInt) rfl rfl c_1396
          replace hE := hE.trans (if_neg c_1396)
          refine lv_goto (tgt := 136) hx hb dX0_told_31 (by decide +kernel) ?_
          exact j_1394 v_1160 f_1161 (by omega) hE _ _ hP hD hS ls (lv_sub hl [0, 1, 2, 3] rfl)
  exact lp_1339 (((x_981 : Int32).toInt + 1 : Int).toNat + 1) x_981 br fs (by omega) (Nat.lt_succ_self _) hE _ _ hP hD hS ls (lv_sub hl [0, 1, 2, 3] rfl)
set_option maxRecDepth 100000 in
noncomputable def E_w_lawAt (x : Int32) (lt : Int32) (fl : Nat → Option Nat) : Option Nat :=
  Lt (lt - 1 : Int32) (fun x_79 => Lt (E_w_within x 0 x_79) (fun r_80 => if r_80 = 1 then (Lt (fl (x : Int32).toNatClampNeg : Option Nat) (fun y_86 => (y_86 : Option Nat))) else ((none : Option Nat))))
set_option maxHeartbeats 4000000 in
set_option maxRecDepth 100000 in
theorem w_lawAt (l : Launch) (D : va_G) (K : Nat → ClassId) (g : Nat → Nat) (L : Nat → Prop) (G : Nat → LC) (a0 : Nat) (x : Int32) (k_0 : Value) (k_1 : Value) (k_2 : Value) (l0 : Nat) (k_4 : Value) (lt : Int32) (k_6 : Value) (k_7 : Value) (k_8 : Value) (k_9 : Value) (fl : Nat → Option Nat) (sz : Nat) (zlt : 0 ≤ lt.toInt ∧ lt.toInt ≤ 6) (zfl : InL L fl) : Met l yX9_lawAt wsX9_lawAt ({ frames := 1, cells := 0, slots := 0, locals := 22 }) (va_Pc [.ref a0, .int x] (PreY D K [(a0, .inr (9, [k_0, k_1, k_2, .ref l0, k_4, .int lt, k_6, k_7, k_8, k_9])), (l0, .inl (K 4, 6, .inr (.inr (.inr (.inr fl)))))] [] sz g L G (fun _ => False))) (va_Sq (fun r => (InLo L r) ∧ r = E_w_lawAt x lt fl)) 0 0 (fun _ => False) := by
  refine Met.ofW (cc := cX9_lawAt) (maxL := 2) (ret := (some (.object "SmokeTune$Script"))) (by decide +kernel) rfl ?_
  intro p e s m args below meth c s₁ B hml hv
  obtain ⟨rfl, ⟨hsz, hP, hK, hD0, hN⟩, hG, hPl, hRo⟩ := hv
  have hx := B.exec
  have hb := B.bytes
  have hr := B.returns
  have hts := atoms_spec (ws := wsX9_lawAt) B.pre
  have hown : s.vm.findClass RX9 = some m.cls := findClass_of_methodNamed B.named
  have hlocks := B.notSynchronized
  subst hsz
  have hD := hD0
  have hS : va_S (fun _ => False) s.heap s.heap [] := va_S.rf
  replace hP : va_P D vwCl [(a0, .inr (9, [k_0, k_1, k_2, .ref l0, k_4, .int lt, k_6, k_7, k_8, k_9])), (l0, .inl (K 4, 6, .inr (.inr (.inr (.inr fl)))))] s.heap := hP
  have hl := lv_entry [.ref a0, .int x] (n := 2) (Nat.le_of_ble_eq_true rfl)
  rw [lg_entry_eq]
  generalize (lg_sl [.ref a0, .int x] ++ List.replicate (2 - (lg_sl [.ref a0, .int x]).length) Slot.unset).toArray = ls at hl ⊢
  have hl : lv_has ls 2 [(0, .ref a0), (1, .int x)] := hl
  have hw9 : ∀ w ∈ wsX90, w ∈ wsX9_lawAt := fun w h => (List.mem_cons_of_mem _ (List.mem_append_right _ h))
  generalize hQ : MQ below _ _ s _ _ _ = Q
  have hE := E_w_lawAt.eq_def x lt fl
  refine lv_iload_n hx hb dX9_lawAt_0 rfl (lv_at hl 1 rfl) ?_
  refine lv_iconst (v := 0) hx hb dX9_lawAt_1 (by decide +kernel) ?_
  refine lv_aload_n hx hb dX9_lawAt_2 rfl (lv_at hl 0 rfl) ?_
  refine va_get (ci := 9) (v := .int lt) (C := RX9) (T := TX9) (N := 10) hx hb hts hw9 hown hK hP 0 rfl rfl 5 (by decide +kernel) (hts _ mm_X9_lawAt_179) (fun _ h9 => h9) rfl dX9_lawAt_3 ?_
  refine lv_iconst (v := 1) hx hb dX9_lawAt_6 (by decide +kernel) ?_
  refine lv_isub hx hb dX9_lawAt_7 ?_
  refine lv_topi (fun x_79 ex_79 => ?_)
  replace hE := hE.trans (Lt_in ex_79)
  have hx_79 : x_79.toInt = (lt.toInt - 1) := by rw [ex_79]; exact i_sub rfl (show (1 : Int32).toInt = 1 from rfl) (by omega)
  refine pci (va_runSN (As := [.int x, .int 0, .int x_79]) (rest := []) ⟨hx, hb, hml, hown, hts⟩ (w_within l D K x.toInt 0 (lt.toInt - 1) x 0 x_79 s.heap.size rfl (show (0 : Int32).toInt = 0 from rfl) hx_79) ⟨va_cnB 3 hts gX9_lawAt_X11_within_n52 rfl rfl rfl (nst_at hN 18 rfl) (hts _ mm_X9_lawAt_144) (by decide +kernel) ⟨Nat.le_of_ble_eq_true rfl, Nat.le_of_ble_eq_true rfl⟩, (hts _ mm_X9_lawAt_373), trivial⟩ (mkS hK hN (va_P.nil) (va_D.nil (A := fun _ => True))) rfl rfl hl.1 rfl (lv_room (Nat.le_of_ble_eq_true rfl)) dX9_lawAt_8 ⟨Nat.le_of_ble_eq_true rfl, Nat.le_of_ble_eq_true rfl⟩) (fun r_80 hw => ?_)
  obtain ⟨hw, k_81, -⟩ := hw
  replace hE := hE.trans (Lt_in k_81)
  rcases hw with ⟨rfl, h_82, h_83⟩ | ⟨rfl, h_84⟩
  · replace hE := (hE).trans (if_pos rfl)
    refine lv_if_eq (tgt := 23) hx hb dX9_lawAt_11 (by decide +kernel) (fun c_85 => absurd c_85 (by decide +kernel)) (fun c_85 => ?_)
    refine lv_aload_n hx hb dX9_lawAt_14 rfl (lv_at hl 0 rfl) ?_
    refine va_get (ci := 9) (v := .ref l0) (C := RX9) (T := TX9) (N := 10) hx hb hts hw9 hown hK hP 0 rfl rfl 3 (by decide +kernel) (hts _ mm_X9_lawAt_177) (fun _ h9 => h9) rfl dX9_lawAt_15 ?_
    refine lv_iload_n hx hb dX9_lawAt_18 rfl (lv_at hl 1 rfl) ?_
    refine va_aldq (C := "SmokeTune$Script") hx hb hK hP 1 4 rfl rfl (i_in rfl (by omega)) dX9_lawAt_19 ?_
    obtain ⟨y_86, ey_86⟩ : ∃ z : Option Nat, z = (fl (x : Int32).toNatClampNeg) := ⟨_, rfl⟩
    replace hE := hE.trans (Lt_in ey_86)
    have hy_86 : InLo L y_86 := by rw [ey_86]; exact zfl _
    refine W.eq (g2 := F0 m 20 ls [va_rf y_86]) (by rw [ey_86]) ?_
    refine lv_goto (tgt := 24) hx hb dX9_lawAt_20 (by decide +kernel) ?_
    rw [← hQ]
    exact aretq hx hb hr (fun t ht hW => ⟨y_86, rfl, ⟨hy_86, hE.symm⟩, ht⟩) (fun q hq => by cases hq) dX9_lawAt_24 hlocks
  · replace hE := (hE).trans (if_neg (by first | decide | (intro h9; have h8 := congrArg Int32.toInt h9; omega)))
    refine lv_if_eq (tgt := 23) hx hb dX9_lawAt_11 (by decide +kernel) (fun c_87 => ?_) (fun c_87 => absurd (by decide +kernel) c_87)
    refine lv_null hx hb dX9_lawAt_23 ?_
    rw [← hQ]
    exact W.aret (v := .null) hx hb hr (Or.inl ⟨_, rfl⟩) (Or.inl rfl) (fun t ht hW => ⟨none, rfl, ⟨trivial, hE.symm⟩, ht⟩) (fun q hq => by cases hq) dX9_lawAt_24
set_option maxRecDepth 100000 in
noncomputable def E_w_lawInForce (lt : Int32) (nf : Int32) (fl : Nat → Option Nat) : Option Nat :=
  Lt (E_w_lawAt nf lt fl) (fun r_67 => (r_67 : Option Nat))
set_option maxHeartbeats 4000000 in
set_option maxRecDepth 100000 in
theorem w_lawInForce (l : Launch) (D : va_G) (K : Nat → ClassId) (g : Nat → Nat) (L : Nat → Prop) (G : Nat → LC) (a0 : Nat) (k_0 : Value) (k_1 : Value) (k_2 : Value) (l0 : Nat) (k_4 : Value) (lt : Int32) (nf : Int32) (k_7 : Value) (k_8 : Value) (k_9 : Value) (fl : Nat → Option Nat) (sz : Nat) (zlt : 0 ≤ lt.toInt ∧ lt.toInt ≤ 6) (zfl : InL L fl) : Met l yX9_lawInForce wsX9_lawInForce ({ frames := 2, cells := 0, slots := 0, locals := 43 }) (va_Pc [.ref a0] (PreY D K [(a0, .inr (9, [k_0, k_1, k_2, .ref l0, k_4, .int lt, .int nf, k_7, k_8, k_9])), (l0, .inl (K 4, 6, .inr (.inr (.inr (.inr fl)))))] [] sz g L G (fun _ => False))) (va_Sq (fun r => (InLo L r) ∧ r = E_w_lawInForce lt nf fl)) 0 0 (fun _ => False) := by
  refine Met.ofW (cc := cX9_lawInForce) (maxL := 1) (ret := (some (.object "SmokeTune$Script"))) (by decide +kernel) rfl ?_
  intro p e s m args below meth c s₁ B hml hv
  obtain ⟨rfl, ⟨hsz, hP, hK, hD0, hN⟩, hG, hPl, hRo⟩ := hv
  have hx := B.exec
  have hb := B.bytes
  have hr := B.returns
  have hts := atoms_spec (ws := wsX9_lawInForce) B.pre
  have hown : s.vm.findClass RX9 = some m.cls := findClass_of_methodNamed B.named
  have hlocks := B.notSynchronized
  subst hsz
  have hD := hD0
  have hS : va_S (fun _ => False) s.heap s.heap [] := va_S.rf
  replace hP : va_P D vwCl [(a0, .inr (9, [k_0, k_1, k_2, .ref l0, k_4, .int lt, .int nf, k_7, k_8, k_9])), (l0, .inl (K 4, 6, .inr (.inr (.inr (.inr fl)))))] s.heap := hP
  have hl := lv_entry [.ref a0] (n := 1) (Nat.le_of_ble_eq_true rfl)
  rw [lg_entry_eq]
  generalize (lg_sl [.ref a0] ++ List.replicate (1 - (lg_sl [.ref a0]).length) Slot.unset).toArray = ls at hl ⊢
  have hl : lv_has ls 1 [(0, .ref a0)] := hl
  have hw9 : ∀ w ∈ wsX90, w ∈ wsX9_lawInForce := fun w h => (List.mem_cons_of_mem _ (List.mem_append_right _ h))
  generalize hQ : MQ below _ _ s _ _ _ = Q
  have hE := E_w_lawInForce.eq_def lt nf fl
  refine lv_aload_n hx hb dX9_lawInForce_0 rfl (lv_at hl 0 rfl) ?_
  refine lv_aload_n hx hb dX9_lawInForce_1 rfl (lv_at hl 0 rfl) ?_
  refine va_get (ci := 9) (v := .int nf) (C := RX9) (T := TX9) (N := 10) hx hb hts hw9 hown hK hP 0 rfl rfl 6 (by decide +kernel) (hts _ mm_X9_lawInForce_180) (fun _ h9 => h9) rfl dX9_lawInForce_2 ?_
  refine pcq (va_runV (As := [.int nf]) (rest := []) ⟨hx, hb, hml, hown, hts⟩ (w_lawAt l D K g L G a0 nf k_0 k_1 k_2 l0 k_4 lt (.int nf) k_7 k_8 k_9 fl s.heap.size (by first | omega | decide) zfl) (cwV 1 hts gX9_lawInForce_X9_lawAt rfl rfl rfl (by decide +kernel) ⟨Nat.le_of_ble_eq_true rfl, Nat.le_of_ble_eq_true rfl⟩) (mkVY hK hN (hP.sub [0, 1] rfl) (hD.sub [0, 1] (by decide +kernel) rfl) (ci := 9) (q0 := 0) rfl rfl (fun U hU hW => ⟨Gl.at hG hS hW hU (fun _ h9 => h9.elim), Pool.at hPl hS hU (fun _ h9 => h9.elim), Ro.heap hU (Ro.nil)⟩)) rfl rfl hl.1 rfl (lv_room (Nat.le_of_ble_eq_true rfl)) dX9_lawInForce_5 ⟨Nat.le_of_ble_eq_true rfl, Nat.le_of_ble_eq_true rfl⟩) (fun r_67 hw => ?_)
  obtain ⟨hw, k_69⟩ := hw
  have hr_67 : InLo L r_67 := hw
  replace hE := hE.trans (Lt_in k_69)
  rw [← hQ]
  exact aretq hx hb hr (fun t ht hW => ⟨r_67, rfl, ⟨hr_67, hE.symm⟩, ht⟩) (fun q hq => by cases hq) dX9_lawInForce_8 hlocks
