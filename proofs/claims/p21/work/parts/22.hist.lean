theorem BX2_become_0 : bsegs (ByteArray.data cX2_become |>.toList.drop 0) 0 [(0, [43]), (1, [180, 0, 11]), (4, [3]), (5, [42]), (6, [180, 0, 11]), (9, [3]), (10, [42]), (11, [180, 0, 11]), (14, [190]), (15, [184, 0, 22]), (18, [42]), (19, [43]), (20, [180, 0, 15]), (23, [181, 0, 15]), (26, [42]), (27, [43]), (28, [180, 0, 19]), (31, [181, 0, 19]), (34, [177])] = true := by decide +kernel
theorem dX2_become_0 : decode cX2_become 0 = .ok (.aload_n 1, 1) := dk_43 (bs_at BX2_become_0 0 rfl)
theorem dX2_become_1 : decode cX2_become 1 = .ok (.getfield 11, 3) := dk_180 0 11 (bs_at BX2_become_0 1 rfl) rfl
theorem dX2_become_4 : decode cX2_become 4 = .ok (.iconst 0, 1) := dk_3 (bs_at BX2_become_0 2 rfl)
theorem dX2_become_5 : decode cX2_become 5 = .ok (.aload_n 0, 1) := dk_42 (bs_at BX2_become_0 3 rfl)
theorem dX2_become_6 : decode cX2_become 6 = .ok (.getfield 11, 3) := dk_180 0 11 (bs_at BX2_become_0 4 rfl) rfl
theorem dX2_become_9 : decode cX2_become 9 = .ok (.iconst 0, 1) := dk_3 (bs_at BX2_become_0 5 rfl)
theorem dX2_become_10 : decode cX2_become 10 = .ok (.aload_n 0, 1) := dk_42 (bs_at BX2_become_0 6 rfl)
theorem dX2_become_11 : decode cX2_become 11 = .ok (.getfield 11, 3) := dk_180 0 11 (bs_at BX2_become_0 7 rfl) rfl
theorem dX2_become_14 : decode cX2_become 14 = .ok (.arraylength, 1) := dk_190 (bs_at BX2_become_0 8 rfl)
theorem dX2_become_15 : decode cX2_become 15 = .ok (.invokestatic 22, 3) := dk_184 0 22 (bs_at BX2_become_0 9 rfl) rfl
theorem dX2_become_18 : decode cX2_become 18 = .ok (.aload_n 0, 1) := dk_42 (bs_at BX2_become_0 10 rfl)
theorem dX2_become_19 : decode cX2_become 19 = .ok (.aload_n 1, 1) := dk_43 (bs_at BX2_become_0 11 rfl)
theorem dX2_become_20 : decode cX2_become 20 = .ok (.getfield 15, 3) := dk_180 0 15 (bs_at BX2_become_0 12 rfl) rfl
theorem dX2_become_23 : decode cX2_become 23 = .ok (.putfield 15, 3) := dk_181 0 15 (bs_at BX2_become_0 13 rfl) rfl
theorem dX2_become_26 : decode cX2_become 26 = .ok (.aload_n 0, 1) := dk_42 (bs_at BX2_become_0 14 rfl)
theorem dX2_become_27 : decode cX2_become 27 = .ok (.aload_n 1, 1) := dk_43 (bs_at BX2_become_0 15 rfl)
theorem dX2_become_28 : decode cX2_become 28 = .ok (.getfield 19, 3) := dk_180 0 19 (bs_at BX2_become_0 16 rfl) rfl
theorem dX2_become_31 : decode cX2_become 31 = .ok (.putfield 19, 3) := dk_181 0 19 (bs_at BX2_become_0 17 rfl) rfl
theorem dX2_become_34 : decode cX2_become 34 = .ok (.return_, 1) := dk_177 (bs_at BX2_become_0 18 rfl)
theorem BX2_draft_0 : bsegs (ByteArray.data cX2_draft |>.toList.drop 0) 0 [(0, [42]), (1, [180, 0, 15]), (4, [16, 28]), (6, [104]), (7, [61]), (8, [42]), (9, [180, 0, 11]), (12, [28]), (13, [4]), (14, [96]), (15, [43]), (16, [180, 0, 28]), (19, [79]), (20, [42]), (21, [180, 0, 11]), (24, [28]), (25, [5]), (26, [96]), (27, [43]), (28, [180, 0, 33]), (31, [3]), (32, [46]), (33, [79]), (34, [42])] = true := by decide +kernel
theorem dX2_draft_0 : decode cX2_draft 0 = .ok (.aload_n 0, 1) := dk_42 (bs_at BX2_draft_0 0 rfl)
theorem dX2_draft_1 : decode cX2_draft 1 = .ok (.getfield 15, 3) := dk_180 0 15 (bs_at BX2_draft_0 1 rfl) rfl
theorem dX2_draft_4 : decode cX2_draft 4 = .ok (.bipush 28, 2) := dk_16 28 (bs_at BX2_draft_0 2 rfl) rfl
theorem dX2_draft_6 : decode cX2_draft 6 = .ok (.imul, 1) := dk_104 (bs_at BX2_draft_0 3 rfl)
theorem dX2_draft_7 : decode cX2_draft 7 = .ok (.istore_n 2, 1) := dk_61 (bs_at BX2_draft_0 4 rfl)
theorem dX2_draft_8 : decode cX2_draft 8 = .ok (.aload_n 0, 1) := dk_42 (bs_at BX2_draft_0 5 rfl)
theorem dX2_draft_9 : decode cX2_draft 9 = .ok (.getfield 11, 3) := dk_180 0 11 (bs_at BX2_draft_0 6 rfl) rfl
theorem dX2_draft_12 : decode cX2_draft 12 = .ok (.iload_n 2, 1) := dk_28 (bs_at BX2_draft_0 7 rfl)
theorem dX2_draft_13 : decode cX2_draft 13 = .ok (.iconst 1, 1) := dk_4 (bs_at BX2_draft_0 8 rfl)
theorem dX2_draft_14 : decode cX2_draft 14 = .ok (.iadd, 1) := dk_96 (bs_at BX2_draft_0 9 rfl)
theorem dX2_draft_15 : decode cX2_draft 15 = .ok (.aload_n 1, 1) := dk_43 (bs_at BX2_draft_0 10 rfl)
theorem dX2_draft_16 : decode cX2_draft 16 = .ok (.getfield 28, 3) := dk_180 0 28 (bs_at BX2_draft_0 11 rfl) rfl
theorem dX2_draft_19 : decode cX2_draft 19 = .ok (.iastore, 1) := dk_79 (bs_at BX2_draft_0 12 rfl)
theorem dX2_draft_20 : decode cX2_draft 20 = .ok (.aload_n 0, 1) := dk_42 (bs_at BX2_draft_0 13 rfl)
theorem dX2_draft_21 : decode cX2_draft 21 = .ok (.getfield 11, 3) := dk_180 0 11 (bs_at BX2_draft_0 14 rfl) rfl
theorem dX2_draft_24 : decode cX2_draft 24 = .ok (.iload_n 2, 1) := dk_28 (bs_at BX2_draft_0 15 rfl)
theorem dX2_draft_25 : decode cX2_draft 25 = .ok (.iconst 2, 1) := dk_5 (bs_at BX2_draft_0 16 rfl)
theorem dX2_draft_26 : decode cX2_draft 26 = .ok (.iadd, 1) := dk_96 (bs_at BX2_draft_0 17 rfl)
theorem dX2_draft_27 : decode cX2_draft 27 = .ok (.aload_n 1, 1) := dk_43 (bs_at BX2_draft_0 18 rfl)
theorem dX2_draft_28 : decode cX2_draft 28 = .ok (.getfield 33, 3) := dk_180 0 33 (bs_at BX2_draft_0 19 rfl) rfl
theorem dX2_draft_31 : decode cX2_draft 31 = .ok (.iconst 0, 1) := dk_3 (bs_at BX2_draft_0 20 rfl)
theorem dX2_draft_32 : decode cX2_draft 32 = .ok (.iaload, 1) := dk_46 (bs_at BX2_draft_0 21 rfl)
theorem dX2_draft_33 : decode cX2_draft 33 = .ok (.iastore, 1) := dk_79 (bs_at BX2_draft_0 22 rfl)
theorem dX2_draft_34 : decode cX2_draft 34 = .ok (.aload_n 0, 1) := dk_42 (bs_at BX2_draft_0 23 rfl)
theorem BX2_draft_35 : bsegs (ByteArray.data cX2_draft |>.toList.drop 35) 35 [(35, [180, 0, 11]), (38, [28]), (39, [6]), (40, [96]), (41, [43]), (42, [180, 0, 33]), (45, [4]), (46, [46]), (47, [79]), (48, [3]), (49, [62]), (50, [29]), (51, [6]), (52, [162, 0, 37]), (55, [43]), (56, [180, 0, 36]), (59, [29]), (60, [184, 0, 39]), (63, [16, 8]), (65, [104]), (66, [42]), (67, [180, 0, 11]), (70, [28]), (71, [7])] = true := by decide +kernel
theorem dX2_draft_35 : decode cX2_draft 35 = .ok (.getfield 11, 3) := dk_180 0 11 (bs_at BX2_draft_35 0 rfl) rfl
theorem dX2_draft_38 : decode cX2_draft 38 = .ok (.iload_n 2, 1) := dk_28 (bs_at BX2_draft_35 1 rfl)
theorem dX2_draft_39 : decode cX2_draft 39 = .ok (.iconst 3, 1) := dk_6 (bs_at BX2_draft_35 2 rfl)
theorem dX2_draft_40 : decode cX2_draft 40 = .ok (.iadd, 1) := dk_96 (bs_at BX2_draft_35 3 rfl)
theorem dX2_draft_41 : decode cX2_draft 41 = .ok (.aload_n 1, 1) := dk_43 (bs_at BX2_draft_35 4 rfl)
theorem dX2_draft_42 : decode cX2_draft 42 = .ok (.getfield 33, 3) := dk_180 0 33 (bs_at BX2_draft_35 5 rfl) rfl
theorem dX2_draft_45 : decode cX2_draft 45 = .ok (.iconst 1, 1) := dk_4 (bs_at BX2_draft_35 6 rfl)
theorem dX2_draft_46 : decode cX2_draft 46 = .ok (.iaload, 1) := dk_46 (bs_at BX2_draft_35 7 rfl)
theorem dX2_draft_47 : decode cX2_draft 47 = .ok (.iastore, 1) := dk_79 (bs_at BX2_draft_35 8 rfl)
theorem dX2_draft_48 : decode cX2_draft 48 = .ok (.iconst 0, 1) := dk_3 (bs_at BX2_draft_35 9 rfl)
theorem dX2_draft_49 : decode cX2_draft 49 = .ok (.istore_n 3, 1) := dk_62 (bs_at BX2_draft_35 10 rfl)
theorem dX2_draft_50 : decode cX2_draft 50 = .ok (.iload_n 3, 1) := dk_29 (bs_at BX2_draft_35 11 rfl)
theorem dX2_draft_51 : decode cX2_draft 51 = .ok (.iconst 3, 1) := dk_6 (bs_at BX2_draft_35 12 rfl)
theorem dX2_draft_52 : decode cX2_draft 52 = .ok (.if_icmp .ge 37, 3) := dk_162 0 37 (bs_at BX2_draft_35 13 rfl) rfl
theorem dX2_draft_55 : decode cX2_draft 55 = .ok (.aload_n 1, 1) := dk_43 (bs_at BX2_draft_35 14 rfl)
theorem dX2_draft_56 : decode cX2_draft 56 = .ok (.getfield 36, 3) := dk_180 0 36 (bs_at BX2_draft_35 15 rfl) rfl
theorem dX2_draft_59 : decode cX2_draft 59 = .ok (.iload_n 3, 1) := dk_29 (bs_at BX2_draft_35 16 rfl)
theorem dX2_draft_60 : decode cX2_draft 60 = .ok (.invokestatic 39, 3) := dk_184 0 39 (bs_at BX2_draft_35 17 rfl) rfl
theorem dX2_draft_63 : decode cX2_draft 63 = .ok (.bipush 8, 2) := dk_16 8 (bs_at BX2_draft_35 18 rfl) rfl
theorem dX2_draft_65 : decode cX2_draft 65 = .ok (.imul, 1) := dk_104 (bs_at BX2_draft_35 19 rfl)
theorem dX2_draft_66 : decode cX2_draft 66 = .ok (.aload_n 0, 1) := dk_42 (bs_at BX2_draft_35 20 rfl)
theorem dX2_draft_67 : decode cX2_draft 67 = .ok (.getfield 11, 3) := dk_180 0 11 (bs_at BX2_draft_35 21 rfl) rfl
theorem dX2_draft_70 : decode cX2_draft 70 = .ok (.iload_n 2, 1) := dk_28 (bs_at BX2_draft_35 22 rfl)
theorem dX2_draft_71 : decode cX2_draft 71 = .ok (.iconst 4, 1) := dk_7 (bs_at BX2_draft_35 23 rfl)
theorem BX2_draft_72 : bsegs (ByteArray.data cX2_draft |>.toList.drop 72) 72 [(72, [96]), (73, [29]), (74, [16, 8]), (76, [104]), (77, [96]), (78, [16, 8]), (80, [184, 0, 22]), (83, [132, 3, 1]), (86, [167, 255, 220]), (89, [177])] = true := by decide +kernel
theorem dX2_draft_72 : decode cX2_draft 72 = .ok (.iadd, 1) := dk_96 (bs_at BX2_draft_72 0 rfl)
theorem dX2_draft_73 : decode cX2_draft 73 = .ok (.iload_n 3, 1) := dk_29 (bs_at BX2_draft_72 1 rfl)
theorem dX2_draft_74 : decode cX2_draft 74 = .ok (.bipush 8, 2) := dk_16 8 (bs_at BX2_draft_72 2 rfl) rfl
theorem dX2_draft_76 : decode cX2_draft 76 = .ok (.imul, 1) := dk_104 (bs_at BX2_draft_72 3 rfl)
theorem dX2_draft_77 : decode cX2_draft 77 = .ok (.iadd, 1) := dk_96 (bs_at BX2_draft_72 4 rfl)
theorem dX2_draft_78 : decode cX2_draft 78 = .ok (.bipush 8, 2) := dk_16 8 (bs_at BX2_draft_72 5 rfl) rfl
theorem dX2_draft_80 : decode cX2_draft 80 = .ok (.invokestatic 22, 3) := dk_184 0 22 (bs_at BX2_draft_72 6 rfl) rfl
theorem dX2_draft_83 : decode cX2_draft 83 = .ok (.iinc 3 1, 3) := dk_132 3 1 (bs_at BX2_draft_72 7 rfl) rfl
theorem dX2_draft_86 : decode cX2_draft 86 = .ok (.goto (-36), 3) := dk_167 255 220 (bs_at BX2_draft_72 8 rfl) rfl
theorem dX2_draft_89 : decode cX2_draft 89 = .ok (.return_, 1) := dk_177 (bs_at BX2_draft_72 9 rfl)
theorem BX2_keep_0 : bsegs (ByteArray.data cX2_keep |>.toList.drop 0) 0 [(0, [42]), (1, [180, 0, 11]), (4, [42]), (5, [180, 0, 15]), (8, [16, 28]), (10, [104]), (11, [27]), (12, [79]), (13, [42]), (14, [42]), (15, [180, 0, 15]), (18, [4]), (19, [96]), (20, [16, 17]), (22, [112]), (23, [181, 0, 15]), (26, [42]), (27, [16, 16]), (29, [42]), (30, [180, 0, 19]), (33, [4]), (34, [96]), (35, [184, 0, 43]), (38, [181, 0, 19])] = true := by decide +kernel
theorem dX2_keep_0 : decode cX2_keep 0 = .ok (.aload_n 0, 1) := dk_42 (bs_at BX2_keep_0 0 rfl)
theorem dX2_keep_1 : decode cX2_keep 1 = .ok (.getfield 11, 3) := dk_180 0 11 (bs_at BX2_keep_0 1 rfl) rfl
theorem dX2_keep_4 : decode cX2_keep 4 = .ok (.aload_n 0, 1) := dk_42 (bs_at BX2_keep_0 2 rfl)
theorem dX2_keep_5 : decode cX2_keep 5 = .ok (.getfield 15, 3) := dk_180 0 15 (bs_at BX2_keep_0 3 rfl) rfl
theorem dX2_keep_8 : decode cX2_keep 8 = .ok (.bipush 28, 2) := dk_16 28 (bs_at BX2_keep_0 4 rfl) rfl
theorem dX2_keep_10 : decode cX2_keep 10 = .ok (.imul, 1) := dk_104 (bs_at BX2_keep_0 5 rfl)
theorem dX2_keep_11 : decode cX2_keep 11 = .ok (.iload_n 1, 1) := dk_27 (bs_at BX2_keep_0 6 rfl)
theorem dX2_keep_12 : decode cX2_keep 12 = .ok (.iastore, 1) := dk_79 (bs_at BX2_keep_0 7 rfl)
theorem dX2_keep_13 : decode cX2_keep 13 = .ok (.aload_n 0, 1) := dk_42 (bs_at BX2_keep_0 8 rfl)
theorem dX2_keep_14 : decode cX2_keep 14 = .ok (.aload_n 0, 1) := dk_42 (bs_at BX2_keep_0 9 rfl)
theorem dX2_keep_15 : decode cX2_keep 15 = .ok (.getfield 15, 3) := dk_180 0 15 (bs_at BX2_keep_0 10 rfl) rfl
theorem dX2_keep_18 : decode cX2_keep 18 = .ok (.iconst 1, 1) := dk_4 (bs_at BX2_keep_0 11 rfl)
theorem dX2_keep_19 : decode cX2_keep 19 = .ok (.iadd, 1) := dk_96 (bs_at BX2_keep_0 12 rfl)
theorem dX2_keep_20 : decode cX2_keep 20 = .ok (.bipush 17, 2) := dk_16 17 (bs_at BX2_keep_0 13 rfl) rfl
theorem dX2_keep_22 : decode cX2_keep 22 = .ok (.irem, 1) := dk_112 (bs_at BX2_keep_0 14 rfl)
theorem dX2_keep_23 : decode cX2_keep 23 = .ok (.putfield 15, 3) := dk_181 0 15 (bs_at BX2_keep_0 15 rfl) rfl
theorem dX2_keep_26 : decode cX2_keep 26 = .ok (.aload_n 0, 1) := dk_42 (bs_at BX2_keep_0 16 rfl)
theorem dX2_keep_27 : decode cX2_keep 27 = .ok (.bipush 16, 2) := dk_16 16 (bs_at BX2_keep_0 17 rfl) rfl
theorem dX2_keep_29 : decode cX2_keep 29 = .ok (.aload_n 0, 1) := dk_42 (bs_at BX2_keep_0 18 rfl)
theorem dX2_keep_30 : decode cX2_keep 30 = .ok (.getfield 19, 3) := dk_180 0 19 (bs_at BX2_keep_0 19 rfl) rfl
theorem dX2_keep_33 : decode cX2_keep 33 = .ok (.iconst 1, 1) := dk_4 (bs_at BX2_keep_0 20 rfl)
theorem dX2_keep_34 : decode cX2_keep 34 = .ok (.iadd, 1) := dk_96 (bs_at BX2_keep_0 21 rfl)
theorem dX2_keep_35 : decode cX2_keep 35 = .ok (.invokestatic 43, 3) := dk_184 0 43 (bs_at BX2_keep_0 22 rfl) rfl
theorem dX2_keep_38 : decode cX2_keep 38 = .ok (.putfield 19, 3) := dk_181 0 19 (bs_at BX2_keep_0 23 rfl) rfl
theorem BX2_keep_41 : bsegs (ByteArray.data cX2_keep |>.toList.drop 41) 41 [(41, [177])] = true := by decide +kernel
theorem dX2_keep_41 : decode cX2_keep 41 = .ok (.return_, 1) := dk_177 (bs_at BX2_keep_41 0 rfl)
theorem BX2_takeBack_0 : bsegs (ByteArray.data cX2_takeBack |>.toList.drop 0) 0 [(0, [42]), (1, [180, 0, 19]), (4, [154, 0, 5]), (7, [2]), (8, [172]), (9, [42]), (10, [89]), (11, [180, 0, 19]), (14, [4]), (15, [100]), (16, [181, 0, 19]), (19, [42]), (20, [42]), (21, [180, 0, 15]), (24, [16, 17]), (26, [96]), (27, [4]), (28, [100]), (29, [16, 17]), (31, [112]), (32, [181, 0, 15]), (35, [42]), (36, [180, 0, 15]), (39, [16, 28])] = true := by decide +kernel
theorem dX2_takeBack_0 : decode cX2_takeBack 0 = .ok (.aload_n 0, 1) := dk_42 (bs_at BX2_takeBack_0 0 rfl)
theorem dX2_takeBack_1 : decode cX2_takeBack 1 = .ok (.getfield 19, 3) := dk_180 0 19 (bs_at BX2_takeBack_0 1 rfl) rfl
theorem dX2_takeBack_4 : decode cX2_takeBack 4 = .ok (.ifCond .ne 5, 3) := dk_154 0 5 (bs_at BX2_takeBack_0 2 rfl) rfl
theorem dX2_takeBack_7 : decode cX2_takeBack 7 = .ok (.iconst (-1), 1) := dk_2 (bs_at BX2_takeBack_0 3 rfl)
theorem dX2_takeBack_8 : decode cX2_takeBack 8 = .ok (.ireturn, 1) := dk_172 (bs_at BX2_takeBack_0 4 rfl)
theorem dX2_takeBack_9 : decode cX2_takeBack 9 = .ok (.aload_n 0, 1) := dk_42 (bs_at BX2_takeBack_0 5 rfl)
theorem dX2_takeBack_10 : decode cX2_takeBack 10 = .ok (.dup, 1) := dk_89 (bs_at BX2_takeBack_0 6 rfl)
theorem dX2_takeBack_11 : decode cX2_takeBack 11 = .ok (.getfield 19, 3) := dk_180 0 19 (bs_at BX2_takeBack_0 7 rfl) rfl
theorem dX2_takeBack_14 : decode cX2_takeBack 14 = .ok (.iconst 1, 1) := dk_4 (bs_at BX2_takeBack_0 8 rfl)
theorem dX2_takeBack_15 : decode cX2_takeBack 15 = .ok (.isub, 1) := dk_100 (bs_at BX2_takeBack_0 9 rfl)
theorem dX2_takeBack_16 : decode cX2_takeBack 16 = .ok (.putfield 19, 3) := dk_181 0 19 (bs_at BX2_takeBack_0 10 rfl) rfl
theorem dX2_takeBack_19 : decode cX2_takeBack 19 = .ok (.aload_n 0, 1) := dk_42 (bs_at BX2_takeBack_0 11 rfl)
theorem dX2_takeBack_20 : decode cX2_takeBack 20 = .ok (.aload_n 0, 1) := dk_42 (bs_at BX2_takeBack_0 12 rfl)
theorem dX2_takeBack_21 : decode cX2_takeBack 21 = .ok (.getfield 15, 3) := dk_180 0 15 (bs_at BX2_takeBack_0 13 rfl) rfl
theorem dX2_takeBack_24 : decode cX2_takeBack 24 = .ok (.bipush 17, 2) := dk_16 17 (bs_at BX2_takeBack_0 14 rfl) rfl
theorem dX2_takeBack_26 : decode cX2_takeBack 26 = .ok (.iadd, 1) := dk_96 (bs_at BX2_takeBack_0 15 rfl)
theorem dX2_takeBack_27 : decode cX2_takeBack 27 = .ok (.iconst 1, 1) := dk_4 (bs_at BX2_takeBack_0 16 rfl)
theorem dX2_takeBack_28 : decode cX2_takeBack 28 = .ok (.isub, 1) := dk_100 (bs_at BX2_takeBack_0 17 rfl)
theorem dX2_takeBack_29 : decode cX2_takeBack 29 = .ok (.bipush 17, 2) := dk_16 17 (bs_at BX2_takeBack_0 18 rfl) rfl
theorem dX2_takeBack_31 : decode cX2_takeBack 31 = .ok (.irem, 1) := dk_112 (bs_at BX2_takeBack_0 19 rfl)
theorem dX2_takeBack_32 : decode cX2_takeBack 32 = .ok (.putfield 15, 3) := dk_181 0 15 (bs_at BX2_takeBack_0 20 rfl) rfl
theorem dX2_takeBack_35 : decode cX2_takeBack 35 = .ok (.aload_n 0, 1) := dk_42 (bs_at BX2_takeBack_0 21 rfl)
theorem dX2_takeBack_36 : decode cX2_takeBack 36 = .ok (.getfield 15, 3) := dk_180 0 15 (bs_at BX2_takeBack_0 22 rfl) rfl
theorem dX2_takeBack_39 : decode cX2_takeBack 39 = .ok (.bipush 28, 2) := dk_16 28 (bs_at BX2_takeBack_0 23 rfl) rfl
theorem BX2_takeBack_41 : bsegs (ByteArray.data cX2_takeBack |>.toList.drop 41) 41 [(41, [104]), (42, [61]), (43, [43]), (44, [42]), (45, [180, 0, 11]), (48, [28]), (49, [4]), (50, [96]), (51, [46]), (52, [181, 0, 28]), (55, [43]), (56, [180, 0, 33]), (59, [3]), (60, [42]), (61, [180, 0, 11]), (64, [28]), (65, [5]), (66, [96]), (67, [46]), (68, [79]), (69, [43]), (70, [180, 0, 33]), (73, [4]), (74, [42])] = true := by decide +kernel
theorem dX2_takeBack_41 : decode cX2_takeBack 41 = .ok (.imul, 1) := dk_104 (bs_at BX2_takeBack_41 0 rfl)
theorem dX2_takeBack_42 : decode cX2_takeBack 42 = .ok (.istore_n 2, 1) := dk_61 (bs_at BX2_takeBack_41 1 rfl)
theorem dX2_takeBack_43 : decode cX2_takeBack 43 = .ok (.aload_n 1, 1) := dk_43 (bs_at BX2_takeBack_41 2 rfl)
theorem dX2_takeBack_44 : decode cX2_takeBack 44 = .ok (.aload_n 0, 1) := dk_42 (bs_at BX2_takeBack_41 3 rfl)
theorem dX2_takeBack_45 : decode cX2_takeBack 45 = .ok (.getfield 11, 3) := dk_180 0 11 (bs_at BX2_takeBack_41 4 rfl) rfl
theorem dX2_takeBack_48 : decode cX2_takeBack 48 = .ok (.iload_n 2, 1) := dk_28 (bs_at BX2_takeBack_41 5 rfl)
theorem dX2_takeBack_49 : decode cX2_takeBack 49 = .ok (.iconst 1, 1) := dk_4 (bs_at BX2_takeBack_41 6 rfl)
theorem dX2_takeBack_50 : decode cX2_takeBack 50 = .ok (.iadd, 1) := dk_96 (bs_at BX2_takeBack_41 7 rfl)
theorem dX2_takeBack_51 : decode cX2_takeBack 51 = .ok (.iaload, 1) := dk_46 (bs_at BX2_takeBack_41 8 rfl)
theorem dX2_takeBack_52 : decode cX2_takeBack 52 = .ok (.putfield 28, 3) := dk_181 0 28 (bs_at BX2_takeBack_41 9 rfl) rfl
theorem dX2_takeBack_55 : decode cX2_takeBack 55 = .ok (.aload_n 1, 1) := dk_43 (bs_at BX2_takeBack_41 10 rfl)
theorem dX2_takeBack_56 : decode cX2_takeBack 56 = .ok (.getfield 33, 3) := dk_180 0 33 (bs_at BX2_takeBack_41 11 rfl) rfl
theorem dX2_takeBack_59 : decode cX2_takeBack 59 = .ok (.iconst 0, 1) := dk_3 (bs_at BX2_takeBack_41 12 rfl)
theorem dX2_takeBack_60 : decode cX2_takeBack 60 = .ok (.aload_n 0, 1) := dk_42 (bs_at BX2_takeBack_41 13 rfl)
theorem dX2_takeBack_61 : decode cX2_takeBack 61 = .ok (.getfield 11, 3) := dk_180 0 11 (bs_at BX2_takeBack_41 14 rfl) rfl
theorem dX2_takeBack_64 : decode cX2_takeBack 64 = .ok (.iload_n 2, 1) := dk_28 (bs_at BX2_takeBack_41 15 rfl)
theorem dX2_takeBack_65 : decode cX2_takeBack 65 = .ok (.iconst 2, 1) := dk_5 (bs_at BX2_takeBack_41 16 rfl)
theorem dX2_takeBack_66 : decode cX2_takeBack 66 = .ok (.iadd, 1) := dk_96 (bs_at BX2_takeBack_41 17 rfl)
theorem dX2_takeBack_67 : decode cX2_takeBack 67 = .ok (.iaload, 1) := dk_46 (bs_at BX2_takeBack_41 18 rfl)
theorem dX2_takeBack_68 : decode cX2_takeBack 68 = .ok (.iastore, 1) := dk_79 (bs_at BX2_takeBack_41 19 rfl)
theorem dX2_takeBack_69 : decode cX2_takeBack 69 = .ok (.aload_n 1, 1) := dk_43 (bs_at BX2_takeBack_41 20 rfl)
theorem dX2_takeBack_70 : decode cX2_takeBack 70 = .ok (.getfield 33, 3) := dk_180 0 33 (bs_at BX2_takeBack_41 21 rfl) rfl
theorem dX2_takeBack_73 : decode cX2_takeBack 73 = .ok (.iconst 1, 1) := dk_4 (bs_at BX2_takeBack_41 22 rfl)
theorem dX2_takeBack_74 : decode cX2_takeBack 74 = .ok (.aload_n 0, 1) := dk_42 (bs_at BX2_takeBack_41 23 rfl)
theorem BX2_takeBack_75 : bsegs (ByteArray.data cX2_takeBack |>.toList.drop 75) 75 [(75, [180, 0, 11]), (78, [28]), (79, [6]), (80, [96]), (81, [46]), (82, [79]), (83, [3]), (84, [62]), (85, [29]), (86, [6]), (87, [162, 0, 37]), (90, [42]), (91, [180, 0, 11]), (94, [28]), (95, [7]), (96, [96]), (97, [29]), (98, [16, 8]), (100, [104]), (101, [96]), (102, [43]), (103, [180, 0, 36]), (106, [29]), (107, [184, 0, 39])] = true := by decide +kernel
theorem dX2_takeBack_75 : decode cX2_takeBack 75 = .ok (.getfield 11, 3) := dk_180 0 11 (bs_at BX2_takeBack_75 0 rfl) rfl
theorem dX2_takeBack_78 : decode cX2_takeBack 78 = .ok (.iload_n 2, 1) := dk_28 (bs_at BX2_takeBack_75 1 rfl)
theorem dX2_takeBack_79 : decode cX2_takeBack 79 = .ok (.iconst 3, 1) := dk_6 (bs_at BX2_takeBack_75 2 rfl)
theorem dX2_takeBack_80 : decode cX2_takeBack 80 = .ok (.iadd, 1) := dk_96 (bs_at BX2_takeBack_75 3 rfl)
theorem dX2_takeBack_81 : decode cX2_takeBack 81 = .ok (.iaload, 1) := dk_46 (bs_at BX2_takeBack_75 4 rfl)
theorem dX2_takeBack_82 : decode cX2_takeBack 82 = .ok (.iastore, 1) := dk_79 (bs_at BX2_takeBack_75 5 rfl)
theorem dX2_takeBack_83 : decode cX2_takeBack 83 = .ok (.iconst 0, 1) := dk_3 (bs_at BX2_takeBack_75 6 rfl)
theorem dX2_takeBack_84 : decode cX2_takeBack 84 = .ok (.istore_n 3, 1) := dk_62 (bs_at BX2_takeBack_75 7 rfl)
theorem dX2_takeBack_85 : decode cX2_takeBack 85 = .ok (.iload_n 3, 1) := dk_29 (bs_at BX2_takeBack_75 8 rfl)
theorem dX2_takeBack_86 : decode cX2_takeBack 86 = .ok (.iconst 3, 1) := dk_6 (bs_at BX2_takeBack_75 9 rfl)
theorem dX2_takeBack_87 : decode cX2_takeBack 87 = .ok (.if_icmp .ge 37, 3) := dk_162 0 37 (bs_at BX2_takeBack_75 10 rfl) rfl
theorem dX2_takeBack_90 : decode cX2_takeBack 90 = .ok (.aload_n 0, 1) := dk_42 (bs_at BX2_takeBack_75 11 rfl)
theorem dX2_takeBack_91 : decode cX2_takeBack 91 = .ok (.getfield 11, 3) := dk_180 0 11 (bs_at BX2_takeBack_75 12 rfl) rfl
theorem dX2_takeBack_94 : decode cX2_takeBack 94 = .ok (.iload_n 2, 1) := dk_28 (bs_at BX2_takeBack_75 13 rfl)
theorem dX2_takeBack_95 : decode cX2_takeBack 95 = .ok (.iconst 4, 1) := dk_7 (bs_at BX2_takeBack_75 14 rfl)
theorem dX2_takeBack_96 : decode cX2_takeBack 96 = .ok (.iadd, 1) := dk_96 (bs_at BX2_takeBack_75 15 rfl)
theorem dX2_takeBack_97 : decode cX2_takeBack 97 = .ok (.iload_n 3, 1) := dk_29 (bs_at BX2_takeBack_75 16 rfl)
theorem dX2_takeBack_98 : decode cX2_takeBack 98 = .ok (.bipush 8, 2) := dk_16 8 (bs_at BX2_takeBack_75 17 rfl) rfl
theorem dX2_takeBack_100 : decode cX2_takeBack 100 = .ok (.imul, 1) := dk_104 (bs_at BX2_takeBack_75 18 rfl)
theorem dX2_takeBack_101 : decode cX2_takeBack 101 = .ok (.iadd, 1) := dk_96 (bs_at BX2_takeBack_75 19 rfl)
theorem dX2_takeBack_102 : decode cX2_takeBack 102 = .ok (.aload_n 1, 1) := dk_43 (bs_at BX2_takeBack_75 20 rfl)
theorem dX2_takeBack_103 : decode cX2_takeBack 103 = .ok (.getfield 36, 3) := dk_180 0 36 (bs_at BX2_takeBack_75 21 rfl) rfl
theorem dX2_takeBack_106 : decode cX2_takeBack 106 = .ok (.iload_n 3, 1) := dk_29 (bs_at BX2_takeBack_75 22 rfl)
theorem dX2_takeBack_107 : decode cX2_takeBack 107 = .ok (.invokestatic 39, 3) := dk_184 0 39 (bs_at BX2_takeBack_75 23 rfl) rfl
theorem BX2_takeBack_110 : bsegs (ByteArray.data cX2_takeBack |>.toList.drop 110) 110 [(110, [16, 8]), (112, [104]), (113, [16, 8]), (115, [184, 0, 22]), (118, [132, 3, 1]), (121, [167, 255, 220]), (124, [42]), (125, [180, 0, 11]), (128, [28]), (129, [46]), (130, [172])] = true := by decide +kernel
theorem dX2_takeBack_110 : decode cX2_takeBack 110 = .ok (.bipush 8, 2) := dk_16 8 (bs_at BX2_takeBack_110 0 rfl) rfl
theorem dX2_takeBack_112 : decode cX2_takeBack 112 = .ok (.imul, 1) := dk_104 (bs_at BX2_takeBack_110 1 rfl)
theorem dX2_takeBack_113 : decode cX2_takeBack 113 = .ok (.bipush 8, 2) := dk_16 8 (bs_at BX2_takeBack_110 2 rfl) rfl
theorem dX2_takeBack_115 : decode cX2_takeBack 115 = .ok (.invokestatic 22, 3) := dk_184 0 22 (bs_at BX2_takeBack_110 3 rfl) rfl
theorem dX2_takeBack_118 : decode cX2_takeBack 118 = .ok (.iinc 3 1, 3) := dk_132 3 1 (bs_at BX2_takeBack_110 4 rfl) rfl
theorem dX2_takeBack_121 : decode cX2_takeBack 121 = .ok (.goto (-36), 3) := dk_167 255 220 (bs_at BX2_takeBack_110 5 rfl) rfl
theorem dX2_takeBack_124 : decode cX2_takeBack 124 = .ok (.aload_n 0, 1) := dk_42 (bs_at BX2_takeBack_110 6 rfl)
theorem dX2_takeBack_125 : decode cX2_takeBack 125 = .ok (.getfield 11, 3) := dk_180 0 11 (bs_at BX2_takeBack_110 7 rfl) rfl
theorem dX2_takeBack_128 : decode cX2_takeBack 128 = .ok (.iload_n 2, 1) := dk_28 (bs_at BX2_takeBack_110 8 rfl)
theorem dX2_takeBack_129 : decode cX2_takeBack 129 = .ok (.iaload, 1) := dk_46 (bs_at BX2_takeBack_110 9 rfl)
theorem dX2_takeBack_130 : decode cX2_takeBack 130 = .ok (.ireturn, 1) := dk_172 (bs_at BX2_takeBack_110 10 rfl)
theorem ggX2_draft_X2_changing : GoodIn wsX2_draft wsX2_changing := gi_ch ch_X2_draft ch_X2_changing (by decide +kernel)
theorem gX2_draft_X2_changing : GoodIn wsX2_draft (va_wsS RX2 39 yX2_changing wsX2_changing) := gi_ch ch_X2_draft (ch_s [595, 596, 153] rfl ch_X2_changing) (by decide +kernel)
theorem ggX2_takeBack_X2_changing : GoodIn wsX2_takeBack wsX2_changing := gi_ch ch_X2_takeBack ch_X2_changing (by decide +kernel)
theorem gX2_takeBack_X2_changing : GoodIn wsX2_takeBack (va_wsS RX2 39 yX2_changing wsX2_changing) := gi_ch ch_X2_takeBack (ch_s [595, 596, 153] rfl ch_X2_changing) (by decide +kernel)
set_option maxRecDepth 100000 in
noncomputable def E_w_clear (dr : Int32) (kp : Int32) : Unit :=
  (() : Unit)
set_option maxHeartbeats 4000000 in
set_option maxRecDepth 100000 in
theorem w_clear (l : Launch) (D : va_G) (K : Nat → ClassId) (a0 : Nat) (a2 : Nat) (dr : Int32) (kp : Int32) (sz : Nat) : Met l yX2_clear wsX2_clear ({ frames := 0, cells := 0, slots := 0, locals := 0 }) (va_Pc [.ref a0] (Pre D K [(a0, .inr (2, [.ref a2, .int dr, .int kp]))] sz)) (va_Qv (S := Su) (fun (u : Su) => (() = E_w_clear dr kp) ∧ True) (fun u t => Wd D (va_A [(a0, .inr (2, [.ref a2, .int dr, .int kp]))] sz) ((fun u => [(a0, .inr (2, [.ref a2, .int dr, .int 0]))]) u) t) (va_A [(a0, .inr (2, [.ref a2, .int dr, .int kp]))] sz)) 0 0 (va_A [(a0, .inr (2, [.ref a2, .int dr, .int kp]))] sz) := by
  refine Met.ofW (cc := cX2_clear) (maxL := 1) (ret := none) (by decide +kernel) rfl ?_
  intro p e s m args below meth c s₁ B hml hv
  obtain ⟨rfl, hsz, hP, hK, hD0, hN⟩ := hv
  have hx := B.exec
  have hb := B.bytes
  have hr := B.returns
  have hts := atoms_spec (ws := wsX2_clear) B.pre
  have hown : s.vm.findClass RX2 = some m.cls := findClass_of_methodNamed B.named
  have hlocks := B.notSynchronized
  subst hsz
  have hD := hD0.self (sz := s.heap.size)
  generalize hAe : va_A [(a0, .inr (2, [.ref a2, .int dr, .int kp]))] s.heap.size = A at hD ⊢
  have hA : ∀ q : Nat, s.heap.size ≤ q → A q := fun q h => by rw [← hAe]; exact Or.inr h
  clear hAe
  have hS : va_S A s.heap s.heap [] := va_S.rf
  replace hP : va_P D vwCl [(a0, .inr (2, [.ref a2, .int dr, .int kp]))] s.heap := hP
  have hl := lv_entry [.ref a0] (n := 1) (Nat.le_of_ble_eq_true rfl)
  rw [lg_entry_eq]
  generalize (lg_sl [.ref a0] ++ List.replicate (1 - (lg_sl [.ref a0]).length) Slot.unset).toArray = ls at hl ⊢
  have hl : lv_has ls 1 [(0, .ref a0)] := hl
  have hw2 : ∀ w ∈ wsX20, w ∈ wsX2_clear := fun w h => (List.mem_cons_of_mem _ (List.mem_append_right _ h))
  generalize hQ : MQ below _ _ s _ _ _ = Q
  have hE := E_w_clear.eq_def dr kp
  refine lv_aload_n hx hb dX2_clear_0 rfl (lv_at hl 0 rfl) ?_
  refine lv_iconst (v := 0) hx hb dX2_clear_1 (by decide +kernel) ?_
  refine va_put (ci := 2) (v := .int 0) (ty := .int) (C := RX2) (T := TX2) (N := 3) hx hb hts hw2 tyX2 tyX2_ok nmX2 hown hK hP hD hS 0 rfl rfl 2 (by decide +kernel) (hts _ mm_X2_clear_280) (fun _ h9 => h9) rfl (by decide +kernel) (by first | rfl | decide) (by first | rfl | decide) (Nat.le_of_ble_eq_true rfl) dX2_clear_2 (fun H locs hP0 hD0 hS0 => ?_)
  clear hP hD hS
  have hP := hP0
  have hD := hD0
  have hS := hS0
  clear hP0 hD0 hS0
  replace hP : va_P D vwCl [(a0, .inr (2, [.ref a2, .int dr, .int 0]))] H := hP
  replace hD : va_D A [(a0, .inr (2, [.ref a2, .int dr, .int 0]))] := hD
  rw [← hQ]
  have hP9 := hP.sub (ws' := [(a0, .inr (2, [.ref a2, .int dr, .int 0]))]) [0] rfl
  have hD9 := hD.sub (ws' := [(a0, .inr (2, [.ref a2, .int dr, .int 0]))]) [0] (by decide +kernel) rfl
  exact W.vret hx hb hr (fun t ht hW => ⟨⟨((fun _ => 0, fun _ => fun _ => 0, fun _ => fun _ => 0, fun _ => 0, fun _ => 0, fun _ => fun _ => none) : Su), rfl, ⟨hE.symm, trivial⟩, (⟨by rw [ht]; exact hP9, hD9⟩ : Wd D A _ t)⟩, hS.F ht⟩) hS.2.2 dX2_clear_5
set_option maxRecDepth 100000 in
noncomputable def E_w_hbecome (f : Nat → Int32) (dr : Int32) (kp : Int32) (f2 : Nat → Int32) : (Nat → Int32) :=
  Lt (va_cpy (α := Int32) f2 f (0 : Int32).toNatClampNeg (0 : Int32).toNatClampNeg (476 : Int32).toNatClampNeg : Nat → Int32) (fun f_63 => (f_63 : (Nat → Int32)))
set_option maxHeartbeats 4000000 in
set_option maxRecDepth 100000 in
theorem w_hbecome (l : Launch) (D : va_G) (K : Nat → ClassId) (a0 : Nat) (b0 : Nat) (a2 : Nat) (h_1 : Value) (h_2 : Value) (f : Nat → Int32) (b2 : Nat) (dr : Int32) (kp : Int32) (f2 : Nat → Int32) (sz : Nat) (zdr : 0 ≤ dr.toInt ∧ dr.toInt ≤ 16) (zkp : 0 ≤ kp.toInt ∧ kp.toInt ≤ 16) : Met l yX2_become wsX2_become ({ frames := 1, cells := 0, slots := 0, locals := 40 }) (va_Pc [.ref a0, .ref b0] (Pre D K [(a0, .inr (2, [.ref a2, h_1, h_2])), (a2, .inl (K 0, 476, .inl f)), (b0, .inr (2, [.ref b2, .int dr, .int kp])), (b2, .inl (K 0, 476, .inl f2))] sz)) (va_Qv (S := Su) (fun (u : Su) => ((u.2.1 0) = E_w_hbecome f dr kp f2) ∧ True) (fun u t => Wd D (va_A [(a0, .inr (2, [.ref a2, h_1, h_2])), (a2, .inl (K 0, 476, .inl f)), (b0, .inr (2, [.ref b2, .int dr, .int kp])), (b2, .inl (K 0, 476, .inl f2))] sz) ((fun u => [(a0, .inr (2, [.ref a2, .int dr, .int kp])), (a2, .inl (K 0, 476, .inl (u.2.1 0))), (b0, .inr (2, [.ref b2, .int dr, .int kp])), (b2, .inl (K 0, 476, .inl f2))]) u) t) (va_A [(a0, .inr (2, [.ref a2, h_1, h_2])), (a2, .inl (K 0, 476, .inl f)), (b0, .inr (2, [.ref b2, .int dr, .int kp])), (b2, .inl (K 0, 476, .inl f2))] sz)) 0 0 (va_A [(a0, .inr (2, [.ref a2, h_1, h_2])), (a2, .inl (K 0, 476, .inl f)), (b0, .inr (2, [.ref b2, .int dr, .int kp])), (b2, .inl (K 0, 476, .inl f2))] sz) := by
  refine Met.ofW (cc := cX2_become) (maxL := 2) (ret := none) (by decide +kernel) rfl ?_
  intro p e s m args below meth c s₁ B hml hv
  obtain ⟨rfl, hsz, hP, hK, hD0, hN⟩ := hv
  have hx := B.exec
  have hb := B.bytes
  have hr := B.returns
  have hts := atoms_spec (ws := wsX2_become) B.pre
  have hown : s.vm.findClass RX2 = some m.cls := findClass_of_methodNamed B.named
  have hlocks := B.notSynchronized
  subst hsz
  have hD := hD0.self (sz := s.heap.size)
  generalize hAe : va_A [(a0, .inr (2, [.ref a2, h_1, h_2])), (a2, .inl (K 0, 476, .inl f)), (b0, .inr (2, [.ref b2, .int dr, .int kp])), (b2, .inl (K 0, 476, .inl f2))] s.heap.size = A at hD ⊢
  have hA : ∀ q : Nat, s.heap.size ≤ q → A q := fun q h => by rw [← hAe]; exact Or.inr h
  clear hAe
  have hS : va_S A s.heap s.heap [] := va_S.rf
  replace hP : va_P D vwCl [(a0, .inr (2, [.ref a2, h_1, h_2])), (a2, .inl (K 0, 476, .inl f)), (b0, .inr (2, [.ref b2, .int dr, .int kp])), (b2, .inl (K 0, 476, .inl f2))] s.heap := hP
  have hl := lv_entry [.ref a0, .ref b0] (n := 2) (Nat.le_of_ble_eq_true rfl)
  rw [lg_entry_eq]
  generalize (lg_sl [.ref a0, .ref b0] ++ List.replicate (2 - (lg_sl [.ref a0, .ref b0]).length) Slot.unset).toArray = ls at hl ⊢
  have hl : lv_has ls 2 [(0, .ref a0), (1, .ref b0)] := hl
  have hw2 : ∀ w ∈ wsX20, w ∈ wsX2_become := fun w h => (List.mem_cons_of_mem _ (List.mem_append_right _ h))
  generalize hQ : MQ below _ _ s _ _ _ = Q
  have hE := E_w_hbecome.eq_def f dr kp f2
  refine lv_aload_n hx hb dX2_become_0 rfl (lv_at hl 1 rfl) ?_
  refine va_get (ci := 2) (v := .ref b2) (C := RX2) (T := TX2) (N := 3) hx hb hts hw2 hown hK hP 2 rfl rfl 0 (by decide +kernel) (hts _ mm_X2_become_278) (fun _ h9 => h9) rfl dX2_become_1 ?_
  refine lv_iconst (v := 0) hx hb dX2_become_4 (by decide +kernel) ?_
  refine lv_aload_n hx hb dX2_become_5 rfl (lv_at hl 0 rfl) ?_
  refine va_get (ci := 2) (v := .ref a2) (C := RX2) (T := TX2) (N := 3) hx hb hts hw2 hown hK hP 0 rfl rfl 0 (by decide +kernel) (hts _ mm_X2_become_278) (fun _ h9 => h9) rfl dX2_become_6 ?_
  refine lv_iconst (v := 0) hx hb dX2_become_9 (by decide +kernel) ?_
  refine lv_aload_n hx hb dX2_become_10 rfl (lv_at hl 0 rfl) ?_
  refine va_get (ci := 2) (v := .ref a2) (C := RX2) (T := TX2) (N := 3) hx hb hts hw2 hown hK hP 0 rfl rfl 0 (by decide +kernel) (hts _ mm_X2_become_278) (fun _ h9 => h9) rfl dX2_become_11 ?_
  refine va_alen (v := 476) hx hb hK hP 1 0 rfl rfl rfl dX2_become_14 ?_
  refine va_copyi hx hb (hml.trans hl.1.symm) hown (hts _ mm_X2_become_586) (hts _ mm_X2_become_571) (hts _ mm_X2_become_570) (hts _ mm_X2_become_163) hK hP hD hS 3 1 0 0 rfl rfl rfl rfl rfl (by decide +kernel) (by decide +kernel) (by decide +kernel) (by decide +kernel) (by decide +kernel) (fun _ _ => rfl) (Nat.le_of_ble_eq_true rfl) (by decide +kernel) dX2_become_15 (fun H locs hP0 hD0 hS0 => ?_)
  clear hP hD hS
  have hP := hP0
  have hD := hD0
  have hS := hS0
  clear hP0 hD0 hS0
  generalize hf_63 : (va_cpy (α := Int32) f2 f (0 : Int32).toNatClampNeg (0 : Int32).toNatClampNeg (476 : Int32).toNatClampNeg) = f_63 at hP hD
  replace hE := hE.trans (Lt_in hf_63.symm)
  replace hP : va_P D vwCl [(a0, .inr (2, [.ref a2, h_1, h_2])), (a2, .inl (K 0, 476, .inl f_63)), (b0, .inr (2, [.ref b2, .int dr, .int kp])), (b2, .inl (K 0, 476, .inl f2))] H := hP
  replace hD : va_D A [(a0, .inr (2, [.ref a2, h_1, h_2])), (a2, .inl (K 0, 476, .inl f_63)), (b0, .inr (2, [.ref b2, .int dr, .int kp])), (b2, .inl (K 0, 476, .inl f2))] := hD
  refine lv_aload_n hx hb dX2_become_18 rfl (lv_at hl 0 rfl) ?_
  refine lv_aload_n hx hb dX2_become_19 rfl (lv_at hl 1 rfl) ?_
  refine va_get (ci := 2) (v := .int dr) (C := RX2) (T := TX2) (N := 3) hx hb hts hw2 hown hK hP 2 rfl rfl 1 (by decide +kernel) (hts _ mm_X2_become_279) (fun _ h9 => h9) rfl dX2_become_20 ?_
  refine va_put (ci := 2) (v := .int dr) (ty := .int) (C := RX2) (T := TX2) (N := 3) hx hb hts hw2 tyX2 tyX2_ok nmX2 hown hK hP hD hS 0 rfl rfl 1 (by decide +kernel) (hts _ mm_X2_become_279) (fun _ h9 => h9) rfl (by decide +kernel) (by first | rfl | decide) (by first | rfl | decide) (Nat.le_of_ble_eq_true rfl) dX2_become_23 (fun H locs hP0 hD0 hS0 => ?_)
  clear hP hD hS
  have hP := hP0
  have hD := hD0
  have hS := hS0
  clear hP0 hD0 hS0
  replace hP : va_P D vwCl [(a0, .inr (2, [.ref a2, .int dr, h_2])), (a2, .inl (K 0, 476, .inl f_63)), (b0, .inr (2, [.ref b2, .int dr, .int kp])), (b2, .inl (K 0, 476, .inl f2))] H := hP
  replace hD : va_D A [(a0, .inr (2, [.ref a2, .int dr, h_2])), (a2, .inl (K 0, 476, .inl f_63)), (b0, .inr (2, [.ref b2, .int dr, .int kp])), (b2, .inl (K 0, 476, .inl f2))] := hD
  refine lv_aload_n hx hb dX2_become_26 rfl (lv_at hl 0 rfl) ?_
  refine lv_aload_n hx hb dX2_become_27 rfl (lv_at hl 1 rfl) ?_
  refine va_get (ci := 2) (v := .int kp) (C := RX2) (T := TX2) (N := 3) hx hb hts hw2 hown hK hP 2 rfl rfl 2 (by decide +kernel) (hts _ mm_X2_become_280) (fun _ h9 => h9) rfl dX2_become_28 ?_
  refine va_put (ci := 2) (v := .int kp) (ty := .int) (C := RX2) (T := TX2) (N := 3) hx hb hts hw2 tyX2 tyX2_ok nmX2 hown hK hP hD hS 0 rfl rfl 2 (by decide +kernel) (hts _ mm_X2_become_280) (fun _ h9 => h9) rfl (by decide +kernel) (by first | rfl | decide) (by first | rfl | decide) (Nat.le_of_ble_eq_true rfl) dX2_become_31 (fun H locs hP0 hD0 hS0 => ?_)
  clear hP hD hS
  have hP := hP0
  have hD := hD0
  have hS := hS0
  clear hP0 hD0 hS0
  replace hP : va_P D vwCl [(a0, .inr (2, [.ref a2, .int dr, .int kp])), (a2, .inl (K 0, 476, .inl f_63)), (b0, .inr (2, [.ref b2, .int dr, .int kp])), (b2, .inl (K 0, 476, .inl f2))] H := hP
  replace hD : va_D A [(a0, .inr (2, [.ref a2, .int dr, .int kp])), (a2, .inl (K 0, 476, .inl f_63)), (b0, .inr (2, [.ref b2, .int dr, .int kp])), (b2, .inl (K 0, 476, .inl f2))] := hD
  rw [← hQ]
  have hP9 := hP.sub (ws' := [(a0, .inr (2, [.ref a2, .int dr, .int kp])), (a2, .inl (K 0, 476, .inl f_63)), (b0, .inr (2, [.ref b2, .int dr, .int kp])), (b2, .inl (K 0, 476, .inl f2))]) [0, 1, 2, 3] rfl
  have hD9 := hD.sub (ws' := [(a0, .inr (2, [.ref a2, .int dr, .int kp])), (a2, .inl (K 0, 476, .inl f_63)), (b0, .inr (2, [.ref b2, .int dr, .int kp])), (b2, .inl (K 0, 476, .inl f2))]) [0, 1, 2, 3] (by decide +kernel) rfl
  exact W.vret hx hb hr (fun t ht hW => ⟨⟨((fun _ => 0, fun i => match i with | _ => f_63, fun _ => fun _ => 0, fun _ => 0, fun _ => 0, fun _ => fun _ => none) : Su), rfl, ⟨hE.symm, trivial⟩, (⟨by rw [ht]; exact hP9, hD9⟩ : Wd D A _ t)⟩, hS.F ht⟩) hS.2.2 dX2_become_34
set_option maxRecDepth 100000 in
noncomputable def E_w_changing (x : Int32) : Int32 :=
  if x = 0 then ((2 : Int32)) else (if x = 1 then ((5 : Int32)) else ((6 : Int32)))
set_option maxHeartbeats 4000000 in
set_option maxRecDepth 100000 in
theorem w_changing (l : Launch) (D : va_G) (K : Nat → ClassId) (x : Int32) (sz : Nat) : Met l yX2_changing wsX2_changing ({ frames := 0, cells := 0, slots := 0, locals := 0 }) (va_Pc [.int x] (Pre D K [] sz)) (vp_Si (fun r : Int32 => (2 ≤ r.toInt ∧ r.toInt ≤ 6) ∧ (r = E_w_changing x) ∧ True)) 0 0 (fun _ => False) := by
  refine Met.ofW (cc := cX2_changing) (maxL := 1) (ret := (some .int)) (by decide +kernel) rfl ?_
  intro p e s m args below meth c s₁ B hml hv
  obtain ⟨rfl, hsz, hP, hK, hD0, hN⟩ := hv
  have hx := B.exec
  have hb := B.bytes
  have hr := B.returns
  have hts := atoms_spec (ws := wsX2_changing) B.pre
  have hown : s.vm.findClass RX2 = some m.cls := findClass_of_methodNamed B.named
  have hlocks := B.notSynchronized
  subst hsz
  have hD := hD0
  replace hP : va_P D vwCl [] s.heap := hP
  have hl := lv_entry [.int x] (n := 1) (Nat.le_of_ble_eq_true rfl)
  rw [lg_entry_eq]
  generalize (lg_sl [.int x] ++ List.replicate (1 - (lg_sl [.int x]).length) Slot.unset).toArray = ls at hl ⊢
  have hl : lv_has ls 1 [(0, .int x)] := hl
  generalize hQ : MQ below _ _ s _ _ _ = Q
  have hE := E_w_changing.eq_def x
  refine lv_iload_n hx hb dX2_changing_0 rfl (lv_at hl 0 rfl) ?_
  refine lv_if_ne (tgt := 8) hx hb dX2_changing_1 (by decide +kernel) (fun c_65 => ?_) (fun c_65 => ?_)
  · have c_65i := i_ne (x := x.toInt) (y := 0) rfl rfl c_65
    replace hE := hE.trans (if_neg c_65)
    refine lv_iload_n hx hb dX2_changing_8 rfl (lv_at hl 0 rfl) ?_
    refine lv_iconst (v := 1) hx hb dX2_changing_9 (by decide +kernel) ?_
    refine lv_icmp_ne (tgt := 17) hx hb dX2_changing_10 (by decide +kernel) (fun c_66 => ?_) (fun c_66 => ?_)
    · have c_66i := i_ne (x := x.toInt) (y := 1) rfl rfl c_66
      replace hE := hE.trans (if_neg c_66)
      refine lv_bipush (v := 6) hx hb dX2_changing_17 (by decide +kernel) ?_
      rw [← hQ]
      exact W.iret (v := 6) hx hb hr (fun t ht hW => ⟨_, rfl, ⟨(show 2 ≤ (6 : Int32).toInt ∧ (6 : Int32).toInt ≤ 6 by decide), hE.symm, trivial⟩, ht⟩) (fun q hq => by cases hq) dX2_changing_19
    · have c_66i := i_eq (x := x.toInt) (y := 1) rfl rfl c_66
      replace hE := hE.trans (if_pos c_66)
      refine lv_iconst (v := 5) hx hb dX2_changing_13 (by decide +kernel) ?_
      refine lv_goto (tgt := 19) hx hb dX2_changing_14 (by decide +kernel) ?_
      rw [← hQ]
      exact W.iret (v := 5) hx hb hr (fun t ht hW => ⟨_, rfl, ⟨(show 2 ≤ (5 : Int32).toInt ∧ (5 : Int32).toInt ≤ 6 by decide), hE.symm, trivial⟩, ht⟩) (fun q hq => by cases hq) dX2_changing_19
  · have c_65i := i_eq (x := x.toInt) (y := 0) rfl rfl c_65
    replace hE := hE.trans (if_pos c_65)
    refine lv_iconst (v := 2) hx hb dX2_changing_4 (by decide +kernel) ?_
    refine lv_goto (tgt := 19) hx hb dX2_changing_5 (by decide +kernel) ?_
    rw [← hQ]
    exact W.iret (v := 2) hx hb hr (fun t ht hW => ⟨_, rfl, ⟨(show 2 ≤ (2 : Int32).toInt ∧ (2 : Int32).toInt ≤ 6 by decide), hE.symm, trivial⟩, ht⟩) (fun q hq => by cases hq) dX2_changing_19
set_option maxRecDepth 100000 in
noncomputable def E_w_changingX (x : Int32) : Int32 :=
  if x = 0 then ((2 : Int32)) else (if x = 1 then ((5 : Int32)) else ((6 : Int32)))
set_option maxHeartbeats 4000000 in
set_option maxRecDepth 100000 in
theorem w_changingX (l : Launch) (D : va_G) (K : Nat → ClassId) (X : Int) (x : Int32) (sz : Nat) (qx : x.toInt = X) : Met l yX2_changing wsX2_changing ({ frames := 0, cells := 0, slots := 0, locals := 0 }) (va_Pc [.int x] (Pre D K [] sz)) (vp_Si (fun r : Int32 => ((r = 2 ∧ X = 0) ∨ (r = 5 ∧ X = 1) ∨ (r = 6 ∧ (X < 0 ∨ 1 < X))) ∧ (r = E_w_changingX x) ∧ True)) 0 0 (fun _ => False) := by
  refine Met.ofW (cc := cX2_changing) (maxL := 1) (ret := (some .int)) (by decide +kernel) rfl ?_
  intro p e s m args below meth c s₁ B hml hv
  obtain ⟨rfl, hsz, hP, hK, hD0, hN⟩ := hv
  have hx := B.exec
  have hb := B.bytes
  have hr := B.returns
  have hts := atoms_spec (ws := wsX2_changing) B.pre
  have hown : s.vm.findClass RX2 = some m.cls := findClass_of_methodNamed B.named
  have hlocks := B.notSynchronized
  subst hsz
  have hD := hD0
  replace hP : va_P D vwCl [] s.heap := hP
  have hl := lv_entry [.int x] (n := 1) (Nat.le_of_ble_eq_true rfl)
  rw [lg_entry_eq]
  generalize (lg_sl [.int x] ++ List.replicate (1 - (lg_sl [.int x]).length) Slot.unset).toArray = ls at hl ⊢
  have hl : lv_has ls 1 [(0, .int x)] := hl
  generalize hQ : MQ below _ _ s _ _ _ = Q
  have hE := E_w_changingX.eq_def x
  refine lv_iload_n hx hb dX2_changing_0 rfl (lv_at hl 0 rfl) ?_
  refine lv_if_ne (tgt := 8) hx hb dX2_changing_1 (by decide +kernel) (fun c_65 => ?_) (fun c_65 => ?_)
  · have c_65i := i_ne (x := X) (y := 0) qx rfl c_65
    replace hE := hE.trans (if_neg c_65)
    refine lv_iload_n hx hb dX2_changing_8 rfl (lv_at hl 0 rfl) ?_
    refine lv_iconst (v := 1) hx hb dX2_changing_9 (by decide +kernel) ?_
    refine lv_icmp_ne (tgt := 17) hx hb dX2_changing_10 (by decide +kernel) (fun c_66 => ?_) (fun c_66 => ?_)
    · have c_66i := i_ne (x := X) (y := 1) qx rfl c_66
      replace hE := hE.trans (if_neg c_66)
      refine lv_bipush (v := 6) hx hb dX2_changing_17 (by decide +kernel) ?_
      rw [← hQ]
      exact W.iret (v := 6) hx hb hr (fun t ht hW => ⟨_, rfl, ⟨(by first | exact Or.inr (Or.inr (⟨rfl, by first | omega | decide | (subst_vars; assumption)⟩))), hE.symm, trivial⟩, ht⟩) (fun q hq => by cases hq) dX2_changing_19
    · have c_66i := i_eq (x := X) (y := 1) qx rfl c_66
      replace hE := hE.trans (if_pos c_66)
      refine lv_iconst (v := 5) hx hb dX2_changing_13 (by decide +kernel) ?_
      refine lv_goto (tgt := 19) hx hb dX2_changing_14 (by decide +kernel) ?_
      rw [← hQ]
      exact W.iret (v := 5) hx hb hr (fun t ht hW => ⟨_, rfl, ⟨(by first | exact Or.inr (Or.inl ⟨rfl, by first | omega | decide | (subst_vars; assumption)⟩)), hE.symm, trivial⟩, ht⟩) (fun q hq => by cases hq) dX2_changing_19
  · have c_65i := i_eq (x := X) (y := 0) qx rfl c_65
    replace hE := hE.trans (if_pos c_65)
    refine lv_iconst (v := 2) hx hb dX2_changing_4 (by decide +kernel) ?_
    refine lv_goto (tgt := 19) hx hb dX2_changing_5 (by decide +kernel) ?_
    rw [← hQ]
    exact W.iret (v := 2) hx hb hr (fun t ht hW => ⟨_, rfl, ⟨(by first | exact Or.inl ⟨rfl, by first | omega | decide | (subst_vars; assumption)⟩), hE.symm, trivial⟩, ht⟩) (fun q hq => by cases hq) dX2_changing_19
set_option maxRecDepth 100000 in
noncomputable def E_w_draft_l50 (f1 : Nat → Int32) (x_241 : Int32) (rec_319 : Int32 → (Nat → Int32) → ((Nat → Int32))) (v_295 : Int32) (f_296 : Nat → Int32) : (Nat → Int32) :=
  if 3 ≤ v_295 then ((f_296 : (Nat → Int32))) else (Lt (E_w_changing v_295) (fun r_322 => Lt (r_322 * 8 : Int32) (fun x_325 => Lt (x_241 + 4 : Int32) (fun x_326 => Lt (v_295 * 8 : Int32) (fun x_327 => Lt (x_326 + x_327 : Int32) (fun x_328 => Lt (va_cpy (α := Int32) f1 f_296 (x_325 : Int32).toNatClampNeg (x_328 : Int32).toNatClampNeg (8 : Int32).toNatClampNeg : Nat → Int32) (fun f_329 => Lt (v_295 + Int32.ofInt 1 : Int32) (fun x_330 => rec_319 x_330 f_329))))))))
set_option maxRecDepth 100000 in
noncomputable def E_w_draft (dr : Int32) (f : Nat → Int32) (fi : Int32) (f1 : Nat → Int32) (f2 : Nat → Int32) : (Nat → Int32) :=
  Lt (dr * 28 : Int32) (fun x_241 => Lt (x_241 + 1 : Int32) (fun x_242 => Lt (upd f (x_242 : Int32).toNatClampNeg fi : Nat → Int32) (fun f_243 => Lt (x_241 + 2 : Int32) (fun x_244 => Lt (f2 (0 : Int32).toNatClampNeg : Int32) (fun x_245 => Lt (upd f_243 (x_244 : Int32).toNatClampNeg x_245 : Nat → Int32) (fun f_246 => Lt (x_241 + 3 : Int32) (fun x_247 => Lt (f2 (1 : Int32).toNatClampNeg : Int32) (fun x_248 => Lt (upd f_246 (x_247 : Int32).toNatClampNeg x_248 : Nat → Int32) (fun f_249 => Lp (α := Int32 → (Nat → Int32) → ((Nat → Int32))) (E_w_draft_l50 f1 x_241) (fun _ _ => ((fun _ => 0) : Nat → Int32)) ((4 - (0 : Int32).toInt : Int).toNat + 1) 0 f_249)))))))))
set_option maxHeartbeats 4000000 in
set_option maxRecDepth 100000 in
theorem w_draft (l : Launch) (D : va_G) (K : Nat → ClassId) (a0 : Nat) (t0 : Nat) (a2 : Nat) (dr : Int32) (h_2 : Value) (f : Nat → Int32) (t1 : Nat) (k_1 : Value) (t2 : Nat) (k_3 : Value) (k_4 : Value) (k_5 : Value) (k_6 : Value) (fi : Int32) (k_8 : Value) (k_9 : Value) (f1 : Nat → Int32) (f2 : Nat → Int32) (sz : Nat) (zdr : 0 ≤ dr.toInt ∧ dr.toInt ≤ 16) : Met l yX2_draft wsX2_draft ({ frames := 1, cells := 0, slots := 0, locals := 40 }) (va_Pc [.ref a0, .ref t0] (Pre D K [(a0, .inr (2, [.ref a2, .int dr, h_2])), (a2, .inl (K 0, 476, .inl f)), (t0, .inr (9, [.ref t1, k_1, .ref t2, k_3, k_4, k_5, k_6, .int fi, k_8, k_9])), (t1, .inl (K 0, 56, .inl f1)), (t2, .inl (K 0, 6, .inl f2))] sz)) (va_Qv (S := Su) (fun (u : Su) => ((u.2.1 0) = E_w_draft dr f fi f1 f2) ∧ True) (fun u t => Wd D (va_A [(a0, .inr (2, [.ref a2, .int dr, h_2])), (a2, .inl (K 0, 476, .inl f)), (t0, .inr (9, [.ref t1, k_1, .ref t2, k_3, k_4, k_5, k_6, .int fi, k_8, k_9])), (t1, .inl (K 0, 56, .inl f1)), (t2, .inl (K 0, 6, .inl f2))] sz) ((fun u => [(a0, .inr (2, [.ref a2, .int dr, h_2])), (a2, .inl (K 0, 476, .inl (u.2.1 0))), (t0, .inr (9, [.ref t1, k_1, .ref t2, k_3, k_4, k_5, k_6, .int fi, k_8, k_9])), (t1, .inl (K 0, 56, .inl f1)), (t2, .inl (K 0, 6, .inl f2))]) u) t) (va_A [(a0, .inr (2, [.ref a2, .int dr, h_2])), (a2, .inl (K 0, 476, .inl f)), (t0, .inr (9, [.ref t1, k_1, .ref t2, k_3, k_4, k_5, k_6, .int fi, k_8, k_9])), (t1, .inl (K 0, 56, .inl f1)), (t2, .inl (K 0, 6, .inl f2))] sz)) 0 0 (va_A [(a0, .inr (2, [.ref a2, .int dr, h_2])), (a2, .inl (K 0, 476, .inl f)), (t0, .inr (9, [.ref t1, k_1, .ref t2, k_3, k_4, k_5, k_6, .int fi, k_8, k_9])), (t1, .inl (K 0, 56, .inl f1)), (t2, .inl (K 0, 6, .inl f2))] sz) := by
  refine Met.ofW (cc := cX2_draft) (maxL := 4) (ret := none) (by decide +kernel) rfl ?_
  intro p e s m args below meth c s₁ B hml hv
  obtain ⟨rfl, hsz, hP, hK, hD0, hN⟩ := hv
  have hx := B.exec
  have hb := B.bytes
  have hr := B.returns
  have hts := atoms_spec (ws := wsX2_draft) B.pre
  have hown : s.vm.findClass RX2 = some m.cls := findClass_of_methodNamed B.named
  have hlocks := B.notSynchronized
  subst hsz
  have hD := hD0.self (sz := s.heap.size)
  generalize hAe : va_A [(a0, .inr (2, [.ref a2, .int dr, h_2])), (a2, .inl (K 0, 476, .inl f)), (t0, .inr (9, [.ref t1, k_1, .ref t2, k_3, k_4, k_5, k_6, .int fi, k_8, k_9])), (t1, .inl (K 0, 56, .inl f1)), (t2, .inl (K 0, 6, .inl f2))] s.heap.size = A at hD ⊢
  have hA : ∀ q : Nat, s.heap.size ≤ q → A q := fun q h => by rw [← hAe]; exact Or.inr h
  clear hAe
  have hS : va_S A s.heap s.heap [] := va_S.rf
  replace hP : va_P D vwCl [(a0, .inr (2, [.ref a2, .int dr, h_2])), (a2, .inl (K 0, 476, .inl f)), (t0, .inr (9, [.ref t1, k_1, .ref t2, k_3, k_4, k_5, k_6, .int fi, k_8, k_9])), (t1, .inl (K 0, 56, .inl f1)), (t2, .inl (K 0, 6, .inl f2))] s.heap := hP
  have hl := lv_entry [.ref a0, .ref t0] (n := 4) (Nat.le_of_ble_eq_true rfl)
  rw [lg_entry_eq]
  generalize (lg_sl [.ref a0, .ref t0] ++ List.replicate (4 - (lg_sl [.ref a0, .ref t0]).length) Slot.unset).toArray = ls at hl ⊢
  have hl : lv_has ls 4 [(0, .ref a0), (1, .ref t0)] := hl
  have hw2 : ∀ w ∈ wsX20, w ∈ wsX2_draft := fun w h => (List.mem_cons_of_mem _ (List.mem_append_left _ (List.mem_append_right _ h)))
  have hw9 : ∀ w ∈ wsX90, w ∈ wsX2_draft := fun w h => (List.mem_cons_of_mem _ (List.mem_append_right _ h))
  generalize hQ : MQ below _ _ s _ _ _ = Q
  have hE := E_w_draft.eq_def dr f fi f1 f2
  refine lv_aload_n hx hb dX2_draft_0 rfl (lv_at hl 0 rfl) ?_
  refine va_get (ci := 2) (v := .int dr) (C := RX2) (T := TX2) (N := 3) hx hb hts hw2 hown hK hP 0 rfl rfl 1 (by decide +kernel) (hts _ mm_X2_draft_279) (fun _ h9 => h9) rfl dX2_draft_1 ?_
  refine lv_bipush (v := 28) hx hb dX2_draft_4 (by decide +kernel) ?_
  refine lv_imul hx hb dX2_draft_6 ?_
  refine lv_topi (fun x_241 ex_241 => ?_)
  replace hE := hE.trans (Lt_in ex_241)
  have hx_241 : x_241.toInt = (dr.toInt * 28) := by rw [ex_241]; exact i_mul rfl (show (28 : Int32).toInt = 28 from rfl) (by omega)
  refine lv_istore_n (lv' := [(2, .int x_241), (0, .ref a0), (1, .ref t0)]) hx hb dX2_draft_7 rfl hl (by decide +kernel) rfl (fun ls hl => ?_)
  refine lv_aload_n hx hb dX2_draft_8 rfl (lv_at hl 1 rfl) ?_
  refine va_get (ci := 2) (v := .ref a2) (C := RX2) (T := TX2) (N := 3) hx hb hts hw2 hown hK hP 0 rfl rfl 0 (by decide +kernel) (hts _ mm_X2_draft_278) (fun _ h9 => h9) rfl dX2_draft_9 ?_
  refine lv_iload_n hx hb dX2_draft_12 rfl (lv_at hl 0 rfl) ?_
  refine lv_iconst (v := 1) hx hb dX2_draft_13 (by decide +kernel) ?_
  refine lv_iadd hx hb dX2_draft_14 ?_
  refine lv_topi (fun x_242 ex_242 => ?_)
  replace hE := hE.trans (Lt_in ex_242)
  have hx_242 : x_242.toInt = ((dr.toInt * 28) + 1) := by rw [ex_242]; exact i_add hx_241 (show (1 : Int32).toInt = 1 from rfl) (by omega)
  refine lv_aload_n hx hb dX2_draft_15 rfl (lv_at hl 2 rfl) ?_
  refine va_getN (ci := 9) (v := .int fi) (C := RX9) (T := TX9) (N := 10) hx hb hts hw9 hown hK hP 2 rfl rfl 7 (by decide +kernel) (nst_use hN 113 rfl) (fun _ h9 => h9) rfl dX2_draft_16 ?_
  refine va_iast hx hb hK hP hD hS 1 0 rfl rfl (i_in hx_242 (by omega)) dX2_draft_19 (fun H locs hP0 hD0 hS0 => ?_)
  clear hP hD hS
  have hP := hP0
  have hD := hD0
  have hS := hS0
  clear hP0 hD0 hS0
  generalize hf_243 : (upd f (x_242 : Int32).toNatClampNeg fi) = f_243 at hP hD
  replace hE := hE.trans (Lt_in hf_243.symm)
  replace hP : va_P D vwCl [(a0, .inr (2, [.ref a2, .int dr, h_2])), (a2, .inl (K 0, 476, .inl f_243)), (t0, .inr (9, [.ref t1, k_1, .ref t2, k_3, k_4, k_5, k_6, .int fi, k_8, k_9])), (t1, .inl (K 0, 56, .inl f1)), (t2, .inl (K 0, 6, .inl f2))] H := hP
  replace hD : va_D A [(a0, .inr (2, [.ref a2, .int dr, h_2])), (a2, .inl (K 0, 476, .inl f_243)), (t0, .inr (9, [.ref t1, k_1, .ref t2, k_3, k_4, k_5, k_6, .int fi, k_8, k_9])), (t1, .inl (K 0, 56, .inl f1)), (t2, .inl (K 0, 6, .inl f2))] := hD
  refine lv_aload_n hx hb dX2_draft_20 rfl (lv_at hl 1 rfl) ?_
  refine va_get (ci := 2) (v := .ref a2) (C := RX2) (T := TX2) (N := 3) hx hb hts hw2 hown hK hP 0 rfl rfl 0 (by decide +kernel) (hts _ mm_X2_draft_278) (fun _ h9 => h9) rfl dX2_draft_21 ?_
  refine lv_iload_n hx hb dX2_draft_24 rfl (lv_at hl 0 rfl) ?_
  refine lv_iconst (v := 2) hx hb dX2_draft_25 (by decide +kernel) ?_
  refine lv_iadd hx hb dX2_draft_26 ?_
  refine lv_topi (fun x_244 ex_244 => ?_)
  replace hE := hE.trans (Lt_in ex_244)
  have hx_244 : x_244.toInt = ((dr.toInt * 28) + 2) := by rw [ex_244]; exact i_add hx_241 (show (2 : Int32).toInt = 2 from rfl) (by omega)
  refine lv_aload_n hx hb dX2_draft_27 rfl (lv_at hl 2 rfl) ?_
  refine va_getN (ci := 9) (v := .ref t2) (C := RX9) (T := TX9) (N := 10) hx hb hts hw9 hown hK hP 2 rfl rfl 2 (by decide +kernel) (nst_use hN 102 rfl) (fun _ h9 => h9) rfl dX2_draft_28 ?_
  refine lv_iconst (v := 0) hx hb dX2_draft_31 (by decide +kernel) ?_
  refine va_iald hx hb hK hP 4 0 rfl rfl (i_in (x := 0) rfl (by omega)) dX2_draft_32 ?_
  refine lv_topi (fun x_245 ex_245 => ?_)
  replace hE := hE.trans (Lt_in ex_245)
  refine va_iast hx hb hK hP hD hS 1 0 rfl rfl (i_in hx_244 (by omega)) dX2_draft_33 (fun H locs hP0 hD0 hS0 => ?_)
  clear hP hD hS
  have hP := hP0
  have hD := hD0
  have hS := hS0
  clear hP0 hD0 hS0
  generalize hf_246 : (upd f_243 (x_244 : Int32).toNatClampNeg x_245) = f_246 at hP hD
  replace hE := hE.trans (Lt_in hf_246.symm)
  replace hP : va_P D vwCl [(a0, .inr (2, [.ref a2, .int dr, h_2])), (a2, .inl (K 0, 476, .inl f_246)), (t0, .inr (9, [.ref t1, k_1, .ref t2, k_3, k_4, k_5, k_6, .int fi, k_8, k_9])), (t1, .inl (K 0, 56, .inl f1)), (t2, .inl (K 0, 6, .inl f2))] H := hP
  replace hD : va_D A [(a0, .inr (2, [.ref a2, .int dr, h_2])), (a2, .inl (K 0, 476, .inl f_246)), (t0, .inr (9, [.ref t1, k_1, .ref t2, k_3, k_4, k_5, k_6, .int fi, k_8, k_9])), (t1, .inl (K 0, 56, .inl f1)), (t2, .inl (K 0, 6, .inl f2))] := hD
  refine lv_aload_n hx hb dX2_draft_34 rfl (lv_at hl 1 rfl) ?_
  refine va_get (ci := 2) (v := .ref a2) (C := RX2) (T := TX2) (N := 3) hx hb hts hw2 hown hK hP 0 rfl rfl 0 (by decide +kernel) (hts _ mm_X2_draft_278) (fun _ h9 => h9) rfl dX2_draft_35 ?_
  refine lv_iload_n hx hb dX2_draft_38 rfl (lv_at hl 0 rfl) ?_
  refine lv_iconst (v := 3) hx hb dX2_draft_39 (by decide +kernel) ?_
  refine lv_iadd hx hb dX2_draft_40 ?_
  refine lv_topi (fun x_247 ex_247 => ?_)
  replace hE := hE.trans (Lt_in ex_247)
  have hx_247 : x_247.toInt = ((dr.toInt * 28) + 3) := by rw [ex_247]; exact i_add hx_241 (show (3 : Int32).toInt = 3 from rfl) (by omega)
  refine lv_aload_n hx hb dX2_draft_41 rfl (lv_at hl 2 rfl) ?_
  refine va_getN (ci := 9) (v := .ref t2) (C := RX9) (T := TX9) (N := 10) hx hb hts hw9 hown hK hP 2 rfl rfl 2 (by decide +kernel) (nst_use hN 102 rfl) (fun _ h9 => h9) rfl dX2_draft_42 ?_
  refine lv_iconst (v := 1) hx hb dX2_draft_45 (by decide +kernel) ?_
  refine va_iald hx hb hK hP 4 0 rfl rfl (i_in (x := 1) rfl (by omega)) dX2_draft_46 ?_
  refine lv_topi (fun x_248 ex_248 => ?_)
  replace hE := hE.trans (Lt_in ex_248)
  refine va_iast hx hb hK hP hD hS 1 0 rfl rfl (i_in hx_247 (by omega)) dX2_draft_47 (fun H locs hP0 hD0 hS0 => ?_)
  clear hP hD hS
  have hP := hP0
  have hD := hD0
  have hS := hS0
  clear hP0 hD0 hS0
  generalize hf_249 : (upd f_246 (x_247 : Int32).toNatClampNeg x_248) = f_249 at hP hD
  replace hE := hE.trans (Lt_in hf_249.symm)
  replace hP : va_P D vwCl [(a0, .inr (2, [.ref a2, .int dr, h_2])), (a2, .inl (K 0, 476, .inl f_249)), (t0, .inr (9, [.ref t1, k_1, .ref t2, k_3, k_4, k_5, k_6, .int fi, k_8, k_9])), (t1, .inl (K 0, 56, .inl f1)), (t2, .inl (K 0, 6, .inl f2))] H := hP
  replace hD : va_D A [(a0, .inr (2, [.ref a2, .int dr, h_2])), (a2, .inl (K 0, 476, .inl f_249)), (t0, .inr (9, [.ref t1, k_1, .ref t2, k_3, k_4, k_5, k_6, .int fi, k_8, k_9])), (t1, .inl (K 0, 56, .inl f1)), (t2, .inl (K 0, 6, .inl f2))] := hD
  refine lv_iconst (v := 0) hx hb dX2_draft_48 (by decide +kernel) ?_
  refine lv_istore_n (lv' := [(3, .int 0), (2, .int x_241), (0, .ref a0), (1, .ref t0)]) hx hb dX2_draft_49 rfl hl (by decide +kernel) rfl (fun ls hl => ?_)
  have lp_319 : ∀ (nn_ : Nat) (v_295 : Int32) (f_296 : Nat → Int32) (hv_295 : 0 ≤ v_295.toInt ∧ v_295.toInt ≤ 3) (hn : (4 - v_295.toInt : Int).toNat < nn_) (hE : E_w_draft dr f fi f1 f2 = Lp (α := Int32 → (Nat → Int32) → ((Nat → Int32))) (E_w_draft_l50 f1 x_241) (fun _ _ => ((fun _ => 0) : Nat → Int32)) nn_ v_295 f_296) (H : Heap) (locs : List Loc) (hP : va_P D vwCl [(a0, .inr (2, [.ref a2, .int dr, h_2])), (a2, .inl (K 0, 476, .inl f_296)), (t0, .inr (9, [.ref t1, k_1, .ref t2, k_3, k_4, k_5, k_6, .int fi, k_8, k_9])), (t1, .inl (K 0, 56, .inl f1)), (t2, .inl (K 0, 6, .inl f2))] H) (hD : va_D A [(a0, .inr (2, [.ref a2, .int dr, h_2])), (a2, .inl (K 0, 476, .inl f_296)), (t0, .inr (9, [.ref t1, k_1, .ref t2, k_3, k_4, k_5, k_6, .int fi, k_8, k_9])), (t1, .inl (K 0, 56, .inl f1)), (t2, .inl (K 0, 6, .inl f2))]) (hS : va_S A s.heap H locs) (ls : Array Slot) (hl : lv_has ls 4 [(3, .int v_295), (2, .int x_241), (0, .ref a0), (1, .ref t0)]), W p l e ({ frames := 1, cells := 0, slots := 0, locals := 40 }) s m (([.ref a0, .ref t0] : List Value).toArray) below meth c H locs 0 0 Q (F0 m 50 ls []) := by
    clear hE hP hD hS hl
    intro nn_
    induction nn_ with
    | zero =>
      intro v_295 f_296 hv_295 hn hE H locs hP hD hS ls hl
      exact absurd hn (Nat.not_lt_zero _)
    | succ nn_ ih_320 =>
      intro v_295 f_296 hv_295 hn hE H locs hP hD hS ls hl
      replace hE : E_w_draft dr f fi f1 f2 = E_w_draft_l50 f1 x_241 (Lp (α := Int32 → (Nat → Int32) → ((Nat → Int32))) (E_w_draft_l50 f1 x_241) (fun _ _ => ((fun _ => 0) : Nat → Int32)) nn_) v_295 f_296 := hE
      obtain ⟨rec_319, hrec_319⟩ : ∃ z9, z9 = Lp (α := Int32 → (Nat → Int32) → ((Nat → Int32))) (E_w_draft_l50 f1 x_241) (fun _ _ => ((fun _ => 0) : Nat → Int32)) nn_ := ⟨_, rfl⟩
      rw [← hrec_319] at hE
      replace hE := hE.trans (E_w_draft_l50.eq_def _ _ _ _ _)
      refine lv_iload_n hx hb dX2_draft_50 rfl (lv_at hl 0 rfl) ?_
      refine lv_iconst (v := 3) hx hb dX2_draft_51 (by decide +kernel) ?_
      refine lv_icmp_ge (tgt := 89) hx hb dX2_draft_52 (by decide +kernel) (fun c_321 => ?_) (fun c_321 => ?_)
      · have c_321i := i_le (x := 3) (y := v_295.toInt) rfl rfl c_321
        replace hE := hE.trans (if_pos c_321)
        rw [← hQ]
        have hP9 := hP.sub (ws' := [(a0, .inr (2, [.ref a2, .int dr, h_2])), (a2, .inl (K 0, 476, .inl f_296)), (t0, .inr (9, [.ref t1, k_1, .ref t2, k_3, k_4, k_5, k_6, .int fi, k_8, k_9])), (t1, .inl (K 0, 56, .inl f1)), (t2, .inl (K 0, 6, .inl f2))]) [0, 1, 2, 3, 4] rfl
        have hD9 := hD.sub (ws' := [(a0, .inr (2, [.ref a2, .int dr, h_2])), (a2, .inl (K 0, 476, .inl f_296)), (t0, .inr (9, [.ref t1, k_1, .ref t2, k_3, k_4, k_5, k_6, .int fi, k_8, k_9])), (t1, .inl (K 0, 56, .inl f1)), (t2, .inl (K 0, 6, .inl f2))]) [0, 1, 2, 3, 4] (by decide +kernel) rfl
        exact W.vret hx hb hr (fun t ht hW => ⟨⟨((fun _ => 0, fun i => match i with | _ => f_296, fun _ => fun _ => 0, fun _ => 0, fun _ => 0, fun _ => fun _ => none) : Su), rfl, ⟨hE.symm, trivial⟩, (⟨by rw [ht]; exact hP9, hD9⟩ : Wd D A _ t)⟩, hS.F ht⟩) hS.2.2 dX2_draft_89
      · have c_321i := i_nle (x := 3) (y := v_295.toInt) rfl rfl c_321
        replace hE := hE.trans (if_neg c_321)
        refine lv_aload_n hx hb dX2_draft_55 rfl (lv_at hl 3 rfl) ?_
        refine va_getN (ci := 9) (v := .ref t1) (C := RX9) (T := TX9) (N := 10) hx hb hts hw9 hown hK hP 2 rfl rfl 0 (by decide +kernel) (nst_use hN 97 rfl) (fun _ h9 => h9) rfl dX2_draft_56 ?_
        refine lv_iload_n hx hb dX2_draft_59 rfl (lv_at hl 0 rfl) ?_
        refine pci (va_runS (As := [.int v_295]) (rest := [.ref t1]) ⟨hx, hb, hml, hown, hts⟩ (w_changing l D K v_295 H.size) (va_cwS 1 hts gX2_draft_X2_changing rfl rfl rfl (by decide +kernel) ⟨Nat.le_of_ble_eq_true rfl, Nat.le_of_ble_eq_true rfl⟩) (mkS hK hN (va_P.nil) (va_D.nil (A := fun _ => True))) rfl rfl hl.1 rfl (lv_room (Nat.le_of_ble_eq_true rfl)) dX2_draft_60 ⟨Nat.le_of_ble_eq_true rfl, Nat.le_of_ble_eq_true rfl⟩) (fun r_322 hw => ?_)
        obtain ⟨h_324, k_323, -⟩ := hw
        replace hE := hE.trans (Lt_in k_323)
        refine lv_bipush (v := 8) hx hb dX2_draft_63 (by decide +kernel) ?_
        refine lv_imul hx hb dX2_draft_65 ?_
        refine lv_topi (fun x_325 ex_325 => ?_)
        replace hE := hE.trans (Lt_in ex_325)
        have hx_325 : x_325.toInt = (r_322.toInt * 8) := by rw [ex_325]; exact i_mul rfl (show (8 : Int32).toInt = 8 from rfl) (by omega)
        refine lv_aload_n hx hb dX2_draft_66 rfl (lv_at hl 2 rfl) ?_
        refine va_get (ci := 2) (v := .ref a2) (C := RX2) (T := TX2) (N := 3) hx hb hts hw2 hown hK hP 0 rfl rfl 0 (by decide +kernel) (hts _ mm_X2_draft_278) (fun _ h9 => h9) rfl dX2_draft_67 ?_
        refine lv_iload_n hx hb dX2_draft_70 rfl (lv_at hl 1 rfl) ?_
        refine lv_iconst (v := 4) hx hb dX2_draft_71 (by decide +kernel) ?_
        refine lv_iadd hx hb dX2_draft_72 ?_
        refine lv_topi (fun x_326 ex_326 => ?_)
        replace hE := hE.trans (Lt_in ex_326)
        have hx_326 : x_326.toInt = ((dr.toInt * 28) + 4) := by rw [ex_326]; exact i_add hx_241 (show (4 : Int32).toInt = 4 from rfl) (by omega)
        refine lv_iload_n hx hb dX2_draft_73 rfl (lv_at hl 0 rfl) ?_
        refine lv_bipush (v := 8) hx hb dX2_draft_74 (by decide +kernel) ?_
        refine lv_imul hx hb dX2_draft_76 ?_
        refine lv_topi (fun x_327 ex_327 => ?_)
        replace hE := hE.trans (Lt_in ex_327)
        have hx_327 : x_327.toInt = (v_295.toInt * 8) := by rw [ex_327]; exact i_mul rfl (show (8 : Int32).toInt = 8 from rfl) (by omega)
        refine lv_iadd hx hb dX2_draft_77 ?_
        refine lv_topi (fun x_328 ex_328 => ?_)
        replace hE := hE.trans (Lt_in ex_328)
        have hx_328 : x_328.toInt = (((dr.toInt * 28) + 4) + (v_295.toInt * 8)) := by rw [ex_328]; exact i_add hx_326 hx_327 (by omega)
        refine lv_bipush (v := 8) hx hb dX2_draft_78 (by decide +kernel) ?_
        refine va_copyi hx hb (hml.trans hl.1.symm) hown (hts _ mm_X2_draft_586) (hts _ mm_X2_draft_571) (hts _ mm_X2_draft_570) (hts _ mm_X2_draft_163) hK hP hD hS 3 1 0 0 rfl rfl rfl rfl rfl (fun h9 => by have h8 := i_lt (x := (r_322.toInt * 8)) (y := 0) hx_325 rfl h9; omega) (fun h9 => by have h8 := i_lt (x := (((dr.toInt * 28) + 4) + (v_295.toInt * 8))) (y := 0) hx_328 rfl h9; omega) (by decide +kernel) (by rw [i_clamp hx_325, i_clamp (show (8 : Int32).toInt = 8 from rfl)]; omega) (by rw [i_clamp hx_328, i_clamp (show (8 : Int32).toInt = 8 from rfl)]; omega) (fun _ _ => rfl) (Nat.le_of_ble_eq_true rfl) (by decide +kernel) dX2_draft_80 (fun H locs hP0 hD0 hS0 => ?_)
        clear hP hD hS
        have hP := hP0
        have hD := hD0
        have hS := hS0
        clear hP0 hD0 hS0
        generalize hf_329 : (va_cpy (α := Int32) f1 f_296 (x_325 : Int32).toNatClampNeg (x_328 : Int32).toNatClampNeg (8 : Int32).toNatClampNeg) = f_329 at hP hD
        replace hE := hE.trans (Lt_in hf_329.symm)
        replace hP : va_P D vwCl [(a0, .inr (2, [.ref a2, .int dr, h_2])), (a2, .inl (K 0, 476, .inl f_329)), (t0, .inr (9, [.ref t1, k_1, .ref t2, k_3, k_4, k_5, k_6, .int fi, k_8, k_9])), (t1, .inl (K 0, 56, .inl f1)), (t2, .inl (K 0, 6, .inl f2))] H := hP
        replace hD : va_D A [(a0, .inr (2, [.ref a2, .int dr, h_2])), (a2, .inl (K 0, 476, .inl f_329)), (t0, .inr (9, [.ref t1, k_1, .ref t2, k_3, k_4, k_5, k_6, .int fi, k_8, k_9])), (t1, .inl (K 0, 56, .inl f1)), (t2, .inl (K 0, 6, .inl f2))] := hD
        obtain ⟨x_330, ex_330⟩ : ∃ y : Int32, y = v_295 + Int32.ofInt 1 := ⟨_, rfl⟩
        replace hE := hE.trans (Lt_in ex_330)
        have hx_330 : x_330.toInt = (v_295.toInt + 1) := by rw [ex_330]; exact i_add rfl (show (Int32.ofInt 1).toInt = 1 from rfl) (by omega)
        refine lv_iinc (v := x_330) (lv' := [(3, .int x_330), (2, .int x_241), (0, .ref a0), (1, .ref t0)]) hx hb dX2_draft_83 hl (k := 0) rfl (by rw [ex_330]) (by decide +kernel) rfl (fun ls hl => ?_)
        refine lv_goto (tgt := 50) hx hb dX2_draft_86 (by decide +kernel) ?_
        exact ih_320 x_330 f_329 (by rw [hx_330]; omega) (by omega) (hE.trans (by rw [hrec_319])) _ _ hP hD hS ls (lv_sub hl [0, 1, 2, 3] rfl)
  exact lp_319 ((4 - (0 : Int32).toInt : Int).toNat + 1) 0 f_249 (by decide +kernel) (Nat.lt_succ_self _) hE _ _ hP hD hS ls (lv_sub hl [0, 1, 2, 3] rfl)
set_option maxRecDepth 100000 in
noncomputable def E_w_keep (x : Int32) (dr : Int32) (kp : Int32) (f : Nat → Int32) : Int32 × Int32 × (Nat → Int32) :=
  Lt (dr * 28 : Int32) (fun x_73 => Lt (upd f (x_73 : Int32).toNatClampNeg x : Nat → Int32) (fun f_74 => Lt (dr + 1 : Int32) (fun x_75 => Lt (x_75 - x_75 / 17 * 17 : Int32) (fun x_76 => Lt (kp + 1 : Int32) (fun x_77 => Lt (if (x_77 : Int32) < (16 : Int32) then (x_77 : Int32) else (16 : Int32) : Int32) (fun x_78 => ((x_76, x_78, f_74) : Int32 × Int32 × (Nat → Int32))))))))
set_option maxHeartbeats 4000000 in
set_option maxRecDepth 100000 in
theorem w_keep (l : Launch) (D : va_G) (K : Nat → ClassId) (a0 : Nat) (x : Int32) (a2 : Nat) (dr : Int32) (kp : Int32) (f : Nat → Int32) (sz : Nat) (zdr : 0 ≤ dr.toInt ∧ dr.toInt ≤ 16) (zkp : 0 ≤ kp.toInt ∧ kp.toInt ≤ 16) : Met l yX2_keep wsX2_keep ({ frames := 1, cells := 0, slots := 0, locals := 14 }) (va_Pc [.ref a0, .int x] (Pre D K [(a0, .inr (2, [.ref a2, .int dr, .int kp])), (a2, .inl (K 0, 476, .inl f))] sz)) (va_Qv (S := Su) (fun (u : Su) => (0 ≤ (u.2.2.2.1 0).toInt ∧ (u.2.2.2.1 0).toInt ≤ 16) ∧ (1 ≤ (u.2.2.2.1 1).toInt ∧ (u.2.2.2.1 1).toInt ≤ 16) ∧ (((u.2.2.2.1 0), (u.2.2.2.1 1), (u.2.1 0)) = E_w_keep x dr kp f) ∧ True) (fun u t => Wd D (va_A [(a0, .inr (2, [.ref a2, .int dr, .int kp])), (a2, .inl (K 0, 476, .inl f))] sz) ((fun u => [(a0, .inr (2, [.ref a2, .int (u.2.2.2.1 0), .int (u.2.2.2.1 1)])), (a2, .inl (K 0, 476, .inl (u.2.1 0)))]) u) t) (va_A [(a0, .inr (2, [.ref a2, .int dr, .int kp])), (a2, .inl (K 0, 476, .inl f))] sz)) 0 0 (va_A [(a0, .inr (2, [.ref a2, .int dr, .int kp])), (a2, .inl (K 0, 476, .inl f))] sz) := by
  refine Met.ofW (cc := cX2_keep) (maxL := 2) (ret := none) (by decide +kernel) rfl ?_
  intro p e s m args below meth c s₁ B hml hv
  obtain ⟨rfl, hsz, hP, hK, hD0, hN⟩ := hv
  have hx := B.exec
  have hb := B.bytes
  have hr := B.returns
  have hts := atoms_spec (ws := wsX2_keep) B.pre
  have hown : s.vm.findClass RX2 = some m.cls := findClass_of_methodNamed B.named
  have hlocks := B.notSynchronized
  subst hsz
  have hD := hD0.self (sz := s.heap.size)
  generalize hAe : va_A [(a0, .inr (2, [.ref a2, .int dr, .int kp])), (a2, .inl (K 0, 476, .inl f))] s.heap.size = A at hD ⊢
  have hA : ∀ q : Nat, s.heap.size ≤ q → A q := fun q h => by rw [← hAe]; exact Or.inr h
  clear hAe
  have hS : va_S A s.heap s.heap [] := va_S.rf
  replace hP : va_P D vwCl [(a0, .inr (2, [.ref a2, .int dr, .int kp])), (a2, .inl (K 0, 476, .inl f))] s.heap := hP
  have hl := lv_entry [.ref a0, .int x] (n := 2) (Nat.le_of_ble_eq_true rfl)
  rw [lg_entry_eq]
  generalize (lg_sl [.ref a0, .int x] ++ List.replicate (2 - (lg_sl [.ref a0, .int x]).length) Slot.unset).toArray = ls at hl ⊢
  have hl : lv_has ls 2 [(0, .ref a0), (1, .int x)] := hl
  have hw2 : ∀ w ∈ wsX20, w ∈ wsX2_keep := fun w h => (List.mem_cons_of_mem _ (List.mem_append_right _ h))
  generalize hQ : MQ below _ _ s _ _ _ = Q
  have hE := E_w_keep.eq_def x dr kp f
  refine lv_aload_n hx hb dX2_keep_0 rfl (lv_at hl 0 rfl) ?_
  refine va_get (ci := 2) (v := .ref a2) (C := RX2) (T := TX2) (N := 3) hx hb hts hw2 hown hK hP 0 rfl rfl 0 (by decide +kernel) (hts _ mm_X2_keep_278) (fun _ h9 => h9) rfl dX2_keep_1 ?_
  refine lv_aload_n hx hb dX2_keep_4 rfl (lv_at hl 0 rfl) ?_
  refine va_get (ci := 2) (v := .int dr) (C := RX2) (T := TX2) (N := 3) hx hb hts hw2 hown hK hP 0 rfl rfl 1 (by decide +kernel) (hts _ mm_X2_keep_279) (fun _ h9 => h9) rfl dX2_keep_5 ?_
  refine lv_bipush (v := 28) hx hb dX2_keep_8 (by decide +kernel) ?_
  refine lv_imul hx hb dX2_keep_10 ?_
  refine lv_topi (fun x_73 ex_73 => ?_)
  replace hE := hE.trans (Lt_in ex_73)
  have hx_73 : x_73.toInt = (dr.toInt * 28) := by rw [ex_73]; exact i_mul rfl (show (28 : Int32).toInt = 28 from rfl) (by omega)
  refine lv_iload_n hx hb dX2_keep_11 rfl (lv_at hl 1 rfl) ?_
  refine va_iast hx hb hK hP hD hS 1 0 rfl rfl (i_in hx_73 (by omega)) dX2_keep_12 (fun H locs hP0 hD0 hS0 => ?_)
  clear hP hD hS
  have hP := hP0
  have hD := hD0
  have hS := hS0
  clear hP0 hD0 hS0
  generalize hf_74 : (upd f (x_73 : Int32).toNatClampNeg x) = f_74 at hP hD
  replace hE := hE.trans (Lt_in hf_74.symm)
  replace hP : va_P D vwCl [(a0, .inr (2, [.ref a2, .int dr, .int kp])), (a2, .inl (K 0, 476, .inl f_74))] H := hP
  replace hD : va_D A [(a0, .inr (2, [.ref a2, .int dr, .int kp])), (a2, .inl (K 0, 476, .inl f_74))] := hD
  refine lv_aload_n hx hb dX2_keep_13 rfl (lv_at hl 0 rfl) ?_
  refine lv_aload_n hx hb dX2_keep_14 rfl (lv_at hl 0 rfl) ?_
  refine va_get (ci := 2) (v := .int dr) (C := RX2) (T := TX2) (N := 3) hx hb hts hw2 hown hK hP 0 rfl rfl 1 (by decide +kernel) (hts _ mm_X2_keep_279) (fun _ h9 => h9) rfl dX2_keep_15 ?_
  refine lv_iconst (v := 1) hx hb dX2_keep_18 (by decide +kernel) ?_
  refine lv_iadd hx hb dX2_keep_19 ?_
  refine lv_topi (fun x_75 ex_75 => ?_)
  replace hE := hE.trans (Lt_in ex_75)
  have hx_75 : x_75.toInt = (dr.toInt + 1) := by rw [ex_75]; exact i_add rfl (show (1 : Int32).toInt = 1 from rfl) (by omega)
  refine lv_bipush (v := 17) hx hb dX2_keep_20 (by decide +kernel) ?_
  refine lv_irem hx hb dX2_keep_22 (by decide +kernel) ?_
  refine lv_topi (fun x_76 ex_76 => ?_)
  replace hE := hE.trans (Lt_in ex_76)
  have hx_76 : x_76.toInt = ((dr.toInt + 1) % 17) := by rw [ex_76]; exact i_rem hx_75 (show (17 : Int32).toInt = 17 from rfl) (by omega) (by omega)
  refine va_put (ci := 2) (v := .int x_76) (ty := .int) (C := RX2) (T := TX2) (N := 3) hx hb hts hw2 tyX2 tyX2_ok nmX2 hown hK hP hD hS 0 rfl rfl 1 (by decide +kernel) (hts _ mm_X2_keep_279) (fun _ h9 => h9) rfl (by decide +kernel) (by first | rfl | decide) (by first | rfl | decide) (Nat.le_of_ble_eq_true rfl) dX2_keep_23 (fun H locs hP0 hD0 hS0 => ?_)
  clear hP hD hS
  have hP := hP0
  have hD := hD0
  have hS := hS0
  clear hP0 hD0 hS0
  replace hP : va_P D vwCl [(a0, .inr (2, [.ref a2, .int x_76, .int kp])), (a2, .inl (K 0, 476, .inl f_74))] H := hP
  replace hD : va_D A [(a0, .inr (2, [.ref a2, .int x_76, .int kp])), (a2, .inl (K 0, 476, .inl f_74))] := hD
  refine lv_aload_n hx hb dX2_keep_26 rfl (lv_at hl 0 rfl) ?_
  refine lv_bipush (v := 16) hx hb dX2_keep_27 (by decide +kernel) ?_
  refine lv_aload_n hx hb dX2_keep_29 rfl (lv_at hl 0 rfl) ?_
  refine va_get (ci := 2) (v := .int kp) (C := RX2) (T := TX2) (N := 3) hx hb hts hw2 hown hK hP 0 rfl rfl 2 (by decide +kernel) (hts _ mm_X2_keep_280) (fun _ h9 => h9) rfl dX2_keep_30 ?_
  refine lv_iconst (v := 1) hx hb dX2_keep_33 (by decide +kernel) ?_
  refine lv_iadd hx hb dX2_keep_34 ?_
  refine lv_topi (fun x_77 ex_77 => ?_)
  replace hE := hE.trans (Lt_in ex_77)
  have hx_77 : x_77.toInt = (kp.toInt + 1) := by rw [ex_77]; exact i_add rfl (show (1 : Int32).toInt = 1 from rfl) (by omega)
  refine va_mmin hx hb (hml.trans hl.1.symm) hown (hts _ mm_X2_keep_631) (hts _ mm_X2_keep_426) (hts _ mm_X2_keep_157) (hts _ mm_X2_keep_427) (Nat.le_of_ble_eq_true rfl) (Nat.le_of_ble_eq_true rfl) (Nat.le_of_ble_eq_true rfl) (Nat.le_of_ble_eq_true rfl) dX2_keep_35 ?_
  refine lv_topi (fun x_78 ex_78 => ?_)
  replace hE := hE.trans (Lt_in ex_78)
  have hx_78 : (16 ≤ (kp.toInt + 1) ∧ x_78.toInt = 16) ∨ ((kp.toInt + 1) < 16 ∧ x_78.toInt = (kp.toInt + 1)) := by rw [ex_78]; exact i_min (show (16 : Int32).toInt = 16 from rfl) hx_77
  replace hx_78 : x_78.toInt ≤ (kp.toInt + 1) ∧ 1 ≤ x_78.toInt ∧ x_78.toInt ≤ 16 := by omega
  refine va_put (ci := 2) (v := .int x_78) (ty := .int) (C := RX2) (T := TX2) (N := 3) hx hb hts hw2 tyX2 tyX2_ok nmX2 hown hK hP hD hS 0 rfl rfl 2 (by decide +kernel) (hts _ mm_X2_keep_280) (fun _ h9 => h9) rfl (by decide +kernel) (by first | rfl | decide) (by first | rfl | decide) (Nat.le_of_ble_eq_true rfl) dX2_keep_38 (fun H locs hP0 hD0 hS0 => ?_)
  clear hP hD hS
  have hP := hP0
  have hD := hD0
  have hS := hS0
  clear hP0 hD0 hS0
  replace hP : va_P D vwCl [(a0, .inr (2, [.ref a2, .int x_76, .int x_78])), (a2, .inl (K 0, 476, .inl f_74))] H := hP
  replace hD : va_D A [(a0, .inr (2, [.ref a2, .int x_76, .int x_78])), (a2, .inl (K 0, 476, .inl f_74))] := hD
  rw [← hQ]
  have hP9 := hP.sub (ws' := [(a0, .inr (2, [.ref a2, .int x_76, .int x_78])), (a2, .inl (K 0, 476, .inl f_74))]) [0, 1] rfl
  have hD9 := hD.sub (ws' := [(a0, .inr (2, [.ref a2, .int x_76, .int x_78])), (a2, .inl (K 0, 476, .inl f_74))]) [0, 1] (by decide +kernel) rfl
  exact W.vret hx hb hr (fun t ht hW => ⟨⟨((fun _ => 0, fun i => match i with | _ => f_74, fun _ => fun _ => 0, fun i => match i with | 0 => x_76 | _ => x_78, fun _ => 0, fun _ => fun _ => none) : Su), rfl, ⟨(show 0 ≤ (x_76 : Int32).toInt ∧ (x_76 : Int32).toInt ≤ 16 by rw [hx_76]; omega), (show 1 ≤ (x_78 : Int32).toInt ∧ (x_78 : Int32).toInt ≤ 16 by omega), hE.symm, trivial⟩, (⟨by rw [ht]; exact hP9, hD9⟩ : Wd D A _ t)⟩, hS.F ht⟩) hS.2.2 dX2_keep_41
set_option maxRecDepth 100000 in
noncomputable def E_w_takeBack_l85 (f : Nat → Int32) (x_348 : Int32) (x_351 : Int32) (x_352 : Int32) (x_354 : Int32) (f_360 : Nat → Int32) (rec_469 : Int32 → (Nat → Int32) → (Int32 × Int32 × Int32 × Int32 × (Nat → Int32) × (Nat → Int32))) (v_429 : Int32) (f_430 : Nat → Int32) : Int32 × Int32 × Int32 × Int32 × (Nat → Int32) × (Nat → Int32) :=
  if 3 ≤ v_429 then (Lt (f (x_352 : Int32).toNatClampNeg : Int32) (fun x_472 => ((x_472, x_351, x_348, x_354, f_430, f_360) : Int32 × Int32 × Int32 × Int32 × (Nat → Int32) × (Nat → Int32)))) else (Lt (x_352 + 4 : Int32) (fun x_473 => Lt (v_429 * 8 : Int32) (fun x_474 => Lt (x_473 + x_474 : Int32) (fun x_475 => Lt (E_w_changingX v_429) (fun r_476 => if r_476 = 2 then (Lt (va_cpy (α := Int32) f f_430 (x_475 : Int32).toNatClampNeg (16 : Int32).toNatClampNeg (8 : Int32).toNatClampNeg : Nat → Int32) (fun f_482 => Lt (v_429 + Int32.ofInt 1 : Int32) (fun x_483 => rec_469 x_483 f_482))) else (if r_476 = 5 then (Lt (va_cpy (α := Int32) f f_430 (x_475 : Int32).toNatClampNeg (40 : Int32).toNatClampNeg (8 : Int32).toNatClampNeg : Nat → Int32) (fun f_485 => Lt (v_429 + Int32.ofInt 1 : Int32) (fun x_486 => rec_469 x_486 f_485))) else (Lt (va_cpy (α := Int32) f f_430 (x_475 : Int32).toNatClampNeg (48 : Int32).toNatClampNeg (8 : Int32).toNatClampNeg : Nat → Int32) (fun f_488 => Lt (v_429 + Int32.ofInt 1 : Int32) (fun x_489 => rec_469 x_489 f_488)))))))))
set_option maxRecDepth 100000 in
noncomputable def E_w_takeBack (dr : Int32) (kp : Int32) (f : Nat → Int32) (fi : Int32) (f1 : Nat → Int32) (f2 : Nat → Int32) : Int32 × Int32 × Int32 × Int32 × (Nat → Int32) × (Nat → Int32) :=
  if kp = 0 then ((((-1), dr, kp, fi, f1, f2) : Int32 × Int32 × Int32 × Int32 × (Nat → Int32) × (Nat → Int32))) else (Lt (kp - 1 : Int32) (fun x_348 => Lt (dr + 17 : Int32) (fun x_349 => Lt (x_349 - 1 : Int32) (fun x_350 => Lt (x_350 - x_350 / 17 * 17 : Int32) (fun x_351 => Lt (x_351 * 28 : Int32) (fun x_352 => Lt (x_352 + 1 : Int32) (fun x_353 => Lt (f (x_353 : Int32).toNatClampNeg : Int32) (fun x_354 => Lt (x_352 + 2 : Int32) (fun x_355 => Lt (f (x_355 : Int32).toNatClampNeg : Int32) (fun x_356 => Lt (upd f2 (0 : Int32).toNatClampNeg x_356 : Nat → Int32) (fun f_357 => Lt (x_352 + 3 : Int32) (fun x_358 => Lt (f (x_358 : Int32).toNatClampNeg : Int32) (fun x_359 => Lt (upd f_357 (1 : Int32).toNatClampNeg x_359 : Nat → Int32) (fun f_360 => Lp (α := Int32 → (Nat → Int32) → (Int32 × Int32 × Int32 × Int32 × (Nat → Int32) × (Nat → Int32))) (E_w_takeBack_l85 f x_348 x_351 x_352 x_354 f_360) (fun _ _ => ((0, 0, 0, 0, fun _ => 0, fun _ => 0) : Int32 × Int32 × Int32 × Int32 × (Nat → Int32) × (Nat → Int32))) ((4 - (0 : Int32).toInt : Int).toNat + 1) 0 f1))))))))))))))
set_option maxHeartbeats 4000000 in
set_option maxRecDepth 100000 in
theorem w_takeBack (l : Launch) (D : va_G) (K : Nat → ClassId) (a0 : Nat) (t0 : Nat) (a2 : Nat) (dr : Int32) (kp : Int32) (f : Nat → Int32) (t1 : Nat) (k_1 : Value) (t2 : Nat) (k_3 : Value) (k_4 : Value) (k_5 : Value) (k_6 : Value) (fi : Int32) (k_8 : Value) (k_9 : Value) (f1 : Nat → Int32) (gt : Nat → Int32) (f2 : Nat → Int32) (sz : Nat) (zdr : 0 ≤ dr.toInt ∧ dr.toInt ≤ 16) (zkp : 0 ≤ kp.toInt ∧ kp.toInt ≤ 16) (zgt : FzC gt f1) : Met l yX2_takeBack wsX2_takeBack ({ frames := 1, cells := 0, slots := 0, locals := 40 }) (va_Pc [.ref a0, .ref t0] (Pre D K [(a0, .inr (2, [.ref a2, .int dr, .int kp])), (a2, .inl (K 0, 476, .inl f)), (t0, .inr (9, [.ref t1, k_1, .ref t2, k_3, k_4, k_5, k_6, .int fi, k_8, k_9])), (t1, .inl (K 0, 56, .inl f1)), (t2, .inl (K 0, 6, .inl f2))] sz)) (va_Qi (S := Su) (fun (r : Int32) (u : Su) => (0 ≤ (u.2.2.2.1 0).toInt ∧ (u.2.2.2.1 0).toInt ≤ 16) ∧ (0 ≤ (u.2.2.2.1 1).toInt ∧ (u.2.2.2.1 1).toInt ≤ 15) ∧ (FzC gt (u.2.1 0)) ∧ ((r, (u.2.2.2.1 0), (u.2.2.2.1 1), (u.2.2.2.1 2), (u.2.1 0), (u.2.1 1)) = E_w_takeBack dr kp f fi f1 f2) ∧ True) (fun u t => Wd D (va_A [(a0, .inr (2, [.ref a2, .int dr, .int kp])), (a2, .inl (K 0, 476, .inl f)), (t0, .inr (9, [.ref t1, k_1, .ref t2, k_3, k_4, k_5, k_6, .int fi, k_8, k_9])), (t1, .inl (K 0, 56, .inl f1)), (t2, .inl (K 0, 6, .inl f2))] sz) ((fun u => [(a0, .inr (2, [.ref a2, .int (u.2.2.2.1 0), .int (u.2.2.2.1 1)])), (a2, .inl (K 0, 476, .inl f)), (t0, .inr (9, [.ref t1, k_1, .ref t2, k_3, k_4, k_5, k_6, .int (u.2.2.2.1 2), k_8, k_9])), (t1, .inl (K 0, 56, .inl (u.2.1 0))), (t2, .inl (K 0, 6, .inl (u.2.1 1)))]) u) t) (va_A [(a0, .inr (2, [.ref a2, .int dr, .int kp])), (a2, .inl (K 0, 476, .inl f)), (t0, .inr (9, [.ref t1, k_1, .ref t2, k_3, k_4, k_5, k_6, .int fi, k_8, k_9])), (t1, .inl (K 0, 56, .inl f1)), (t2, .inl (K 0, 6, .inl f2))] sz)) 0 0 (va_A [(a0, .inr (2, [.ref a2, .int dr, .int kp])), (a2, .inl (K 0, 476, .inl f)), (t0, .inr (9, [.ref t1, k_1, .ref t2, k_3, k_4, k_5, k_6, .int fi, k_8, k_9])), (t1, .inl (K 0, 56, .inl f1)), (t2, .inl (K 0, 6, .inl f2))] sz) := by
  refine Met.ofW (cc := cX2_takeBack) (maxL := 4) (ret := (some .int)) (by decide +kernel) rfl ?_
  intro p e s m args below meth c s₁ B hml hv
  obtain ⟨rfl, hsz, hP, hK, hD0, hN⟩ := hv
  have hx := B.exec
  have hb := B.bytes
  have hr := B.returns
  have hts := atoms_spec (ws := wsX2_takeBack) B.pre
  have hown : s.vm.findClass RX2 = some m.cls := findClass_of_methodNamed B.named
  have hlocks := B.notSynchronized
  subst hsz
  have hD := hD0.self (sz := s.heap.size)
  generalize hAe : va_A [(a0, .inr (2, [.ref a2, .int dr, .int kp])), (a2, .inl (K 0, 476, .inl f)), (t0, .inr (9, [.ref t1, k_1, .ref t2, k_3, k_4, k_5, k_6, .int fi, k_8, k_9])), (t1, .inl (K 0, 56, .inl f1)), (t2, .inl (K 0, 6, .inl f2))] s.heap.size = A at hD ⊢
  have hA : ∀ q : Nat, s.heap.size ≤ q → A q := fun q h => by rw [← hAe]; exact Or.inr h
  clear hAe
  have hS : va_S A s.heap s.heap [] := va_S.rf
  replace hP : va_P D vwCl [(a0, .inr (2, [.ref a2, .int dr, .int kp])), (a2, .inl (K 0, 476, .inl f)), (t0, .inr (9, [.ref t1, k_1, .ref t2, k_3, k_4, k_5, k_6, .int fi, k_8, k_9])), (t1, .inl (K 0, 56, .inl f1)), (t2, .inl (K 0, 6, .inl f2))] s.heap := hP
  have hl := lv_entry [.ref a0, .ref t0] (n := 4) (Nat.le_of_ble_eq_true rfl)
  rw [lg_entry_eq]
  generalize (lg_sl [.ref a0, .ref t0] ++ List.replicate (4 - (lg_sl [.ref a0, .ref t0]).length) Slot.unset).toArray = ls at hl ⊢
  have hl : lv_has ls 4 [(0, .ref a0), (1, .ref t0)] := hl
  have hw2 : ∀ w ∈ wsX20, w ∈ wsX2_takeBack := fun w h => (List.mem_cons_of_mem _ (List.mem_append_left _ (List.mem_append_right _ h)))
  have hw9 : ∀ w ∈ wsX90, w ∈ wsX2_takeBack := fun w h => (List.mem_cons_of_mem _ (List.mem_append_right _ h))
  generalize hQ : MQ below _ _ s _ _ _ = Q
  have hE := E_w_takeBack.eq_def dr kp f fi f1 f2
  refine lv_aload_n hx hb dX2_takeBack_0 rfl (lv_at hl 0 rfl) ?_
  refine va_get (ci := 2) (v := .int kp) (C := RX2) (T := TX2) (N := 3) hx hb hts hw2 hown hK hP 0 rfl rfl 2 (by decide +kernel) (hts _ mm_X2_takeBack_280) (fun _ h9 => h9) rfl dX2_takeBack_1 ?_
  refine lv_if_ne (tgt := 9) hx hb dX2_takeBack_4 (by decide +kernel) (fun c_347 => ?_) (fun c_347 => ?_)
  · have c_347i := i_ne (x := kp.toInt) (y := 0) rfl rfl c_347
    replace hE := hE.trans (if_neg c_347)
    refine lv_aload_n hx hb dX2_takeBack_9 rfl (lv_at hl 0 rfl) ?_
    refine lv_dup hx hb dX2_takeBack_10 rfl ?_
    refine va_get (ci := 2) (v := .int kp) (C := RX2) (T := TX2) (N := 3) hx hb hts hw2 hown hK hP 0 rfl rfl 2 (by decide +kernel) (hts _ mm_X2_takeBack_280) (fun _ h9 => h9) rfl dX2_takeBack_11 ?_
    refine lv_iconst (v := 1) hx hb dX2_takeBack_14 (by decide +kernel) ?_
    refine lv_isub hx hb dX2_takeBack_15 ?_
    refine lv_topi (fun x_348 ex_348 => ?_)
    replace hE := hE.trans (Lt_in ex_348)
    have hx_348 : x_348.toInt = (kp.toInt - 1) := by rw [ex_348]; exact i_sub rfl (show (1 : Int32).toInt = 1 from rfl) (by omega)
    refine va_put (ci := 2) (v := .int x_348) (ty := .int) (C := RX2) (T := TX2) (N := 3) hx hb hts hw2 tyX2 tyX2_ok nmX2 hown hK hP hD hS 0 rfl rfl 2 (by decide +kernel) (hts _ mm_X2_takeBack_280) (fun _ h9 => h9) rfl (by decide +kernel) (by first | rfl | decide) (by first | rfl | decide) (Nat.le_of_ble_eq_true rfl) dX2_takeBack_16 (fun H locs hP0 hD0 hS0 => ?_)
    clear hP hD hS
    have hP := hP0
    have hD := hD0
    have hS := hS0
    clear hP0 hD0 hS0
    replace hP : va_P D vwCl [(a0, .inr (2, [.ref a2, .int dr, .int x_348])), (a2, .inl (K 0, 476, .inl f)), (t0, .inr (9, [.ref t1, k_1, .ref t2, k_3, k_4, k_5, k_6, .int fi, k_8, k_9])), (t1, .inl (K 0, 56, .inl f1)), (t2, .inl (K 0, 6, .inl f2))] H := hP
    replace hD : va_D A [(a0, .inr (2, [.ref a2, .int dr, .int x_348])), (a2, .inl (K 0, 476, .inl f)), (t0, .inr (9, [.ref t1, k_1, .ref t2, k_3, k_4, k_5, k_6, .int fi, k_8, k_9])), (t1, .inl (K 0, 56, .inl f1)), (t2, .inl (K 0, 6, .inl f2))] := hD
    refine lv_aload_n hx hb dX2_takeBack_19 rfl (lv_at hl 0 rfl) ?_
    refine lv_aload_n hx hb dX2_takeBack_20 rfl (lv_at hl 0 rfl) ?_
    refine va_get (ci := 2) (v := .int dr) (C := RX2) (T := TX2) (N := 3) hx hb hts hw2 hown hK hP 0 rfl rfl 1 (by decide +kernel) (hts _ mm_X2_takeBack_279) (fun _ h9 => h9) rfl dX2_takeBack_21 ?_
    refine lv_bipush (v := 17) hx hb dX2_takeBack_24 (by decide +kernel) ?_
    refine lv_iadd hx hb dX2_takeBack_26 ?_
    refine lv_topi (fun x_349 ex_349 => ?_)
    replace hE := hE.trans (Lt_in ex_349)
    have hx_349 : x_349.toInt = (dr.toInt + 17) := by rw [ex_349]; exact i_add rfl (show (17 : Int32).toInt = 17 from rfl) (by omega)
    refine lv_iconst (v := 1) hx hb dX2_takeBack_27 (by decide +kernel) ?_
    refine lv_isub hx hb dX2_takeBack_28 ?_
    refine lv_topi (fun x_350 ex_350 => ?_)
    replace hE := hE.trans (Lt_in ex_350)
    have hx_350 : x_350.toInt = ((dr.toInt + 17) - 1) := by rw [ex_350]; exact i_sub hx_349 (show (1 : Int32).toInt = 1 from rfl) (by omega)
    refine lv_bipush (v := 17) hx hb dX2_takeBack_29 (by decide +kernel) ?_
    refine lv_irem hx hb dX2_takeBack_31 (by decide +kernel) ?_
    refine lv_topi (fun x_351 ex_351 => ?_)
    replace hE := hE.trans (Lt_in ex_351)
    have hx_351 : x_351.toInt = (((dr.toInt + 17) - 1) % 17) := by rw [ex_351]; exact i_rem hx_350 (show (17 : Int32).toInt = 17 from rfl) (by omega) (by omega)
    refine va_put (ci := 2) (v := .int x_351) (ty := .int) (C := RX2) (T := TX2) (N := 3) hx hb hts hw2 tyX2 tyX2_ok nmX2 hown hK hP hD hS 0 rfl rfl 1 (by decide +kernel) (hts _ mm_X2_takeBack_279) (fun _ h9 => h9) rfl (by decide +kernel) (by first | rfl | decide) (by first | rfl | decide) (Nat.le_of_ble_eq_true rfl) dX2_takeBack_32 (fun H locs hP0 hD0 hS0 => ?_)
    clear hP hD hS
    have hP := hP0
    have hD := hD0
    have hS := hS0
    clear hP0 hD0 hS0
    replace hP : va_P D vwCl [(a0, .inr (2, [.ref a2, .int x_351, .int x_348])), (a2, .inl (K 0, 476, .inl f)), (t0, .inr (9, [.ref t1, k_1, .ref t2, k_3, k_4, k_5, k_6, .int fi, k_8, k_9])), (t1, .inl (K 0, 56, .inl f1)), (t2, .inl (K 0, 6, .inl f2))] H := hP
    replace hD : va_D A [(a0, .inr (2, [.ref a2, .int x_351, .int x_348])), (a2, .inl (K 0, 476, .inl f)), (t0, .inr (9, [.ref t1, k_1, .ref t2, k_3, k_4, k_5, k_6, .int fi, k_8, k_9])), (t1, .inl (K 0, 56, .inl f1)), (t2, .inl (K 0, 6, .inl f2))] := hD
    refine lv_aload_n hx hb dX2_takeBack_35 rfl (lv_at hl 0 rfl) ?_
    refine va_get (ci := 2) (v := .int x_351) (C := RX2) (T := TX2) (N := 3) hx hb hts hw2 hown hK hP 0 rfl rfl 1 (by decide +kernel) (hts _ mm_X2_takeBack_279) (fun _ h9 => h9) rfl dX2_takeBack_36 ?_
    refine lv_bipush (v := 28) hx hb dX2_takeBack_39 (by decide +kernel) ?_
    refine lv_imul hx hb dX2_takeBack_41 ?_
    refine lv_topi (fun x_352 ex_352 => ?_)
    replace hE := hE.trans (Lt_in ex_352)
    have hx_352 : x_352.toInt = ((((dr.toInt + 17) - 1) % 17) * 28) := by rw [ex_352]; exact i_mul hx_351 (show (28 : Int32).toInt = 28 from rfl) (by omega)
    refine lv_istore_n (lv' := [(2, .int x_352), (0, .ref a0), (1, .ref t0)]) hx hb dX2_takeBack_42 rfl hl (by decide +kernel) rfl (fun ls hl => ?_)
    refine lv_aload_n hx hb dX2_takeBack_43 rfl (lv_at hl 2 rfl) ?_
    refine lv_aload_n hx hb dX2_takeBack_44 rfl (lv_at hl 1 rfl) ?_
    refine va_get (ci := 2) (v := .ref a2) (C := RX2) (T := TX2) (N := 3) hx hb hts hw2 hown hK hP 0 rfl rfl 0 (by decide +kernel) (hts _ mm_X2_takeBack_278) (fun _ h9 => h9) rfl dX2_takeBack_45 ?_
    refine lv_iload_n hx hb dX2_takeBack_48 rfl (lv_at hl 0 rfl) ?_
    refine lv_iconst (v := 1) hx hb dX2_takeBack_49 (by decide +kernel) ?_
    refine lv_iadd hx hb dX2_takeBack_50 ?_
    refine lv_topi (fun x_353 ex_353 => ?_)
    replace hE := hE.trans (Lt_in ex_353)
    have hx_353 : x_353.toInt = (((((dr.toInt + 17) - 1) % 17) * 28) + 1) := by rw [ex_353]; exact i_add hx_352 (show (1 : Int32).toInt = 1 from rfl) (by omega)
    refine va_iald hx hb hK hP 1 0 rfl rfl (i_in hx_353 (by omega)) dX2_takeBack_51 ?_
    refine lv_topi (fun x_354 ex_354 => ?_)
    replace hE := hE.trans (Lt_in ex_354)
    refine va_putN (ci := 9) (v := .int x_354) (ty := .int) (C := RX9) (T := TX9) (N := 10) hx hb hts hw9 tyX9 tyX9_ok nmX9 hown hK hP hD hS 2 rfl rfl 7 (by decide +kernel) (nst_use hN 113 rfl) (fun _ h9 => h9) rfl (by decide +kernel) (by first | rfl | decide) (by first | rfl | decide) (Nat.le_of_ble_eq_true rfl) dX2_takeBack_52 (fun H locs hP0 hD0 hS0 => ?_)
    clear hP hD hS
    have hP := hP0
    have hD := hD0
    have hS := hS0
    clear hP0 hD0 hS0
    replace hP : va_P D vwCl [(a0, .inr (2, [.ref a2, .int x_351, .int x_348])), (a2, .inl (K 0, 476, .inl f)), (t0, .inr (9, [.ref t1, k_1, .ref t2, k_3, k_4, k_5, k_6, .int x_354, k_8, k_9])), (t1, .inl (K 0, 56, .inl f1)), (t2, .inl (K 0, 6, .inl f2))] H := hP
    replace hD : va_D A [(a0, .inr (2, [.ref a2, .int x_351, .int x_348])), (a2, .inl (K 0, 476, .inl f)), (t0, .inr (9, [.ref t1, k_1, .ref t2, k_3, k_4, k_5, k_6, .int x_354, k_8, k_9])), (t1, .inl (K 0, 56, .inl f1)), (t2, .inl (K 0, 6, .inl f2))] := hD
    refine lv_aload_n hx hb dX2_takeBack_55 rfl (lv_at hl 2 rfl) ?_
    refine va_getN (ci := 9) (v := .ref t2) (C := RX9) (T := TX9) (N := 10) hx hb hts hw9 hown hK hP 2 rfl rfl 2 (by decide +kernel) (nst_use hN 102 rfl) (fun _ h9 => h9) rfl dX2_takeBack_56 ?_
    refine lv_iconst (v := 0) hx hb dX2_takeBack_59 (by decide +kernel) ?_
    refine lv_aload_n hx hb dX2_takeBack_60 rfl (lv_at hl 1 rfl) ?_
    refine va_get (ci := 2) (v := .ref a2) (C := RX2) (T := TX2) (N := 3) hx hb hts hw2 hown hK hP 0 rfl rfl 0 (by decide +kernel) (hts _ mm_X2_takeBack_278) (fun _ h9 => h9) rfl dX2_takeBack_61 ?_
    refine lv_iload_n hx hb dX2_takeBack_64 rfl (lv_at hl 0 rfl) ?_
    refine lv_iconst (v := 2) hx hb dX2_takeBack_65 (by decide +kernel) ?_
    refine lv_iadd hx hb dX2_takeBack_66 ?_
    refine lv_topi (fun x_355 ex_355 => ?_)
    replace hE := hE.trans (Lt_in ex_355)
    have hx_355 : x_355.toInt = (((((dr.toInt + 17) - 1) % 17) * 28) + 2) := by rw [ex_355]; exact i_add hx_352 (show (2 : Int32).toInt = 2 from rfl) (by omega)
    refine va_iald hx hb hK hP 1 0 rfl rfl (i_in hx_355 (by omega)) dX2_takeBack_67 ?_
    refine lv_topi (fun x_356 ex_356 => ?_)
    replace hE := hE.trans (Lt_in ex_356)
    refine va_iast hx hb hK hP hD hS 4 0 rfl rfl (i_in (x := 0) rfl (by omega)) dX2_takeBack_68 (fun H locs hP0 hD0 hS0 => ?_)
    clear hP hD hS
    have hP := hP0
    have hD := hD0
    have hS := hS0
    clear hP0 hD0 hS0
    generalize hf_357 : (upd f2 (0 : Int32).toNatClampNeg x_356) = f_357 at hP hD
    replace hE := hE.trans (Lt_in hf_357.symm)
    replace hP : va_P D vwCl [(a0, .inr (2, [.ref a2, .int x_351, .int x_348])), (a2, .inl (K 0, 476, .inl f)), (t0, .inr (9, [.ref t1, k_1, .ref t2, k_3, k_4, k_5, k_6, .int x_354, k_8, k_9])), (t1, .inl (K 0, 56, .inl f1)), (t2, .inl (K 0, 6, .inl f_357))] H := hP
    replace hD : va_D A [(a0, .inr (2, [.ref a2, .int x_351, .int x_348])), (a2, .inl (K 0, 476, .inl f)), (t0, .inr (9, [.ref t1, k_1, .ref t2, k_3, k_4, k_5, k_6, .int x_354, k_8, k_9])), (t1, .inl (K 0, 56, .inl f1)), (t2, .inl (K 0, 6, .inl f_357))] := hD
    refine lv_aload_n hx hb dX2_takeBack_69 rfl (lv_at hl 2 rfl) ?_
    refine va_getN (ci := 9) (v := .ref t2) (C := RX9) (T := TX9) (N := 10) hx hb hts hw9 hown hK hP 2 rfl rfl 2 (by decide +kernel) (nst_use hN 102 rfl) (fun _ h9 => h9) rfl dX2_takeBack_70 ?_
    refine lv_iconst (v := 1) hx hb dX2_takeBack_73 (by decide +kernel) ?_
    refine lv_aload_n hx hb dX2_takeBack_74 rfl (lv_at hl 1 rfl) ?_
    refine va_get (ci := 2) (v := .ref a2) (C := RX2) (T := TX2) (N := 3) hx hb hts hw2 hown hK hP 0 rfl rfl 0 (by decide +kernel) (hts _ mm_X2_takeBack_278) (fun _ h9 => h9) rfl dX2_takeBack_75 ?_
    refine lv_iload_n hx hb dX2_takeBack_78 rfl (lv_at hl 0 rfl) ?_
    refine lv_iconst (v := 3) hx hb dX2_takeBack_79 (by decide +kernel) ?_
    refine lv_iadd hx hb dX2_takeBack_80 ?_
    refine lv_topi (fun x_358 ex_358 => ?_)
    replace hE := hE.trans (Lt_in ex_358)
    have hx_358 : x_358.toInt = (((((dr.toInt + 17) - 1) % 17) * 28) + 3) := by rw [ex_358]; exact i_add hx_352 (show (3 : Int32).toInt = 3 from rfl) (by omega)
    refine va_iald hx hb hK hP 1 0 rfl rfl (i_in hx_358 (by omega)) dX2_takeBack_81 ?_
    refine lv_topi (fun x_359 ex_359 => ?_)
    replace hE := hE.trans (Lt_in ex_359)
    refine va_iast hx hb hK hP hD hS 4 0 rfl rfl (i_in (x := 1) rfl (by omega)) dX2_takeBack_82 (fun H locs hP0 hD0 hS0 => ?_)
    clear hP hD hS
    have hP := hP0
    have hD := hD0
    have hS := hS0
    clear hP0 hD0 hS0
    generalize hf_360 : (upd f_357 (1 : Int32).toNatClampNeg x_359) = f_360 at hP hD
    replace hE := hE.trans (Lt_in hf_360.symm)
    replace hP : va_P D vwCl [(a0, .inr (2, [.ref a2, .int x_351, .int x_348])), (a2, .inl (K 0, 476, .inl f)), (t0, .inr (9, [.ref t1, k_1, .ref t2, k_3, k_4, k_5, k_6, .int x_354, k_8, k_9])), (t1, .inl (K 0, 56, .inl f1)), (t2, .inl (K 0, 6, .inl f_360))] H := hP
    replace hD : va_D A [(a0, .inr (2, [.ref a2, .int x_351, .int x_348])), (a2, .inl (K 0, 476, .inl f)), (t0, .inr (9, [.ref t1, k_1, .ref t2, k_3, k_4, k_5, k_6, .int x_354, k_8, k_9])), (t1, .inl (K 0, 56, .inl f1)), (t2, .inl (K 0, 6, .inl f_360))] := hD
    refine lv_iconst (v := 0) hx hb dX2_takeBack_83 (by decide +kernel) ?_
    refine lv_istore_n (lv' := [(3, .int 0), (2, .int x_352), (0, .ref a0), (1, .ref t0)]) hx hb dX2_takeBack_84 rfl hl (by decide +kernel) rfl (fun ls hl => ?_)
    have lp_469 : ∀ (nn_ : Nat) (v_429 : Int32) (f_430 : Nat → Int32) (hv_429 : 0 ≤ v_429.toInt ∧ v_429.toInt ≤ 3) (hf_430_0 : FzC gt f_430) (hn : (4 - v_429.toInt : Int).toNat < nn_) (hE : E_w_takeBack dr kp f fi f1 f2 = Lp (α := Int32 → (Nat → Int32) → (Int32 × Int32 × Int32 × Int32 × (Nat → Int32) × (Nat → Int32))) (E_w_takeBack_l85 f x_348 x_351 x_352 x_354 f_360) (fun _ _ => ((0, 0, 0, 0, fun _ => 0, fun _ => 0) : Int32 × Int32 × Int32 × Int32 × (Nat → Int32) × (Nat → Int32))) nn_ v_429 f_430) (H : Heap) (locs : List Loc) (hP : va_P D vwCl [(a0, .inr (2, [.ref a2, .int x_351, .int x_348])), (a2, .inl (K 0, 476, .inl f)), (t0, .inr (9, [.ref t1, k_1, .ref t2, k_3, k_4, k_5, k_6, .int x_354, k_8, k_9])), (t1, .inl (K 0, 56, .inl f_430)), (t2, .inl (K 0, 6, .inl f_360))] H) (hD : va_D A [(a0, .inr (2, [.ref a2, .int x_351, .int x_348])), (a2, .inl (K 0, 476, .inl f)), (t0, .inr (9, [.ref t1, k_1, .ref t2, k_3, k_4, k_5, k_6, .int x_354, k_8, k_9])), (t1, .inl (K 0, 56, .inl f_430)), (t2, .inl (K 0, 6, .inl f_360))]) (hS : va_S A s.heap H locs) (ls : Array Slot) (hl : lv_has ls 4 [(3, .int v_429), (2, .int x_352), (0, .ref a0), (1, .ref t0)]), W p l e ({ frames := 1, cells := 0, slots := 0, locals := 40 }) s m (([.ref a0, .ref t0] : List Value).toArray) below meth c H locs 0 0 Q (F0 m 85 ls []) := by
      clear hE hP hD hS hl
      intro nn_
      induction nn_ with
      | zero =>
        intro v_429 f_430 hv_429 hf_430_0 hn hE H locs hP hD hS ls hl
        exact absurd hn (Nat.not_lt_zero _)
      | succ nn_ ih_470 =>
        intro v_429 f_430 hv_429 hf_430_0 hn hE H locs hP hD hS ls hl
        replace hE : E_w_takeBack dr kp f fi f1 f2 = E_w_takeBack_l85 f x_348 x_351 x_352 x_354 f_360 (Lp (α := Int32 → (Nat → Int32) → (Int32 × Int32 × Int32 × Int32 × (Nat → Int32) × (Nat → Int32))) (E_w_takeBack_l85 f x_348 x_351 x_352 x_354 f_360) (fun _ _ => ((0, 0, 0, 0, fun _ => 0, fun _ => 0) : Int32 × Int32 × Int32 × Int32 × (Nat → Int32) × (Nat → Int32))) nn_) v_429 f_430 := hE
        obtain ⟨rec_469, hrec_469⟩ : ∃ z9, z9 = Lp (α := Int32 → (Nat → Int32) → (Int32 × Int32 × Int32 × Int32 × (Nat → Int32) × (Nat → Int32))) (E_w_takeBack_l85 f x_348 x_351 x_352 x_354 f_360) (fun _ _ => ((0, 0, 0, 0, fun _ => 0, fun _ => 0) : Int32 × Int32 × Int32 × Int32 × (Nat → Int32) × (Nat → Int32))) nn_ := ⟨_, rfl⟩
        rw [← hrec_469] at hE
        replace hE := hE.trans (E_w_takeBack_l85.eq_def _ _ _ _ _ _ _ _ _)
        refine lv_iload_n hx hb dX2_takeBack_85 rfl (lv_at hl 0 rfl) ?_
        refine lv_iconst (v := 3) hx hb dX2_takeBack_86 (by decide +kernel) ?_
        refine lv_icmp_ge (tgt := 124) hx hb dX2_takeBack_87 (by decide +kernel) (fun c_471 => ?_) (fun c_471 => ?_)
        · have c_471i := i_le (x := 3) (y := v_429.toInt) rfl rfl c_471
          replace hE := hE.trans (if_pos c_471)
          refine lv_aload_n hx hb dX2_takeBack_124 rfl (lv_at hl 2 rfl) ?_
          refine va_get (ci := 2) (v := .ref a2) (C := RX2) (T := TX2) (N := 3) hx hb hts hw2 hown hK hP 0 rfl rfl 0 (by decide +kernel) (hts _ mm_X2_takeBack_278) (fun _ h9 => h9) rfl dX2_takeBack_125 ?_
          refine lv_iload_n hx hb dX2_takeBack_128 rfl (lv_at hl 1 rfl) ?_
          refine va_iald hx hb hK hP 1 0 rfl rfl (i_in hx_352 (by omega)) dX2_takeBack_129 ?_
          refine lv_topi (fun x_472 ex_472 => ?_)
          replace hE := hE.trans (Lt_in ex_472)
          rw [← hQ]
          have hP9 := hP.sub (ws' := [(a0, .inr (2, [.ref a2, .int x_351, .int x_348])), (a2, .inl (K 0, 476, .inl f)), (t0, .inr (9, [.ref t1, k_1, .ref t2, k_3, k_4, k_5, k_6, .int x_354, k_8, k_9])), (t1, .inl (K 0, 56, .inl f_430)), (t2, .inl (K 0, 6, .inl f_360))]) [0, 1, 2, 3, 4] rfl
          have hD9 := hD.sub (ws' := [(a0, .inr (2, [.ref a2, .int x_351, .int x_348])), (a2, .inl (K 0, 476, .inl f)), (t0, .inr (9, [.ref t1, k_1, .ref t2, k_3, k_4, k_5, k_6, .int x_354, k_8, k_9])), (t1, .inl (K 0, 56, .inl f_430)), (t2, .inl (K 0, 6, .inl f_360))]) [0, 1, 2, 3, 4] (by decide +kernel) rfl
          exact W.iret (v := x_472) hx hb hr (fun t ht hW => ⟨⟨x_472, ((fun _ => 0, fun i => match i with | 0 => f_430 | _ => f_360, fun _ => fun _ => 0, fun i => match i with | 0 => x_351 | 1 => x_348 | _ => x_354, fun _ => 0, fun _ => fun _ => none) : Su), rfl, ⟨(show 0 ≤ (x_351 : Int32).toInt ∧ (x_351 : Int32).toInt ≤ 16 by rw [hx_351]; omega), (show 0 ≤ (x_348 : Int32).toInt ∧ (x_348 : Int32).toInt ≤ 15 by rw [hx_348]; omega), hf_430_0, hE.symm, trivial⟩, (⟨by rw [ht]; exact hP9, hD9⟩ : Wd D A _ t)⟩, hS.F ht⟩) hS.2.2 dX2_takeBack_130
        · have c_471i := i_nle (x := 3) (y := v_429.toInt) rfl rfl c_471
          replace hE := hE.trans (if_neg c_471)
          refine lv_aload_n hx hb dX2_takeBack_90 rfl (lv_at hl 2 rfl) ?_
          refine va_get (ci := 2) (v := .ref a2) (C := RX2) (T := TX2) (N := 3) hx hb hts hw2 hown hK hP 0 rfl rfl 0 (by decide +kernel) (hts _ mm_X2_takeBack_278) (fun _ h9 => h9) rfl dX2_takeBack_91 ?_
          refine lv_iload_n hx hb dX2_takeBack_94 rfl (lv_at hl 1 rfl) ?_
          refine lv_iconst (v := 4) hx hb dX2_takeBack_95 (by decide +kernel) ?_
          refine lv_iadd hx hb dX2_takeBack_96 ?_
          refine lv_topi (fun x_473 ex_473 => ?_)
          replace hE := hE.trans (Lt_in ex_473)
          have hx_473 : x_473.toInt = (((((dr.toInt + 17) - 1) % 17) * 28) + 4) := by rw [ex_473]; exact i_add hx_352 (show (4 : Int32).toInt = 4 from rfl) (by omega)
          refine lv_iload_n hx hb dX2_takeBack_97 rfl (lv_at hl 0 rfl) ?_
          refine lv_bipush (v := 8) hx hb dX2_takeBack_98 (by decide +kernel) ?_
          refine lv_imul hx hb dX2_takeBack_100 ?_
          refine lv_topi (fun x_474 ex_474 => ?_)
          replace hE := hE.trans (Lt_in ex_474)
          have hx_474 : x_474.toInt = (v_429.toInt * 8) := by rw [ex_474]; exact i_mul rfl (show (8 : Int32).toInt = 8 from rfl) (by omega)
          refine lv_iadd hx hb dX2_takeBack_101 ?_
          refine lv_topi (fun x_475 ex_475 => ?_)
          replace hE := hE.trans (Lt_in ex_475)
          have hx_475 : x_475.toInt = ((((((dr.toInt + 17) - 1) % 17) * 28) + 4) + (v_429.toInt * 8)) := by rw [ex_475]; exact i_add hx_473 hx_474 (by omega)
          refine lv_aload_n hx hb dX2_takeBack_102 rfl (lv_at hl 3 rfl) ?_
          refine va_getN (ci := 9) (v := .ref t1) (C := RX9) (T := TX9) (N := 10) hx hb hts hw9 hown hK hP 2 rfl rfl 0 (by decide +kernel) (nst_use hN 97 rfl) (fun _ h9 => h9) rfl dX2_takeBack_103 ?_
          refine lv_iload_n hx hb dX2_takeBack_106 rfl (lv_at hl 0 rfl) ?_
          refine pci (va_runS (As := [.int v_429]) (rest := [.ref t1, .int x_475, .ref a2]) ⟨hx, hb, hml, hown, hts⟩ (w_changingX l D K v_429.toInt v_429 H.size rfl) (va_cwS 1 hts gX2_takeBack_X2_changing rfl rfl rfl (by decide +kernel) ⟨Nat.le_of_ble_eq_true rfl, Nat.le_of_ble_eq_true rfl⟩) (mkS hK hN (va_P.nil) (va_D.nil (A := fun _ => True))) rfl rfl hl.1 rfl (lv_room (Nat.le_of_ble_eq_true rfl)) dX2_takeBack_107 ⟨Nat.le_of_ble_eq_true rfl, Nat.le_of_ble_eq_true rfl⟩) (fun r_476 hw => ?_)
          obtain ⟨hw, k_477, -⟩ := hw
          replace hE := hE.trans (Lt_in k_477)
          rcases hw with ⟨rfl, h_478⟩ | ⟨rfl, h_479⟩ | ⟨rfl, h_480⟩
          · replace hE := (hE).trans (if_pos rfl)
            refine lv_bipush (v := 8) hx hb dX2_takeBack_110 (by decide +kernel) ?_
            refine lv_imul hx hb dX2_takeBack_112 ?_
            refine lv_topi (fun x_481 ex_481 => ?_)
            obtain rfl : x_481 = 16 := ex_481.trans (by first | rfl | decide)
            refine lv_bipush (v := 8) hx hb dX2_takeBack_113 (by decide +kernel) ?_
            refine va_copyi hx hb (hml.trans hl.1.symm) hown (hts _ mm_X2_takeBack_586) (hts _ mm_X2_takeBack_571) (hts _ mm_X2_takeBack_570) (hts _ mm_X2_takeBack_163) hK hP hD hS 1 3 0 0 rfl rfl rfl rfl rfl (fun h9 => by have h8 := i_lt (x := ((((((dr.toInt + 17) - 1) % 17) * 28) + 4) + (v_429.toInt * 8))) (y := 0) hx_475 rfl h9; omega) (by decide +kernel) (by decide +kernel) (by rw [i_clamp hx_475, i_clamp (show (8 : Int32).toInt = 8 from rfl)]; omega) (by decide +kernel) (fun _ _ => rfl) (Nat.le_of_ble_eq_true rfl) (by decide +kernel) dX2_takeBack_115 (fun H locs hP0 hD0 hS0 => ?_)
            clear hP hD hS
            have hP := hP0
            have hD := hD0
            have hS := hS0
            clear hP0 hD0 hS0
            generalize hf_482 : (va_cpy (α := Int32) f f_430 (x_475 : Int32).toNatClampNeg (16 : Int32).toNatClampNeg (8 : Int32).toNatClampNeg) = f_482 at hP hD
            replace hE := hE.trans (Lt_in hf_482.symm)
            have hf_482_0 : FzC gt f_482 := by rw [← hf_482]; exact (FzC.cpy hf_430_0 (show (16 : Int32).toInt = 16 from rfl) (show (8 : Int32).toInt = 8 from rfl) (by omega))
            replace hP : va_P D vwCl [(a0, .inr (2, [.ref a2, .int x_351, .int x_348])), (a2, .inl (K 0, 476, .inl f)), (t0, .inr (9, [.ref t1, k_1, .ref t2, k_3, k_4, k_5, k_6, .int x_354, k_8, k_9])), (t1, .inl (K 0, 56, .inl f_482)), (t2, .inl (K 0, 6, .inl f_360))] H := hP
            replace hD : va_D A [(a0, .inr (2, [.ref a2, .int x_351, .int x_348])), (a2, .inl (K 0, 476, .inl f)), (t0, .inr (9, [.ref t1, k_1, .ref t2, k_3, k_4, k_5, k_6, .int x_354, k_8, k_9])), (t1, .inl (K 0, 56, .inl f_482)), (t2, .inl (K 0, 6, .inl f_360))] := hD
            obtain ⟨x_483, ex_483⟩ : ∃ y : Int32, y = v_429 + Int32.ofInt 1 := ⟨_, rfl⟩
            replace hE := hE.trans (Lt_in ex_483)
            have hx_483 : x_483.toInt = (v_429.toInt + 1) := by rw [ex_483]; exact i_add rfl (show (Int32.ofInt 1).toInt = 1 from rfl) (by omega)
            refine lv_iinc (v := x_483) (lv' := [(3, .int x_483), (2, .int x_352), (0, .ref a0), (1, .ref t0)]) hx hb dX2_takeBack_118 hl (k := 0) rfl (by rw [ex_483]) (by decide +kernel) rfl (fun ls hl => ?_)
            refine lv_goto (tgt := 85) hx hb dX2_takeBack_121 (by decide +kernel) ?_
            exact ih_470 x_483 f_482 (by rw [hx_483]; omega) hf_482_0 (by omega) (hE.trans (by rw [hrec_469])) _ _ hP hD hS ls (lv_sub hl [0, 1, 2, 3] rfl)
          · replace hE := ((hE).trans (if_neg (by first | decide | (intro h9; have h8 := congrArg Int32.toInt h9; omega)))).trans (if_pos rfl)
            refine lv_bipush (v := 8) hx hb dX2_takeBack_110 (by decide +kernel) ?_
            refine lv_imul hx hb dX2_takeBack_112 ?_
            refine lv_topi (fun x_484 ex_484 => ?_)
            obtain rfl : x_484 = 40 := ex_484.trans (by first | rfl | decide)
            refine lv_bipush (v := 8) hx hb dX2_takeBack_113 (by decide +kernel) ?_
            refine va_copyi hx hb (hml.trans hl.1.symm) hown (hts _ mm_X2_takeBack_586) (hts _ mm_X2_takeBack_571) (hts _ mm_X2_takeBack_570) (hts _ mm_X2_takeBack_163) hK hP hD hS 1 3 0 0 rfl rfl rfl rfl rfl (fun h9 => by have h8 := i_lt (x := ((((((dr.toInt + 17) - 1) % 17) * 28) + 4) + (v_429.toInt * 8))) (y := 0) hx_475 rfl h9; omega) (by decide +kernel) (by decide +kernel) (by rw [i_clamp hx_475, i_clamp (show (8 : Int32).toInt = 8 from rfl)]; omega) (by decide +kernel) (fun _ _ => rfl) (Nat.le_of_ble_eq_true rfl) (by decide +kernel) dX2_takeBack_115 (fun H locs hP0 hD0 hS0 => ?_)
            clear hP hD hS
            have hP := hP0
            have hD := hD0
            have hS := hS0
            clear hP0 hD0 hS0
            generalize hf_485 : (va_cpy (α := Int32) f f_430 (x_475 : Int32).toNatClampNeg (40 : Int32).toNatClampNeg (8 : Int32).toNatClampNeg) = f_485 at hP hD
            replace hE := hE.trans (Lt_in hf_485.symm)
            have hf_485_0 : FzC gt f_485 := by rw [← hf_485]; exact (FzC.cpy hf_430_0 (show (40 : Int32).toInt = 40 from rfl) (show (8 : Int32).toInt = 8 from rfl) (by omega))
            replace hP : va_P D vwCl [(a0, .inr (2, [.ref a2, .int x_351, .int x_348])), (a2, .inl (K 0, 476, .inl f)), (t0, .inr (9, [.ref t1, k_1, .ref t2, k_3, k_4, k_5, k_6, .int x_354, k_8, k_9])), (t1, .inl (K 0, 56, .inl f_485)), (t2, .inl (K 0, 6, .inl f_360))] H := hP
            replace hD : va_D A [(a0, .inr (2, [.ref a2, .int x_351, .int x_348])), (a2, .inl (K 0, 476, .inl f)), (t0, .inr (9, [.ref t1, k_1, .ref t2, k_3, k_4, k_5, k_6, .int x_354, k_8, k_9])), (t1, .inl (K 0, 56, .inl f_485)), (t2, .inl (K 0, 6, .inl f_360))] := hD
            obtain ⟨x_486, ex_486⟩ : ∃ y : Int32, y = v_429 + Int32.ofInt 1 := ⟨_, rfl⟩
            replace hE := hE.trans (Lt_in ex_486)
            have hx_486 : x_486.toInt = (v_429.toInt + 1) := by rw [ex_486]; exact i_add rfl (show (Int32.ofInt 1).toInt = 1 from rfl) (by omega)
            refine lv_iinc (v := x_486) (lv' := [(3, .int x_486), (2, .int x_352), (0, .ref a0), (1, .ref t0)]) hx hb dX2_takeBack_118 hl (k := 0) rfl (by rw [ex_486]) (by decide +kernel) rfl (fun ls hl => ?_)
            refine lv_goto (tgt := 85) hx hb dX2_takeBack_121 (by decide +kernel) ?_
            exact ih_470 x_486 f_485 (by rw [hx_486]; omega) hf_485_0 (by omega) (hE.trans (by rw [hrec_469])) _ _ hP hD hS ls (lv_sub hl [0, 1, 2, 3] rfl)
          · replace hE := ((hE).trans (if_neg (by first | decide | (intro h9; have h8 := congrArg Int32.toInt h9; omega)))).trans (if_neg (by first | decide | (intro h9; have h8 := congrArg Int32.toInt h9; omega)))
            refine lv_bipush (v := 8) hx hb dX2_takeBack_110 (by decide +kernel) ?_
            refine lv_imul hx hb dX2_takeBack_112 ?_
            refine lv_topi (fun x_487 ex_487 => ?_)
            obtain rfl : x_487 = 48 := ex_487.trans (by first | rfl | decide)
            refine lv_bipush (v := 8) hx hb dX2_takeBack_113 (by decide +kernel) ?_
            refine va_copyi hx hb (hml.trans hl.1.symm) hown (hts _ mm_X2_takeBack_586) (hts _ mm_X2_takeBack_571) (hts _ mm_X2_takeBack_570) (hts _ mm_X2_takeBack_163) hK hP hD hS 1 3 0 0 rfl rfl rfl rfl rfl (fun h9 => by have h8 := i_lt (x := ((((((dr.toInt + 17) - 1) % 17) * 28) + 4) + (v_429.toInt * 8))) (y := 0) hx_475 rfl h9; omega) (by decide +kernel) (by decide +kernel) (by rw [i_clamp hx_475, i_clamp (show (8 : Int32).toInt = 8 from rfl)]; omega) (by decide +kernel) (fun _ _ => rfl) (Nat.le_of_ble_eq_true rfl) (by decide +kernel) dX2_takeBack_115 (fun H locs hP0 hD0 hS0 => ?_)
            clear hP hD hS
            have hP := hP0
            have hD := hD0
            have hS := hS0
            clear hP0 hD0 hS0
            generalize hf_488 : (va_cpy (α := Int32) f f_430 (x_475 : Int32).toNatClampNeg (48 : Int32).toNatClampNeg (8 : Int32).toNatClampNeg) = f_488 at hP hD
            replace hE := hE.trans (Lt_in hf_488.symm)
            have hf_488_0 : FzC gt f_488 := by rw [← hf_488]; exact (FzC.cpy hf_430_0 (show (48 : Int32).toInt = 48 from rfl) (show (8 : Int32).toInt = 8 from rfl) (by omega))
            replace hP : va_P D vwCl [(a0, .inr (2, [.ref a2, .int x_351, .int x_348])), (a2, .inl (K 0, 476, .inl f)), (t0, .inr (9, [.ref t1, k_1, .ref t2, k_3, k_4, k_5, k_6, .int x_354, k_8, k_9])), (t1, .inl (K 0, 56, .inl f_488)), (t2, .inl (K 0, 6, .inl f_360))] H := hP
            replace hD : va_D A [(a0, .inr (2, [.ref a2, .int x_351, .int x_348])), (a2, .inl (K 0, 476, .inl f)), (t0, .inr (9, [.ref t1, k_1, .ref t2, k_3, k_4, k_5, k_6, .int x_354, k_8, k_9])), (t1, .inl (K 0, 56, .inl f_488)), (t2, .inl (K 0, 6, .inl f_360))] := hD
            obtain ⟨x_489, ex_489⟩ : ∃ y : Int32, y = v_429 + Int32.ofInt 1 := ⟨_, rfl⟩
            replace hE := hE.trans (Lt_in ex_489)
            have hx_489 : x_489.toInt = (v_429.toInt + 1) := by rw [ex_489]; exact i_add rfl (show (Int32.ofInt 1).toInt = 1 from rfl) (by omega)
            refine lv_iinc (v := x_489) (lv' := [(3, .int x_489), (2, .int x_352), (0, .ref a0), (1, .ref t0)]) hx hb dX2_takeBack_118 hl (k := 0) rfl (by rw [ex_489]) (by decide +kernel) rfl (fun ls hl => ?_)
            refine lv_goto (tgt := 85) hx hb dX2_takeBack_121 (by decide +kernel) ?_
            exact ih_470 x_489 f_488 (by rw [hx_489]; omega) hf_488_0 (by omega) (hE.trans (by rw [hrec_469])) _ _ hP hD hS ls (lv_sub hl [0, 1, 2, 3] rfl)
    exact lp_469 ((4 - (0 : Int32).toInt : Int).toNat + 1) 0 f1 (by decide +kernel) zgt (Nat.lt_succ_self _) hE _ _ hP hD hS ls (lv_sub hl [0, 1, 2, 3] rfl)
  · have c_347i := i_eq (x := kp.toInt) (y := 0) rfl rfl c_347
    replace hE := hE.trans (if_pos c_347)
    refine lv_iconst (v := (-1)) hx hb dX2_takeBack_7 (by decide +kernel) ?_
    rw [← hQ]
    have hP9 := hP.sub (ws' := [(a0, .inr (2, [.ref a2, .int dr, .int kp])), (a2, .inl (K 0, 476, .inl f)), (t0, .inr (9, [.ref t1, k_1, .ref t2, k_3, k_4, k_5, k_6, .int fi, k_8, k_9])), (t1, .inl (K 0, 56, .inl f1)), (t2, .inl (K 0, 6, .inl f2))]) [0, 1, 2, 3, 4] rfl
    have hD9 := hD.sub (ws' := [(a0, .inr (2, [.ref a2, .int dr, .int kp])), (a2, .inl (K 0, 476, .inl f)), (t0, .inr (9, [.ref t1, k_1, .ref t2, k_3, k_4, k_5, k_6, .int fi, k_8, k_9])), (t1, .inl (K 0, 56, .inl f1)), (t2, .inl (K 0, 6, .inl f2))]) [0, 1, 2, 3, 4] (by decide +kernel) rfl
    exact W.iret (v := (-1)) hx hb hr (fun t ht hW => ⟨⟨(-1), ((fun _ => 0, fun i => match i with | 0 => f1 | _ => f2, fun _ => fun _ => 0, fun i => match i with | 0 => dr | 1 => kp | _ => fi, fun _ => 0, fun _ => fun _ => none) : Su), rfl, ⟨(show 0 ≤ (dr : Int32).toInt ∧ (dr : Int32).toInt ≤ 16 by omega), (show 0 ≤ (kp : Int32).toInt ∧ (kp : Int32).toInt ≤ 15 by omega), zgt, hE.symm, trivial⟩, (⟨by rw [ht]; exact hP9, hD9⟩ : Wd D A _ t)⟩, hS.F ht⟩) hS.2.2 dX2_takeBack_8
