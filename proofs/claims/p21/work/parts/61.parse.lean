theorem BX12_emit_0 : bsegs (ByteArray.data cX12_emit |>.toList.drop 0) 0 [(0, [42]), (1, [180, 0, 45]), (4, [42]), (5, [180, 1, 20]), (8, [27]), (9, [79]), (10, [42]), (11, [180, 0, 48]), (14, [42]), (15, [180, 1, 20]), (18, [28]), (19, [79]), (20, [42]), (21, [89]), (22, [180, 1, 20]), (25, [4]), (26, [96]), (27, [181, 1, 20]), (30, [177])] = true := by decide +kernel
theorem dX12_emit_0 : decode cX12_emit 0 = .ok (.aload_n 0, 1) := dk_42 (bs_at BX12_emit_0 0 rfl)
theorem dX12_emit_1 : decode cX12_emit 1 = .ok (.getfield 45, 3) := dk_180 0 45 (bs_at BX12_emit_0 1 rfl) rfl
theorem dX12_emit_4 : decode cX12_emit 4 = .ok (.aload_n 0, 1) := dk_42 (bs_at BX12_emit_0 2 rfl)
theorem dX12_emit_5 : decode cX12_emit 5 = .ok (.getfield 276, 3) := dk_180 1 20 (bs_at BX12_emit_0 3 rfl) rfl
theorem dX12_emit_8 : decode cX12_emit 8 = .ok (.iload_n 1, 1) := dk_27 (bs_at BX12_emit_0 4 rfl)
theorem dX12_emit_9 : decode cX12_emit 9 = .ok (.iastore, 1) := dk_79 (bs_at BX12_emit_0 5 rfl)
theorem dX12_emit_10 : decode cX12_emit 10 = .ok (.aload_n 0, 1) := dk_42 (bs_at BX12_emit_0 6 rfl)
theorem dX12_emit_11 : decode cX12_emit 11 = .ok (.getfield 48, 3) := dk_180 0 48 (bs_at BX12_emit_0 7 rfl) rfl
theorem dX12_emit_14 : decode cX12_emit 14 = .ok (.aload_n 0, 1) := dk_42 (bs_at BX12_emit_0 8 rfl)
theorem dX12_emit_15 : decode cX12_emit 15 = .ok (.getfield 276, 3) := dk_180 1 20 (bs_at BX12_emit_0 9 rfl) rfl
theorem dX12_emit_18 : decode cX12_emit 18 = .ok (.iload_n 2, 1) := dk_28 (bs_at BX12_emit_0 10 rfl)
theorem dX12_emit_19 : decode cX12_emit 19 = .ok (.iastore, 1) := dk_79 (bs_at BX12_emit_0 11 rfl)
theorem dX12_emit_20 : decode cX12_emit 20 = .ok (.aload_n 0, 1) := dk_42 (bs_at BX12_emit_0 12 rfl)
theorem dX12_emit_21 : decode cX12_emit 21 = .ok (.dup, 1) := dk_89 (bs_at BX12_emit_0 13 rfl)
theorem dX12_emit_22 : decode cX12_emit 22 = .ok (.getfield 276, 3) := dk_180 1 20 (bs_at BX12_emit_0 14 rfl) rfl
theorem dX12_emit_25 : decode cX12_emit 25 = .ok (.iconst 1, 1) := dk_4 (bs_at BX12_emit_0 15 rfl)
theorem dX12_emit_26 : decode cX12_emit 26 = .ok (.iadd, 1) := dk_96 (bs_at BX12_emit_0 16 rfl)
theorem dX12_emit_27 : decode cX12_emit 27 = .ok (.putfield 276, 3) := dk_181 1 20 (bs_at BX12_emit_0 17 rfl) rfl
theorem dX12_emit_30 : decode cX12_emit 30 = .ok (.return_, 1) := dk_177 (bs_at BX12_emit_0 18 rfl)
theorem BX12_push_0 : bsegs (ByteArray.data cX12_push |>.toList.drop 0) 0 [(0, [42]), (1, [180, 0, 51]), (4, [42]), (5, [180, 1, 23]), (8, [27]), (9, [79]), (10, [42]), (11, [180, 0, 54]), (14, [42]), (15, [180, 1, 23]), (18, [28]), (19, [79]), (20, [42]), (21, [89]), (22, [180, 1, 23]), (25, [4]), (26, [96]), (27, [181, 1, 23]), (30, [177])] = true := by decide +kernel
theorem dX12_push_0 : decode cX12_push 0 = .ok (.aload_n 0, 1) := dk_42 (bs_at BX12_push_0 0 rfl)
theorem dX12_push_1 : decode cX12_push 1 = .ok (.getfield 51, 3) := dk_180 0 51 (bs_at BX12_push_0 1 rfl) rfl
theorem dX12_push_4 : decode cX12_push 4 = .ok (.aload_n 0, 1) := dk_42 (bs_at BX12_push_0 2 rfl)
theorem dX12_push_5 : decode cX12_push 5 = .ok (.getfield 279, 3) := dk_180 1 23 (bs_at BX12_push_0 3 rfl) rfl
theorem dX12_push_8 : decode cX12_push 8 = .ok (.iload_n 1, 1) := dk_27 (bs_at BX12_push_0 4 rfl)
theorem dX12_push_9 : decode cX12_push 9 = .ok (.iastore, 1) := dk_79 (bs_at BX12_push_0 5 rfl)
theorem dX12_push_10 : decode cX12_push 10 = .ok (.aload_n 0, 1) := dk_42 (bs_at BX12_push_0 6 rfl)
theorem dX12_push_11 : decode cX12_push 11 = .ok (.getfield 54, 3) := dk_180 0 54 (bs_at BX12_push_0 7 rfl) rfl
theorem dX12_push_14 : decode cX12_push 14 = .ok (.aload_n 0, 1) := dk_42 (bs_at BX12_push_0 8 rfl)
theorem dX12_push_15 : decode cX12_push 15 = .ok (.getfield 279, 3) := dk_180 1 23 (bs_at BX12_push_0 9 rfl) rfl
theorem dX12_push_18 : decode cX12_push 18 = .ok (.iload_n 2, 1) := dk_28 (bs_at BX12_push_0 10 rfl)
theorem dX12_push_19 : decode cX12_push 19 = .ok (.iastore, 1) := dk_79 (bs_at BX12_push_0 11 rfl)
theorem dX12_push_20 : decode cX12_push 20 = .ok (.aload_n 0, 1) := dk_42 (bs_at BX12_push_0 12 rfl)
theorem dX12_push_21 : decode cX12_push 21 = .ok (.dup, 1) := dk_89 (bs_at BX12_push_0 13 rfl)
theorem dX12_push_22 : decode cX12_push 22 = .ok (.getfield 279, 3) := dk_180 1 23 (bs_at BX12_push_0 14 rfl) rfl
theorem dX12_push_25 : decode cX12_push 25 = .ok (.iconst 1, 1) := dk_4 (bs_at BX12_push_0 15 rfl)
theorem dX12_push_26 : decode cX12_push 26 = .ok (.iadd, 1) := dk_96 (bs_at BX12_push_0 16 rfl)
theorem dX12_push_27 : decode cX12_push 27 = .ok (.putfield 279, 3) := dk_181 1 23 (bs_at BX12_push_0 17 rfl) rfl
theorem dX12_push_30 : decode cX12_push 30 = .ok (.return_, 1) := dk_177 (bs_at BX12_push_0 18 rfl)
theorem BX12_binds_0 : bsegs (ByteArray.data cX12_binds |>.toList.drop 0) 0 [(0, [26]), (1, [16, 31]), (3, [161, 0, 7]), (6, [3]), (7, [167, 0, 55]), (10, [26]), (11, [16, 30]), (13, [160, 0, 7]), (16, [4]), (17, [167, 0, 45]), (20, [26]), (21, [16, 29]), (23, [160, 0, 7]), (26, [5]), (27, [167, 0, 35]), (30, [26]), (31, [16, 28]), (33, [160, 0, 7]), (36, [6]), (37, [167, 0, 25]), (40, [26]), (41, [16, 25]), (43, [161, 0, 7]), (46, [7])] = true := by decide +kernel
theorem dX12_binds_0 : decode cX12_binds 0 = .ok (.iload_n 0, 1) := dk_26 (bs_at BX12_binds_0 0 rfl)
theorem dX12_binds_1 : decode cX12_binds 1 = .ok (.bipush 31, 2) := dk_16 31 (bs_at BX12_binds_0 1 rfl) rfl
theorem dX12_binds_3 : decode cX12_binds 3 = .ok (.if_icmp .lt 7, 3) := dk_161 0 7 (bs_at BX12_binds_0 2 rfl) rfl
theorem dX12_binds_6 : decode cX12_binds 6 = .ok (.iconst 0, 1) := dk_3 (bs_at BX12_binds_0 3 rfl)
theorem dX12_binds_7 : decode cX12_binds 7 = .ok (.goto 55, 3) := dk_167 0 55 (bs_at BX12_binds_0 4 rfl) rfl
theorem dX12_binds_10 : decode cX12_binds 10 = .ok (.iload_n 0, 1) := dk_26 (bs_at BX12_binds_0 5 rfl)
theorem dX12_binds_11 : decode cX12_binds 11 = .ok (.bipush 30, 2) := dk_16 30 (bs_at BX12_binds_0 6 rfl) rfl
theorem dX12_binds_13 : decode cX12_binds 13 = .ok (.if_icmp .ne 7, 3) := dk_160 0 7 (bs_at BX12_binds_0 7 rfl) rfl
theorem dX12_binds_16 : decode cX12_binds 16 = .ok (.iconst 1, 1) := dk_4 (bs_at BX12_binds_0 8 rfl)
theorem dX12_binds_17 : decode cX12_binds 17 = .ok (.goto 45, 3) := dk_167 0 45 (bs_at BX12_binds_0 9 rfl) rfl
theorem dX12_binds_20 : decode cX12_binds 20 = .ok (.iload_n 0, 1) := dk_26 (bs_at BX12_binds_0 10 rfl)
theorem dX12_binds_21 : decode cX12_binds 21 = .ok (.bipush 29, 2) := dk_16 29 (bs_at BX12_binds_0 11 rfl) rfl
theorem dX12_binds_23 : decode cX12_binds 23 = .ok (.if_icmp .ne 7, 3) := dk_160 0 7 (bs_at BX12_binds_0 12 rfl) rfl
theorem dX12_binds_26 : decode cX12_binds 26 = .ok (.iconst 2, 1) := dk_5 (bs_at BX12_binds_0 13 rfl)
theorem dX12_binds_27 : decode cX12_binds 27 = .ok (.goto 35, 3) := dk_167 0 35 (bs_at BX12_binds_0 14 rfl) rfl
theorem dX12_binds_30 : decode cX12_binds 30 = .ok (.iload_n 0, 1) := dk_26 (bs_at BX12_binds_0 15 rfl)
theorem dX12_binds_31 : decode cX12_binds 31 = .ok (.bipush 28, 2) := dk_16 28 (bs_at BX12_binds_0 16 rfl) rfl
theorem dX12_binds_33 : decode cX12_binds 33 = .ok (.if_icmp .ne 7, 3) := dk_160 0 7 (bs_at BX12_binds_0 17 rfl) rfl
theorem dX12_binds_36 : decode cX12_binds 36 = .ok (.iconst 3, 1) := dk_6 (bs_at BX12_binds_0 18 rfl)
theorem dX12_binds_37 : decode cX12_binds 37 = .ok (.goto 25, 3) := dk_167 0 25 (bs_at BX12_binds_0 19 rfl) rfl
theorem dX12_binds_40 : decode cX12_binds 40 = .ok (.iload_n 0, 1) := dk_26 (bs_at BX12_binds_0 20 rfl)
theorem dX12_binds_41 : decode cX12_binds 41 = .ok (.bipush 25, 2) := dk_16 25 (bs_at BX12_binds_0 21 rfl) rfl
theorem dX12_binds_43 : decode cX12_binds 43 = .ok (.if_icmp .lt 7, 3) := dk_161 0 7 (bs_at BX12_binds_0 22 rfl) rfl
theorem dX12_binds_46 : decode cX12_binds 46 = .ok (.iconst 4, 1) := dk_7 (bs_at BX12_binds_0 23 rfl)
theorem BX12_binds_47 : bsegs (ByteArray.data cX12_binds |>.toList.drop 47) 47 [(47, [167, 0, 15]), (50, [26]), (51, [16, 22]), (53, [161, 0, 8]), (56, [16, 6]), (58, [167, 0, 4]), (61, [8]), (62, [172])] = true := by decide +kernel
theorem dX12_binds_47 : decode cX12_binds 47 = .ok (.goto 15, 3) := dk_167 0 15 (bs_at BX12_binds_47 0 rfl) rfl
theorem dX12_binds_50 : decode cX12_binds 50 = .ok (.iload_n 0, 1) := dk_26 (bs_at BX12_binds_47 1 rfl)
theorem dX12_binds_51 : decode cX12_binds 51 = .ok (.bipush 22, 2) := dk_16 22 (bs_at BX12_binds_47 2 rfl) rfl
theorem dX12_binds_53 : decode cX12_binds 53 = .ok (.if_icmp .lt 8, 3) := dk_161 0 8 (bs_at BX12_binds_47 3 rfl) rfl
theorem dX12_binds_56 : decode cX12_binds 56 = .ok (.bipush 6, 2) := dk_16 6 (bs_at BX12_binds_47 4 rfl) rfl
theorem dX12_binds_58 : decode cX12_binds 58 = .ok (.goto 4, 3) := dk_167 0 4 (bs_at BX12_binds_47 5 rfl) rfl
theorem dX12_binds_61 : decode cX12_binds 61 = .ok (.iconst 5, 1) := dk_8 (bs_at BX12_binds_47 6 rfl)
theorem dX12_binds_62 : decode cX12_binds 62 = .ok (.ireturn, 1) := dk_172 (bs_at BX12_binds_47 7 rfl)
theorem BX12_settle_0 : bsegs (ByteArray.data cX12_settle |>.toList.drop 0) 0 [(0, [42]), (1, [180, 1, 23]), (4, [158, 0, 97]), (7, [42]), (8, [180, 0, 51]), (11, [42]), (12, [180, 1, 23]), (15, [4]), (16, [100]), (17, [46]), (18, [184, 1, 26]), (21, [27]), (22, [161, 0, 79]), (25, [42]), (26, [89]), (27, [180, 1, 23]), (30, [4]), (31, [100]), (32, [181, 1, 23]), (35, [42]), (36, [180, 0, 51]), (39, [42]), (40, [180, 1, 23]), (43, [46])] = true := by decide +kernel
theorem dX12_settle_0 : decode cX12_settle 0 = .ok (.aload_n 0, 1) := dk_42 (bs_at BX12_settle_0 0 rfl)
theorem dX12_settle_1 : decode cX12_settle 1 = .ok (.getfield 279, 3) := dk_180 1 23 (bs_at BX12_settle_0 1 rfl) rfl
theorem dX12_settle_4 : decode cX12_settle 4 = .ok (.ifCond .le 97, 3) := dk_158 0 97 (bs_at BX12_settle_0 2 rfl) rfl
theorem dX12_settle_7 : decode cX12_settle 7 = .ok (.aload_n 0, 1) := dk_42 (bs_at BX12_settle_0 3 rfl)
theorem dX12_settle_8 : decode cX12_settle 8 = .ok (.getfield 51, 3) := dk_180 0 51 (bs_at BX12_settle_0 4 rfl) rfl
theorem dX12_settle_11 : decode cX12_settle 11 = .ok (.aload_n 0, 1) := dk_42 (bs_at BX12_settle_0 5 rfl)
theorem dX12_settle_12 : decode cX12_settle 12 = .ok (.getfield 279, 3) := dk_180 1 23 (bs_at BX12_settle_0 6 rfl) rfl
theorem dX12_settle_15 : decode cX12_settle 15 = .ok (.iconst 1, 1) := dk_4 (bs_at BX12_settle_0 7 rfl)
theorem dX12_settle_16 : decode cX12_settle 16 = .ok (.isub, 1) := dk_100 (bs_at BX12_settle_0 8 rfl)
theorem dX12_settle_17 : decode cX12_settle 17 = .ok (.iaload, 1) := dk_46 (bs_at BX12_settle_0 9 rfl)
theorem dX12_settle_18 : decode cX12_settle 18 = .ok (.invokestatic 282, 3) := dk_184 1 26 (bs_at BX12_settle_0 10 rfl) rfl
theorem dX12_settle_21 : decode cX12_settle 21 = .ok (.iload_n 1, 1) := dk_27 (bs_at BX12_settle_0 11 rfl)
theorem dX12_settle_22 : decode cX12_settle 22 = .ok (.if_icmp .lt 79, 3) := dk_161 0 79 (bs_at BX12_settle_0 12 rfl) rfl
theorem dX12_settle_25 : decode cX12_settle 25 = .ok (.aload_n 0, 1) := dk_42 (bs_at BX12_settle_0 13 rfl)
theorem dX12_settle_26 : decode cX12_settle 26 = .ok (.dup, 1) := dk_89 (bs_at BX12_settle_0 14 rfl)
theorem dX12_settle_27 : decode cX12_settle 27 = .ok (.getfield 279, 3) := dk_180 1 23 (bs_at BX12_settle_0 15 rfl) rfl
theorem dX12_settle_30 : decode cX12_settle 30 = .ok (.iconst 1, 1) := dk_4 (bs_at BX12_settle_0 16 rfl)
theorem dX12_settle_31 : decode cX12_settle 31 = .ok (.isub, 1) := dk_100 (bs_at BX12_settle_0 17 rfl)
theorem dX12_settle_32 : decode cX12_settle 32 = .ok (.putfield 279, 3) := dk_181 1 23 (bs_at BX12_settle_0 18 rfl) rfl
theorem dX12_settle_35 : decode cX12_settle 35 = .ok (.aload_n 0, 1) := dk_42 (bs_at BX12_settle_0 19 rfl)
theorem dX12_settle_36 : decode cX12_settle 36 = .ok (.getfield 51, 3) := dk_180 0 51 (bs_at BX12_settle_0 20 rfl) rfl
theorem dX12_settle_39 : decode cX12_settle 39 = .ok (.aload_n 0, 1) := dk_42 (bs_at BX12_settle_0 21 rfl)
theorem dX12_settle_40 : decode cX12_settle 40 = .ok (.getfield 279, 3) := dk_180 1 23 (bs_at BX12_settle_0 22 rfl) rfl
theorem dX12_settle_43 : decode cX12_settle 43 = .ok (.iaload, 1) := dk_46 (bs_at BX12_settle_0 23 rfl)
theorem BX12_settle_44 : bsegs (ByteArray.data cX12_settle |>.toList.drop 44) 44 [(44, [16, 29]), (46, [159, 0, 17]), (49, [42]), (50, [180, 0, 51]), (53, [42]), (54, [180, 1, 23]), (57, [46]), (58, [16, 30]), (60, [160, 0, 24]), (63, [42]), (64, [180, 0, 48]), (67, [42]), (68, [180, 0, 54]), (71, [42]), (72, [180, 1, 23]), (75, [46]), (76, [42]), (77, [180, 1, 20]), (80, [79]), (81, [167, 255, 175]), (84, [42]), (85, [42]), (86, [180, 0, 51]), (89, [42])] = true := by decide +kernel
theorem dX12_settle_44 : decode cX12_settle 44 = .ok (.bipush 29, 2) := dk_16 29 (bs_at BX12_settle_44 0 rfl) rfl
theorem dX12_settle_46 : decode cX12_settle 46 = .ok (.if_icmp .eq 17, 3) := dk_159 0 17 (bs_at BX12_settle_44 1 rfl) rfl
theorem dX12_settle_49 : decode cX12_settle 49 = .ok (.aload_n 0, 1) := dk_42 (bs_at BX12_settle_44 2 rfl)
theorem dX12_settle_50 : decode cX12_settle 50 = .ok (.getfield 51, 3) := dk_180 0 51 (bs_at BX12_settle_44 3 rfl) rfl
theorem dX12_settle_53 : decode cX12_settle 53 = .ok (.aload_n 0, 1) := dk_42 (bs_at BX12_settle_44 4 rfl)
theorem dX12_settle_54 : decode cX12_settle 54 = .ok (.getfield 279, 3) := dk_180 1 23 (bs_at BX12_settle_44 5 rfl) rfl
theorem dX12_settle_57 : decode cX12_settle 57 = .ok (.iaload, 1) := dk_46 (bs_at BX12_settle_44 6 rfl)
theorem dX12_settle_58 : decode cX12_settle 58 = .ok (.bipush 30, 2) := dk_16 30 (bs_at BX12_settle_44 7 rfl) rfl
theorem dX12_settle_60 : decode cX12_settle 60 = .ok (.if_icmp .ne 24, 3) := dk_160 0 24 (bs_at BX12_settle_44 8 rfl) rfl
theorem dX12_settle_63 : decode cX12_settle 63 = .ok (.aload_n 0, 1) := dk_42 (bs_at BX12_settle_44 9 rfl)
theorem dX12_settle_64 : decode cX12_settle 64 = .ok (.getfield 48, 3) := dk_180 0 48 (bs_at BX12_settle_44 10 rfl) rfl
theorem dX12_settle_67 : decode cX12_settle 67 = .ok (.aload_n 0, 1) := dk_42 (bs_at BX12_settle_44 11 rfl)
theorem dX12_settle_68 : decode cX12_settle 68 = .ok (.getfield 54, 3) := dk_180 0 54 (bs_at BX12_settle_44 12 rfl) rfl
theorem dX12_settle_71 : decode cX12_settle 71 = .ok (.aload_n 0, 1) := dk_42 (bs_at BX12_settle_44 13 rfl)
theorem dX12_settle_72 : decode cX12_settle 72 = .ok (.getfield 279, 3) := dk_180 1 23 (bs_at BX12_settle_44 14 rfl) rfl
theorem dX12_settle_75 : decode cX12_settle 75 = .ok (.iaload, 1) := dk_46 (bs_at BX12_settle_44 15 rfl)
theorem dX12_settle_76 : decode cX12_settle 76 = .ok (.aload_n 0, 1) := dk_42 (bs_at BX12_settle_44 16 rfl)
theorem dX12_settle_77 : decode cX12_settle 77 = .ok (.getfield 276, 3) := dk_180 1 20 (bs_at BX12_settle_44 17 rfl) rfl
theorem dX12_settle_80 : decode cX12_settle 80 = .ok (.iastore, 1) := dk_79 (bs_at BX12_settle_44 18 rfl)
theorem dX12_settle_81 : decode cX12_settle 81 = .ok (.goto (-81), 3) := dk_167 255 175 (bs_at BX12_settle_44 19 rfl) rfl
theorem dX12_settle_84 : decode cX12_settle 84 = .ok (.aload_n 0, 1) := dk_42 (bs_at BX12_settle_44 20 rfl)
theorem dX12_settle_85 : decode cX12_settle 85 = .ok (.aload_n 0, 1) := dk_42 (bs_at BX12_settle_44 21 rfl)
theorem dX12_settle_86 : decode cX12_settle 86 = .ok (.getfield 51, 3) := dk_180 0 51 (bs_at BX12_settle_44 22 rfl) rfl
theorem dX12_settle_89 : decode cX12_settle 89 = .ok (.aload_n 0, 1) := dk_42 (bs_at BX12_settle_44 23 rfl)
theorem BX12_settle_90 : bsegs (ByteArray.data cX12_settle |>.toList.drop 90) 90 [(90, [180, 1, 23]), (93, [46]), (94, [3]), (95, [182, 1, 29]), (98, [167, 255, 158]), (101, [177])] = true := by decide +kernel
theorem dX12_settle_90 : decode cX12_settle 90 = .ok (.getfield 279, 3) := dk_180 1 23 (bs_at BX12_settle_90 0 rfl) rfl
theorem dX12_settle_93 : decode cX12_settle 93 = .ok (.iaload, 1) := dk_46 (bs_at BX12_settle_90 1 rfl)
theorem dX12_settle_94 : decode cX12_settle 94 = .ok (.iconst 0, 1) := dk_3 (bs_at BX12_settle_90 2 rfl)
theorem dX12_settle_95 : decode cX12_settle 95 = .ok (.invokevirtual 285, 3) := dk_182 1 29 (bs_at BX12_settle_90 3 rfl) rfl
theorem dX12_settle_98 : decode cX12_settle 98 = .ok (.goto (-98), 3) := dk_167 255 158 (bs_at BX12_settle_90 4 rfl) rfl
theorem dX12_settle_101 : decode cX12_settle 101 = .ok (.return_, 1) := dk_177 (bs_at BX12_settle_90 5 rfl)
theorem BX12_inner_0 : bsegs (ByteArray.data cX12_inner |>.toList.drop 0) 0 [(0, [2]), (1, [60]), (2, [3]), (3, [61]), (4, [28]), (5, [42]), (6, [180, 1, 23]), (9, [162, 0, 31]), (12, [42]), (13, [180, 0, 51]), (16, [28]), (17, [46]), (18, [16, 31]), (20, [161, 0, 12]), (23, [42]), (24, [180, 0, 51]), (27, [28]), (28, [46]), (29, [167, 0, 4]), (32, [27]), (33, [60]), (34, [132, 2, 1]), (37, [167, 255, 223]), (40, [27])] = true := by decide +kernel
theorem dX12_inner_0 : decode cX12_inner 0 = .ok (.iconst (-1), 1) := dk_2 (bs_at BX12_inner_0 0 rfl)
theorem dX12_inner_1 : decode cX12_inner 1 = .ok (.istore_n 1, 1) := dk_60 (bs_at BX12_inner_0 1 rfl)
theorem dX12_inner_2 : decode cX12_inner 2 = .ok (.iconst 0, 1) := dk_3 (bs_at BX12_inner_0 2 rfl)
theorem dX12_inner_3 : decode cX12_inner 3 = .ok (.istore_n 2, 1) := dk_61 (bs_at BX12_inner_0 3 rfl)
theorem dX12_inner_4 : decode cX12_inner 4 = .ok (.iload_n 2, 1) := dk_28 (bs_at BX12_inner_0 4 rfl)
theorem dX12_inner_5 : decode cX12_inner 5 = .ok (.aload_n 0, 1) := dk_42 (bs_at BX12_inner_0 5 rfl)
theorem dX12_inner_6 : decode cX12_inner 6 = .ok (.getfield 279, 3) := dk_180 1 23 (bs_at BX12_inner_0 6 rfl) rfl
theorem dX12_inner_9 : decode cX12_inner 9 = .ok (.if_icmp .ge 31, 3) := dk_162 0 31 (bs_at BX12_inner_0 7 rfl) rfl
theorem dX12_inner_12 : decode cX12_inner 12 = .ok (.aload_n 0, 1) := dk_42 (bs_at BX12_inner_0 8 rfl)
theorem dX12_inner_13 : decode cX12_inner 13 = .ok (.getfield 51, 3) := dk_180 0 51 (bs_at BX12_inner_0 9 rfl) rfl
theorem dX12_inner_16 : decode cX12_inner 16 = .ok (.iload_n 2, 1) := dk_28 (bs_at BX12_inner_0 10 rfl)
theorem dX12_inner_17 : decode cX12_inner 17 = .ok (.iaload, 1) := dk_46 (bs_at BX12_inner_0 11 rfl)
theorem dX12_inner_18 : decode cX12_inner 18 = .ok (.bipush 31, 2) := dk_16 31 (bs_at BX12_inner_0 12 rfl) rfl
theorem dX12_inner_20 : decode cX12_inner 20 = .ok (.if_icmp .lt 12, 3) := dk_161 0 12 (bs_at BX12_inner_0 13 rfl) rfl
theorem dX12_inner_23 : decode cX12_inner 23 = .ok (.aload_n 0, 1) := dk_42 (bs_at BX12_inner_0 14 rfl)
theorem dX12_inner_24 : decode cX12_inner 24 = .ok (.getfield 51, 3) := dk_180 0 51 (bs_at BX12_inner_0 15 rfl) rfl
theorem dX12_inner_27 : decode cX12_inner 27 = .ok (.iload_n 2, 1) := dk_28 (bs_at BX12_inner_0 16 rfl)
theorem dX12_inner_28 : decode cX12_inner 28 = .ok (.iaload, 1) := dk_46 (bs_at BX12_inner_0 17 rfl)
theorem dX12_inner_29 : decode cX12_inner 29 = .ok (.goto 4, 3) := dk_167 0 4 (bs_at BX12_inner_0 18 rfl) rfl
theorem dX12_inner_32 : decode cX12_inner 32 = .ok (.iload_n 1, 1) := dk_27 (bs_at BX12_inner_0 19 rfl)
theorem dX12_inner_33 : decode cX12_inner 33 = .ok (.istore_n 1, 1) := dk_60 (bs_at BX12_inner_0 20 rfl)
theorem dX12_inner_34 : decode cX12_inner 34 = .ok (.iinc 2 1, 3) := dk_132 2 1 (bs_at BX12_inner_0 21 rfl) rfl
theorem dX12_inner_37 : decode cX12_inner 37 = .ok (.goto (-33), 3) := dk_167 255 223 (bs_at BX12_inner_0 22 rfl) rfl
theorem dX12_inner_40 : decode cX12_inner 40 = .ok (.iload_n 1, 1) := dk_27 (bs_at BX12_inner_0 23 rfl)
theorem BX12_inner_41 : bsegs (ByteArray.data cX12_inner |>.toList.drop 41) 41 [(41, [172])] = true := by decide +kernel
theorem dX12_inner_41 : decode cX12_inner 41 = .ok (.ireturn, 1) := dk_172 (bs_at BX12_inner_41 0 rfl)
theorem BX12_isCompared_0 : bsegs (ByteArray.data cX12_isCompared |>.toList.drop 0) 0 [(0, [42]), (1, [180, 1, 23]), (4, [4]), (5, [100]), (6, [60]), (7, [27]), (8, [155, 0, 28]), (11, [42]), (12, [180, 0, 51]), (15, [27]), (16, [46]), (17, [133]), (18, [20, 0, 217]), (21, [20, 1, 33]), (24, [184, 0, 178]), (27, [153, 0, 9]), (30, [132, 1, 255]), (33, [167, 255, 230]), (36, [27]), (37, [155, 0, 26]), (40, [42]), (41, [180, 0, 51]), (44, [27]), (45, [46])] = true := by decide +kernel
theorem dX12_isCompared_0 : decode cX12_isCompared 0 = .ok (.aload_n 0, 1) := dk_42 (bs_at BX12_isCompared_0 0 rfl)
theorem dX12_isCompared_1 : decode cX12_isCompared 1 = .ok (.getfield 279, 3) := dk_180 1 23 (bs_at BX12_isCompared_0 1 rfl) rfl
theorem dX12_isCompared_4 : decode cX12_isCompared 4 = .ok (.iconst 1, 1) := dk_4 (bs_at BX12_isCompared_0 2 rfl)
theorem dX12_isCompared_5 : decode cX12_isCompared 5 = .ok (.isub, 1) := dk_100 (bs_at BX12_isCompared_0 3 rfl)
theorem dX12_isCompared_6 : decode cX12_isCompared 6 = .ok (.istore_n 1, 1) := dk_60 (bs_at BX12_isCompared_0 4 rfl)
theorem dX12_isCompared_7 : decode cX12_isCompared 7 = .ok (.iload_n 1, 1) := dk_27 (bs_at BX12_isCompared_0 5 rfl)
theorem dX12_isCompared_8 : decode cX12_isCompared 8 = .ok (.ifCond .lt 28, 3) := dk_155 0 28 (bs_at BX12_isCompared_0 6 rfl) rfl
theorem dX12_isCompared_11 : decode cX12_isCompared 11 = .ok (.aload_n 0, 1) := dk_42 (bs_at BX12_isCompared_0 7 rfl)
theorem dX12_isCompared_12 : decode cX12_isCompared 12 = .ok (.getfield 51, 3) := dk_180 0 51 (bs_at BX12_isCompared_0 8 rfl) rfl
theorem dX12_isCompared_15 : decode cX12_isCompared 15 = .ok (.iload_n 1, 1) := dk_27 (bs_at BX12_isCompared_0 9 rfl)
theorem dX12_isCompared_16 : decode cX12_isCompared 16 = .ok (.iaload, 1) := dk_46 (bs_at BX12_isCompared_0 10 rfl)
theorem dX12_isCompared_17 : decode cX12_isCompared 17 = .ok (.i2l, 1) := dk_133 (bs_at BX12_isCompared_0 11 rfl)
theorem dX12_isCompared_18 : decode cX12_isCompared 18 = .ok (.ldc2_w 217, 3) := dk_20 0 217 (bs_at BX12_isCompared_0 12 rfl) rfl
theorem dX12_isCompared_21 : decode cX12_isCompared 21 = .ok (.ldc2_w 289, 3) := dk_20 1 33 (bs_at BX12_isCompared_0 13 rfl) rfl
theorem dX12_isCompared_24 : decode cX12_isCompared 24 = .ok (.invokestatic 178, 3) := dk_184 0 178 (bs_at BX12_isCompared_0 14 rfl) rfl
theorem dX12_isCompared_27 : decode cX12_isCompared 27 = .ok (.ifCond .eq 9, 3) := dk_153 0 9 (bs_at BX12_isCompared_0 15 rfl) rfl
theorem dX12_isCompared_30 : decode cX12_isCompared 30 = .ok (.iinc 1 (-1), 3) := dk_132 1 255 (bs_at BX12_isCompared_0 16 rfl) rfl
theorem dX12_isCompared_33 : decode cX12_isCompared 33 = .ok (.goto (-26), 3) := dk_167 255 230 (bs_at BX12_isCompared_0 17 rfl) rfl
theorem dX12_isCompared_36 : decode cX12_isCompared 36 = .ok (.iload_n 1, 1) := dk_27 (bs_at BX12_isCompared_0 18 rfl)
theorem dX12_isCompared_37 : decode cX12_isCompared 37 = .ok (.ifCond .lt 26, 3) := dk_155 0 26 (bs_at BX12_isCompared_0 19 rfl) rfl
theorem dX12_isCompared_40 : decode cX12_isCompared 40 = .ok (.aload_n 0, 1) := dk_42 (bs_at BX12_isCompared_0 20 rfl)
theorem dX12_isCompared_41 : decode cX12_isCompared 41 = .ok (.getfield 51, 3) := dk_180 0 51 (bs_at BX12_isCompared_0 21 rfl) rfl
theorem dX12_isCompared_44 : decode cX12_isCompared 44 = .ok (.iload_n 1, 1) := dk_27 (bs_at BX12_isCompared_0 22 rfl)
theorem dX12_isCompared_45 : decode cX12_isCompared 45 = .ok (.iaload, 1) := dk_46 (bs_at BX12_isCompared_0 23 rfl)
theorem BX12_isCompared_46 : bsegs (ByteArray.data cX12_isCompared |>.toList.drop 46) 46 [(46, [133]), (47, [20, 1, 35]), (50, [20, 1, 37]), (53, [184, 0, 178]), (56, [153, 0, 7]), (59, [4]), (60, [167, 0, 4]), (63, [3]), (64, [172])] = true := by decide +kernel
theorem dX12_isCompared_46 : decode cX12_isCompared 46 = .ok (.i2l, 1) := dk_133 (bs_at BX12_isCompared_46 0 rfl)
theorem dX12_isCompared_47 : decode cX12_isCompared 47 = .ok (.ldc2_w 291, 3) := dk_20 1 35 (bs_at BX12_isCompared_46 1 rfl) rfl
theorem dX12_isCompared_50 : decode cX12_isCompared 50 = .ok (.ldc2_w 293, 3) := dk_20 1 37 (bs_at BX12_isCompared_46 2 rfl) rfl
theorem dX12_isCompared_53 : decode cX12_isCompared 53 = .ok (.invokestatic 178, 3) := dk_184 0 178 (bs_at BX12_isCompared_46 3 rfl) rfl
theorem dX12_isCompared_56 : decode cX12_isCompared 56 = .ok (.ifCond .eq 7, 3) := dk_153 0 7 (bs_at BX12_isCompared_46 4 rfl) rfl
theorem dX12_isCompared_59 : decode cX12_isCompared 59 = .ok (.iconst 1, 1) := dk_4 (bs_at BX12_isCompared_46 5 rfl)
theorem dX12_isCompared_60 : decode cX12_isCompared 60 = .ok (.goto 4, 3) := dk_167 0 4 (bs_at BX12_isCompared_46 6 rfl) rfl
theorem dX12_isCompared_63 : decode cX12_isCompared 63 = .ok (.iconst 0, 1) := dk_3 (bs_at BX12_isCompared_46 7 rfl)
theorem dX12_isCompared_64 : decode cX12_isCompared 64 = .ok (.ireturn, 1) := dk_172 (bs_at BX12_isCompared_46 8 rfl)
theorem ggX12_settle_X12_binds : GoodIn wsX12_settle wsX12_binds := gi_ch ch_X12_settle ch_X12_binds (by decide +kernel)
theorem gX12_settle_X12_binds : GoodIn wsX12_settle (va_wsS RX12 282 yX12_binds wsX12_binds) := gi_ch ch_X12_settle (ch_s [1140, 1141, 156] rfl ch_X12_binds) (by decide +kernel)
theorem ggX12_settle_X12_emit : GoodIn wsX12_settle wsX12_emit := gi_ch ch_X12_settle ch_X12_emit (by decide +kernel)
theorem gX12_settle_X12_emit : GoodIn wsX12_settle (wsV RX12 285 RX12 yX12_emit wsX12_emit) := gi_ch ch_X12_settle (ch_v [1131, 1132, 104, 156] rfl ch_X12_emit) (by decide +kernel)
theorem ggX12_isCompared_X12_in : GoodIn wsX12_isCompared wsX12_in := gi_ch ch_X12_isCompared ch_X12_in (by decide +kernel)
theorem gX12_isCompared_X12_in : GoodIn wsX12_isCompared (va_wsS RX12 178 yX12_in wsX12_in) := gi_ch ch_X12_isCompared (ch_s [965, 966, 156] rfl ch_X12_in) (by decide +kernel)
noncomputable def bn (fp : Nat → Int32) : Nat → Int
  | 0 => 0
  | n + 1 => bn fp n + (if (fp n).toInt ≤ 27 then 1 else 0)
noncomputable def inn (fp : Nat → Int32) : Nat → Int
  | 0 => -1
  | n + 1 => if 31 ≤ (fp n).toInt then (fp n).toInt else inn fp n
theorem bn_nn (fp : Nat → Int32) : ∀ n, 0 ≤ bn fp n
  | 0 => Int.le_refl _
  | n + 1 => by
    have := bn_nn fp n
    show 0 ≤ bn fp n + (if (fp n).toInt ≤ 27 then 1 else 0)
    split <;> omega
theorem bn_upd {fp : Nat → Int32} {k : Nat} {v : Int32} : ∀ n, n ≤ k → bn (upd fp k v) n = bn fp n
  | 0, _ => rfl
  | n + 1, h => by
    show bn (upd fp k v) n + (if ((upd fp k v) n).toInt ≤ 27 then 1 else 0) = bn fp n + (if (fp n).toInt ≤ 27 then 1 else 0)
    rw [bn_upd n (by omega), pk_un (show n ≠ k by omega)]
theorem inn_upd {fp : Nat → Int32} {k : Nat} {v : Int32} : ∀ n, n ≤ k → inn (upd fp k v) n = inn fp n
  | 0, _ => rfl
  | n + 1, h => by
    show (if 31 ≤ ((upd fp k v) n).toInt then ((upd fp k v) n).toInt else inn (upd fp k v) n) = (if 31 ≤ (fp n).toInt then (fp n).toInt else inn fp n)
    rw [inn_upd n (by omega), pk_un (show n ≠ k by omega)]
theorem bn_lo {fp : Nat → Int32} {n : Nat} (h : (fp n).toInt ≤ 27) : bn fp (n + 1) = bn fp n + 1 := by
  show bn fp n + (if (fp n).toInt ≤ 27 then 1 else 0) = bn fp n + 1
  rw [if_pos h]
theorem bn_hi {fp : Nat → Int32} {n : Nat} (h : 28 ≤ (fp n).toInt) : bn fp (n + 1) = bn fp n := by
  show bn fp n + (if (fp n).toInt ≤ 27 then 1 else 0) = bn fp n
  rw [if_neg (by omega)]; omega
theorem inn_lo {fp : Nat → Int32} {n : Nat} (h : (fp n).toInt ≤ 30) : inn fp (n + 1) = inn fp n := by
  show (if 31 ≤ (fp n).toInt then (fp n).toInt else inn fp n) = inn fp n
  rw [if_neg (by omega)]
theorem inn_hi {fp : Nat → Int32} {n : Nat} (h : 31 ≤ (fp n).toInt) : inn fp (n + 1) = (fp n).toInt := by
  show (if 31 ≤ (fp n).toInt then (fp n).toInt else inn fp n) = (fp n).toInt
  rw [if_pos h]
theorem Sstp.mono {o a k hi hi' lo : Int} {d d' : Int → Int} (h : Sstp o a k hi d) (hl : lo ≤ k) (hk : k < hi) (hh : hi ≤ hi') (e : ∀ j, lo ≤ j → j ≤ hi → d' j = d j) : Sstp o a k hi' d' := by
  have e1 := e k hl (by omega)
  have e2 := e (k + 1) (by omega) (by omega)
  unfold Sstp at h ⊢
  rcases h with h | h | h | ⟨h1, h2, h3, h4, h5, h6⟩
  · exact Or.inl (by omega)
  · exact Or.inr (Or.inl (by omega))
  · exact Or.inr (Or.inr (Or.inl (by omega)))
  · have e3 := e a (by omega) (by omega)
    exact Or.inr (Or.inr (Or.inr ⟨h1, by omega, by omega, h4, by omega, by omega⟩))
noncomputable def PS (lo : Int) (go ga fo fa fp fq : Nat → Int32) (nC pi a : Int) : Prop :=
  (0 ≤ lo ∧ lo ≤ nC ∧ 0 ≤ pi) ∧
  (∀ i : Nat, (i : Int) < pi → 20 ≤ (fp i).toInt ∧ (fp i).toInt ≤ 32 ∧ (inn fp i = 32 → (fp i).toInt ≤ 24 ∨ (fp i).toInt = 32)) ∧
  (∀ k : Nat, (k : Int) < lo → fo k = go k ∧ fa k = ga k) ∧
  ∃ d : Int → Int, d lo = 0 ∧ (∀ k, lo ≤ k → k ≤ nC → 0 ≤ d k ∧ d k ≤ k - lo) ∧ d nC = bn fp pi.toNat + a ∧
    (∀ i : Nat, (i : Int) < pi → ((fp i).toInt = 29 ∨ (fp i).toInt = 30) → lo ≤ (fq i).toInt ∧ (fq i).toInt < nC ∧ d (fq i).toInt = bn fp i + 1) ∧
    ∀ k, lo ≤ k → k < nC → Sstp (fo k.toNat).toInt (fa k.toNat).toInt k nC d ∨ (((fo k.toNat).toInt = 29 ∨ (fo k.toNat).toInt = 30) ∧ 1 ≤ d k ∧ d (k + 1) = d k - 1 ∧ ∃ i : Nat, (i : Int) < pi ∧ ((fp i).toInt = 29 ∨ (fp i).toInt = 30) ∧ (fq i).toInt = k)
theorem PS.init {lo : Int} {fo fa fp fq : Nat → Int32} (h : 0 ≤ lo) : PS lo fo fa fo fa fp fq lo 0 0 :=
  ⟨⟨h, by omega, by omega⟩, fun i hi => absurd hi (by omega), fun _ _ => ⟨rfl, rfl⟩, fun _ => 0, rfl, fun k h1 h2 => ⟨by dsimp only; omega, by dsimp only; omega⟩, rfl, fun i hi => absurd hi (by omega), fun k h1 h2 => absurd h2 (by omega)⟩
/-- one step more, which is none of the two words; the pile keeps all but its top, or all -/
theorem PS.app {lo : Int} {go ga fo fa fp fq : Nat → Int32} {nC pi a pi' a' : Int} {o r : Int32} (h : PS lo go ga fo fa fp fq nC pi a) (h0 : 0 ≤ pi' ∧ pi' ≤ pi) (ht : ∀ i : Nat, pi' ≤ (i : Int) → (i : Int) < pi → ¬ ((fp i).toInt = 29 ∨ (fp i).toInt = 30))
    (hs : (0 ≤ o.toInt ∧ o.toInt ≤ 9 ∧ bn fp pi'.toNat + a' = bn fp pi.toNat + a + 1) ∨ (20 ≤ o.toInt ∧ o.toInt ≤ 27 ∧ 2 ≤ bn fp pi.toNat + a ∧ bn fp pi'.toNat + a' = bn fp pi.toNat + a - 1) ∨ (o.toInt = 28 ∧ 1 ≤ bn fp pi.toNat + a ∧ bn fp pi'.toNat + a' = bn fp pi.toNat + a)) :
    PS lo go ga (upd fo nC.toNat o) (upd fa nC.toNat r) fp fq (nC + 1) pi' a' := by
  obtain ⟨⟨g0, g1, g2⟩, gp, gb, d, d0, d1, dn, dq, ds⟩ := h
  have hdn := d1 nC g1 (by omega)
  refine ⟨⟨g0, by omega, h0.1⟩, fun i hi => gp i (by omega), fun j hj => ⟨by rw [pk_un (by omega)]; exact (gb j hj).1, by rw [pk_un (by omega)]; exact (gb j hj).2⟩, fun k => if k = nC + 1 then bn fp pi'.toNat + a' else d k, ?_, ?_, ?_, ?_, ?_⟩
  · show (if lo = nC + 1 then _ else d lo) = 0
    rw [if_neg (by omega)]; exact d0
  · intro k h1 h2
    show 0 ≤ (if k = nC + 1 then _ else d k) ∧ (if k = nC + 1 then _ else d k) ≤ k - lo
    by_cases e : k = nC + 1
    · rw [if_pos e]; omega
    · rw [if_neg e]; exact d1 k h1 (by omega)
  · show (if nC + 1 = nC + 1 then _ else d (nC + 1)) = _
    rw [if_pos rfl]
  · intro i hi hw
    obtain ⟨q1, q2, q3⟩ := dq i (by omega) hw
    refine ⟨q1, by omega, ?_⟩
    show (if (fq i).toInt = nC + 1 then _ else d (fq i).toInt) = _
    rw [if_neg (by omega)]; exact q3
  · intro k h1 h2
    by_cases e : k = nC
    · subst e
      rw [pk_us, pk_us]
      refine Or.inl ?_
      unfold Sstp
      show (_ ∧ _ ∧ (if k + 1 = k + 1 then _ else d (k + 1)) = (if k = k + 1 then _ else d k) + 1) ∨ (_ ∧ _ ∧ 2 ≤ (if k = k + 1 then _ else d k) ∧ (if k + 1 = k + 1 then _ else d (k + 1)) = (if k = k + 1 then _ else d k) - 1) ∨ (_ ∧ 1 ≤ (if k = k + 1 then _ else d k) ∧ (if k + 1 = k + 1 then _ else d (k + 1)) = (if k = k + 1 then _ else d k)) ∨ _
      rw [if_pos rfl, if_neg (show ¬ k = k + 1 by omega), dn]
      rcases hs with hs | hs | hs
      · exact Or.inl (by omega)
      · exact Or.inr (Or.inl (by omega))
      · exact Or.inr (Or.inr (Or.inl (by omega)))
    · rw [pk_un (show k.toNat ≠ nC.toNat by omega), pk_un (show k.toNat ≠ nC.toNat by omega)]
      rcases ds k h1 (by omega) with hst | ⟨w1, w2, w3, i, i1, i2, i3⟩
      · refine Or.inl (hst.mono h1 (by omega) (by omega) (fun j j1 j2 => ?_))
        show (if j = nC + 1 then _ else d j) = d j
        rw [if_neg (by omega)]
      · refine Or.inr ⟨w1, ?_, ?_, i, ?_, i2, i3⟩
        · show 1 ≤ (if k = nC + 1 then _ else d k)
          rw [if_neg (by omega)]; exact w2
        · show (if k + 1 = nC + 1 then _ else d (k + 1)) = (if k = nC + 1 then _ else d k) - 1
          rw [if_neg (by omega), if_neg (by omega)]; exact w3
        · exact Classical.byContradiction (fun c => ht i (by omega) i1 i2)
/-- a leaf -/
theorem PS.leaf {lo : Int} {go ga fo fa fp fq : Nat → Int32} {nC pi : Int} {o r : Int32} (h : PS lo go ga fo fa fp fq nC pi 0) (ho : 0 ≤ o.toInt ∧ o.toInt ≤ 9) : PS lo go ga (upd fo nC.toNat o) (upd fa nC.toNat r) fp fq (nC + 1) pi 1 :=
  h.app ⟨h.1.2.2, by omega⟩ (fun i h1 h2 => absurd h2 (by omega)) (Or.inl ⟨ho.1, ho.2, by omega⟩)
/-- what a leaf tells besides may be set anew -/
theorem PS.arg {lo : Int} {go ga fo fa fp fq : Nat → Int32} {nC pi a : Int} {k : Int} {r : Int32} (h : PS lo go ga fo fa fp fq nC pi a) (hk : lo ≤ k ∧ k < nC) (ho : (fo k.toNat).toInt ≤ 9) : PS lo go ga fo (upd fa k.toNat r) fp fq nC pi a := by
  obtain ⟨g, gp, gb, d, d0, d1, dn, dq, ds⟩ := h
  refine ⟨g, gp, fun j hj => ⟨(gb j hj).1, by rw [pk_un (by omega)]; exact (gb j hj).2⟩, d, d0, d1, dn, dq, fun j h1 h2 => ?_⟩
  by_cases e : j = k
  · subst e
    rw [pk_us]
    rcases ds j h1 h2 with hst | ⟨w1, -⟩
    · refine Or.inl ?_
      unfold Sstp at hst ⊢
      omega
    · omega
  · rw [pk_un (show j.toNat ≠ k.toNat by omega)]
    exact ds j h1 h2
/-- what waits on the pile: a sum's or a comparison's sign -/
theorem PS.bin {lo : Int} {go ga fo fa fp fq : Nat → Int32} {nC pi : Int} {o z : Int32} (h : PS lo go ga fo fa fp fq nC pi 1) (ho : 20 ≤ o.toInt ∧ o.toInt ≤ 27) (hi : inn fp pi.toNat = 32 → o.toInt ≤ 24) : PS lo go ga fo fa (upd fp pi.toNat o) (upd fq pi.toNat z) nC (pi + 1) 0 := by
  obtain ⟨⟨g0, g1, g2⟩, gp, gb, d, d0, d1, dn, dq, ds⟩ := h
  have key : ∀ i : Nat, (i : Int) < pi → upd fp pi.toNat o i = fp i ∧ upd fq pi.toNat z i = fq i := fun i hi => ⟨pk_un (by omega), pk_un (by omega)⟩
  refine ⟨⟨g0, g1, by omega⟩, fun i hi2 => ?_, gb, d, d0, d1, ?_, fun i hi2 hw => ?_, fun k h1 h2 => ?_⟩
  · by_cases e : (i : Int) = pi
    · rw [show i = pi.toNat by omega, pk_us, inn_upd _ (Nat.le_refl _)]
      exact ⟨by omega, by omega, fun q => Or.inl (hi q)⟩
    · rw [(key i (by omega)).1, inn_upd _ (by omega)]
      exact gp i (by omega)
  · rw [show (pi + 1).toNat = pi.toNat + 1 by omega, bn_lo (by rw [pk_us]; omega), bn_upd _ (Nat.le_refl _), dn]
    omega
  · by_cases e : (i : Int) = pi
    · rw [show i = pi.toNat by omega, pk_us] at hw; omega
    · rw [(key i (by omega)).1] at hw
      rw [(key i (by omega)).2, bn_upd _ (by omega)]
      exact dq i (by omega) hw
  · rcases ds k h1 h2 with hst | ⟨w1, w2, w3, i, i1, i2, i3⟩
    · exact Or.inl hst
    · exact Or.inr ⟨w1, w2, w3, i, by omega, by rw [(key i i1).1]; exact i2, by rw [(key i i1).2]; exact i3⟩
/-- a bracket, or 'not' -/
theorem PS.bra {lo : Int} {go ga fo fa fp fq : Nat → Int32} {nC pi : Int} {o z : Int32} (h : PS lo go ga fo fa fp fq nC pi 0) (ho : o.toInt = 28 ∨ o.toInt = 31 ∨ o.toInt = 32) (hi : inn fp pi.toNat = 32 → o.toInt = 32) : PS lo go ga fo fa (upd fp pi.toNat o) (upd fq pi.toNat z) nC (pi + 1) 0 := by
  obtain ⟨⟨g0, g1, g2⟩, gp, gb, d, d0, d1, dn, dq, ds⟩ := h
  have key : ∀ i : Nat, (i : Int) < pi → upd fp pi.toNat o i = fp i ∧ upd fq pi.toNat z i = fq i := fun i hi => ⟨pk_un (by omega), pk_un (by omega)⟩
  refine ⟨⟨g0, g1, by omega⟩, fun i hi2 => ?_, gb, d, d0, d1, ?_, fun i hi2 hw => ?_, fun k h1 h2 => ?_⟩
  · by_cases e : (i : Int) = pi
    · rw [show i = pi.toNat by omega, pk_us, inn_upd _ (Nat.le_refl _)]
      exact ⟨by omega, by omega, fun q => Or.inr (hi q)⟩
    · rw [(key i (by omega)).1, inn_upd _ (by omega)]
      exact gp i (by omega)
  · rw [show (pi + 1).toNat = pi.toNat + 1 by omega, bn_hi (by rw [pk_us]; omega), bn_upd _ (Nat.le_refl _), dn]
  · by_cases e : (i : Int) = pi
    · rw [show i = pi.toNat by omega, pk_us] at hw; omega
    · rw [(key i (by omega)).1] at hw
      rw [(key i (by omega)).2, bn_upd _ (by omega)]
      exact dq i (by omega) hw
  · rcases ds k h1 h2 with hst | ⟨w1, w2, w3, i, i1, i2, i3⟩
    · exact Or.inl hst
    · exact Or.inr ⟨w1, w2, w3, i, by omega, by rw [(key i i1).1]; exact i2, by rw [(key i i1).2]; exact i3⟩
/-- 'and', 'or': a step, and it waits for where to skip to -/
theorem PS.conj {lo : Int} {go ga fo fa fp fq : Nat → Int32} {nC pi : Int} {o r z : Int32} (h : PS lo go ga fo fa fp fq nC pi 1) (ho : o.toInt = 29 ∨ o.toInt = 30) (hz : z.toInt = nC) (hi : inn fp pi.toNat ≠ 32) : PS lo go ga (upd fo nC.toNat o) (upd fa nC.toNat r) (upd fp pi.toNat o) (upd fq pi.toNat z) (nC + 1) (pi + 1) 0 := by
  obtain ⟨⟨g0, g1, g2⟩, gp, gb, d, d0, d1, dn, dq, ds⟩ := h
  have hdn := d1 nC g1 (by omega)
  have hb := bn_nn fp pi.toNat
  have key : ∀ i : Nat, (i : Int) < pi → upd fp pi.toNat o i = fp i ∧ upd fq pi.toNat z i = fq i := fun i hi => ⟨pk_un (by omega), pk_un (by omega)⟩
  refine ⟨⟨g0, by omega, by omega⟩, fun i hi2 => ?_, fun j hj => ⟨by rw [pk_un (by omega)]; exact (gb j hj).1, by rw [pk_un (by omega)]; exact (gb j hj).2⟩, fun k => if k = nC + 1 then bn fp pi.toNat else d k, ?_, ?_, ?_, fun i hi2 hw => ?_, fun k h1 h2 => ?_⟩
  · by_cases e : (i : Int) = pi
    · rw [show i = pi.toNat by omega, pk_us, inn_upd _ (Nat.le_refl _)]
      exact ⟨by omega, by omega, fun q => absurd q hi⟩
    · rw [(key i (by omega)).1, inn_upd _ (by omega)]
      exact gp i (by omega)
  · show (if lo = nC + 1 then _ else d lo) = 0
    rw [if_neg (by omega)]; exact d0
  · intro k h1 h2
    show 0 ≤ (if k = nC + 1 then _ else d k) ∧ (if k = nC + 1 then _ else d k) ≤ k - lo
    by_cases e : k = nC + 1
    · rw [if_pos e]; omega
    · rw [if_neg e]; exact d1 k h1 (by omega)
  · show (if nC + 1 = nC + 1 then _ else d (nC + 1)) = _
    rw [if_pos rfl, show (pi + 1).toNat = pi.toNat + 1 by omega, bn_hi (by rw [pk_us]; omega), bn_upd _ (Nat.le_refl _)]
    omega
  · by_cases e : (i : Int) = pi
    · rw [show i = pi.toNat by omega, pk_us, bn_upd _ (Nat.le_refl _), hz]
      refine ⟨g1, by omega, ?_⟩
      show (if nC = nC + 1 then _ else d nC) = _
      rw [if_neg (by omega)]; exact dn
    · rw [(key i (by omega)).1] at hw
      obtain ⟨q1, q2, q3⟩ := dq i (by omega) hw
      rw [(key i (by omega)).2, bn_upd _ (by omega)]
      refine ⟨q1, by omega, ?_⟩
      show (if (fq i).toInt = nC + 1 then _ else d (fq i).toInt) = _
      rw [if_neg (by omega)]; exact q3
  · by_cases e : k = nC
    · subst e
      rw [pk_us, pk_us]
      refine Or.inr ⟨ho, ?_, ?_, pi.toNat, by omega, by rw [pk_us]; exact ho, by rw [pk_us]; exact hz⟩
      · show 1 ≤ (if k = k + 1 then _ else d k)
        rw [if_neg (by omega)]; omega
      · show (if k + 1 = k + 1 then _ else d (k + 1)) = (if k = k + 1 then _ else d k) - 1
        rw [if_pos rfl, if_neg (by omega)]; omega
    · rw [pk_un (show k.toNat ≠ nC.toNat by omega), pk_un (show k.toNat ≠ nC.toNat by omega)]
      rcases ds k h1 (by omega) with hst | ⟨w1, w2, w3, i, i1, i2, i3⟩
      · refine Or.inl (hst.mono h1 (by omega) (by omega) (fun j j1 j2 => ?_))
        show (if j = nC + 1 then _ else d j) = d j
        rw [if_neg (by omega)]
      · refine Or.inr ⟨w1, ?_, ?_, i, by omega, by rw [(key i i1).1]; exact i2, by rw [(key i i1).2]; exact i3⟩
        · show 1 ≤ (if k = nC + 1 then _ else d k)
          rw [if_neg (by omega)]; exact w2
        · show (if k + 1 = nC + 1 then _ else d (k + 1)) = (if k = nC + 1 then _ else d k) - 1
          rw [if_neg (by omega), if_neg (by omega)]; exact w3
/-- the pile's top settles: a sign or 'not' -/
theorem PS.pop {lo : Int} {go ga fo fa fp fq : Nat → Int32} {nC pi : Int} {r : Int32} (h : PS lo go ga fo fa fp fq nC pi 1) (hp : 0 < pi) (ho : 20 ≤ (fp (pi - 1).toNat).toInt ∧ (fp (pi - 1).toNat).toInt ≤ 28) : PS lo go ga (upd fo nC.toNat (fp (pi - 1).toNat)) (upd fa nC.toNat r) fp fq (nC + 1) (pi - 1) 1 := by
  have hb := bn_nn fp (pi - 1).toNat
  have e : pi.toNat = (pi - 1).toNat + 1 := by omega
  refine h.app ⟨by omega, by omega⟩ (fun i h1 h2 => by rw [show i = (pi - 1).toNat by omega]; omega) ?_
  by_cases q : (fp (pi - 1).toNat).toInt = 28
  · rw [e, bn_hi (by omega)]
    exact Or.inr (Or.inr ⟨q, by omega, rfl⟩)
  · rw [e, bn_lo (by omega)]
    exact Or.inr (Or.inl ⟨ho.1, by omega, by omega, by omega⟩)
/-- the pile's top settles: 'and', 'or' -/
theorem PS.land {lo : Int} {go ga fo fa fp fq : Nat → Int32} {nC pi : Int} {r : Int32} (h : PS lo go ga fo fa fp fq nC pi 1) (hp : 0 < pi) (ho : (fp (pi - 1).toNat).toInt = 29 ∨ (fp (pi - 1).toNat).toInt = 30) (hr : r.toInt = nC) : PS lo go ga fo (upd fa (fq (pi - 1).toNat).toInt.toNat r) fp fq nC (pi - 1) 1 := by
  obtain ⟨⟨g0, g1, g2⟩, gp, gb, d, d0, d1, dn, dq, ds⟩ := h
  have e : pi.toNat = (pi - 1).toNat + 1 := by omega
  obtain ⟨q1, q2, q3⟩ := dq (pi - 1).toNat (by omega) ho
  rw [e, bn_hi (by omega)] at dn
  refine ⟨⟨g0, g1, by omega⟩, fun i hi => gp i (by omega), fun j hj => ⟨(gb j hj).1, by rw [pk_un (by omega)]; exact (gb j hj).2⟩, d, d0, d1, dn, fun i hi hw => dq i (by omega) hw, fun k h1 h2 => ?_⟩
  by_cases ek : k = (fq (pi - 1).toNat).toInt
  · subst ek
    rw [pk_us, hr]
    rcases ds _ h1 h2 with hst | ⟨w1, w2, w3, -⟩
    · refine Or.inl ?_
      unfold Sstp at hst ⊢
      omega
    · refine Or.inl ?_
      unfold Sstp
      exact Or.inr (Or.inr (Or.inr ⟨w1, w2, w3, h2, by omega, by omega⟩))
  · rw [pk_un (show k.toNat ≠ (fq (pi - 1).toNat).toInt.toNat by omega)]
    rcases ds k h1 h2 with hst | ⟨w1, w2, w3, i, i1, i2, i3⟩
    · exact Or.inl hst
    · refine Or.inr ⟨w1, w2, w3, i, ?_, i2, i3⟩
      refine Classical.byContradiction (fun c => ek ?_)
      rw [← i3, show i = (pi - 1).toNat by omega]
/-- a bracket is closed -/
theorem PS.close {lo : Int} {go ga fo fa fp fq : Nat → Int32} {nC pi : Int} (h : PS lo go ga fo fa fp fq nC pi 1) (hp : 0 < pi) (ho : 31 ≤ (fp (pi - 1).toNat).toInt) : PS lo go ga fo fa fp fq nC (pi - 1) 1 ∧ (inn fp (pi - 1).toNat = 32 → (fp (pi - 1).toNat).toInt = 32) := by
  obtain ⟨⟨g0, g1, g2⟩, gp, gb, d, d0, d1, dn, dq, ds⟩ := h
  have e : pi.toNat = (pi - 1).toNat + 1 := by omega
  rw [e, bn_hi (by omega)] at dn
  refine ⟨⟨⟨g0, g1, by omega⟩, fun i hi => gp i (by omega), gb, d, d0, d1, dn, fun i hi hw => dq i (by omega) hw, fun k h1 h2 => ?_⟩, fun q => ?_⟩
  · rcases ds k h1 h2 with hst | ⟨w1, w2, w3, i, i1, i2, i3⟩
    · exact Or.inl hst
    · refine Or.inr ⟨w1, w2, w3, i, ?_, i2, i3⟩
      refine Classical.byContradiction (fun c => ?_)
      rw [show i = (pi - 1).toNat by omega] at i2
      omega
  · have := (gp (pi - 1).toNat (by omega)).2.2 q
    omega
theorem PS.seg {lo : Int} {go ga fo fa fp fq : Nat → Int32} {nC : Int} (h : PS lo go ga fo fa fp fq nC 0 1) (h4 : nC ≤ 400) : Seg (fun k => (fo k.toNat).toInt) (fun k => (fa k.toNat).toInt) lo nC := by
  obtain ⟨⟨g0, g1, -⟩, -, -, d, d0, d1, -, -, ds⟩ := h
  refine ⟨g0, g1, h4, d, d0, d1, fun k h1 h2 => ?_⟩
  rcases ds k h1 h2 with hst | ⟨-, -, -, i, i1, -⟩
  · exact hst
  · omega
theorem inn_none {fp : Nat → Int32} : ∀ n, inn fp n = -1 → ∀ i, i < n → (fp i).toInt ≤ 30
  | 0, _, i, hi => absurd hi (Nat.not_lt_zero _)
  | n + 1, h, i, hi => by
    by_cases q : 31 ≤ (fp n).toInt
    · rw [inn_hi q] at h; omega
    · rw [inn_lo (by omega)] at h
      by_cases e : i = n
      · subst e; omega
      · exact inn_none n h i (by omega)
theorem PS.below {lo : Int} {go ga fo fa fp fq : Nat → Int32} {nC pi a : Int} (h : PS lo go ga fo fa fp fq nC pi a) : ∀ k : Nat, (k : Int) < lo → fo k = go k ∧ fa k = ga k := h.2.2.1
noncomputable def bvf (o : Int) : Int := if 31 ≤ o then 0 else if o = 30 then 1 else if o = 29 then 2 else if o = 28 then 3 else if 25 ≤ o then 4 else if 22 ≤ o then 6 else 5
theorem bvf_pos {o : Int} (h : 1 ≤ bvf o) : o ≤ 30 := by
  unfold bvf at h
  (repeat' split at h) <;> omega
theorem bvf_lo {o : Int} (h : bvf o < 1) : 31 ≤ o := by
  unfold bvf at h
  (repeat' split at h) <;> omega
theorem bvf_5 {o : Int} (h : bvf o < 5) : 25 ≤ o := by
  unfold bvf at h
  (repeat' split at h) <;> omega
theorem PS.sq {lo : Int} {go ga fo fa fp fq : Nat → Int32} {nC pi a : Int} (h : PS lo go ga fo fa fp fq nC pi a) (hi : inn fp pi.toNat = 32) (ht : pi = 0 ∨ bvf (fp (pi - 1).toNat).toInt < 5) : 0 < pi ∧ 31 ≤ (fp (pi - 1).toNat).toInt := by
  have h0 : 0 < pi := by
    have h2 := h.1.2.2
    refine Classical.byContradiction (fun c => ?_)
    rw [show pi.toNat = 0 by omega] at hi
    have hi2 : (-1 : Int) = 32 := hi
    exact absurd hi2 (by decide)
  refine ⟨h0, Classical.byContradiction (fun c => ?_)⟩
  have h5 := bvf_5 (ht.resolve_left (by omega))
  rw [show pi.toNat = (pi - 1).toNat + 1 by omega, inn_lo (by omega)] at hi
  have := (h.2.1 (pi - 1).toNat (by omega)).2.2 hi
  omega
theorem PS.rd {lo : Int} {go ga fo fa fp fq : Nat → Int32} {nC pi a : Int} (h : PS lo go ga fo fa fp fq nC pi a) (hi : inn fp pi.toNat ≠ -1) (ht : pi = 0 ∨ bvf (fp (pi - 1).toNat).toInt < 1) : 0 < pi ∧ 31 ≤ (fp (pi - 1).toNat).toInt := by
  have h0 : 0 < pi := by
    have h2 := h.1.2.2
    refine Classical.byContradiction (fun c => hi ?_)
    rw [show pi.toNat = 0 by omega]; rfl
  exact ⟨h0, bvf_lo (ht.resolve_left (by omega))⟩
theorem PS.empty {lo : Int} {go ga fo fa fp fq : Nat → Int32} {nC pi a : Int} (h : PS lo go ga fo fa fp fq nC pi a) (hi : inn fp pi.toNat = -1) (ht : pi = 0 ∨ bvf (fp (pi - 1).toNat).toInt < 1) : pi = 0 := by
  refine Classical.byContradiction (fun c => ?_)
  have h2 := h.1.2.2
  have h1 := bvf_lo (ht.resolve_left c)
  have := inn_none pi.toNat hi (pi - 1).toNat (by omega)
  omega
noncomputable def TSt (tn lo : Int) (go ga fo fa fp fq : Nat → Int32) (nC pi : Int) : Prop := (tn = 0 ∧ PS lo go ga fo fa fp fq nC pi 0 ∧ inn fp pi.toNat ≠ 32) ∨ (tn = 1 ∧ PS lo go ga fo fa fp fq nC pi 0) ∨ (tn = 2 ∧ PS lo go ga fo fa fp fq nC pi 1 ∧ inn fp pi.toNat ≠ 32) ∨ (tn = 3 ∧ PS lo go ga fo fa fp fq nC pi 1) ∨ (tn = 4 ∧ PS lo go ga fo fa fp fq nC pi 1 ∧ inn fp pi.toNat = -1)
set_option maxRecDepth 100000 in
noncomputable def E_v_emit (x : Int32) (y : Int32) (nc : Int32) (fo : Nat → Int32) (fa : Nat → Int32) : Int32 × (Nat → Int32) × (Nat → Int32) :=
  Lt (upd fo (nc : Int32).toNatClampNeg x : Nat → Int32) (fun f_67 => Lt (upd fa (nc : Int32).toNatClampNeg y : Nat → Int32) (fun f_68 => Lt (nc + 1 : Int32) (fun x_69 => ((x_69, f_67, f_68) : Int32 × (Nat → Int32) × (Nat → Int32)))))
set_option maxHeartbeats 4000000 in
set_option maxRecDepth 100000 in
theorem v_emit (l : Launch) (D : va_G) (K : Nat → ClassId) (m0 : Nat) (x : Int32) (y : Int32) (m_0 : Value) (m_1 : Value) (m_2 : Value) (m_3 : Value) (m_4 : Value) (m_5 : Value) (m_6 : Value) (m_7 : Value) (m_8 : Value) (m_9 : Value) (m_10 : Value) (m_11 : Value) (m_12 : Value) (m_13 : Value) (m_14 : Value) (m_15 : Value) (m_16 : Value) (m_17 : Value) (m_18 : Value) (m_19 : Value) (m_20 : Value) (m_21 : Value) (m_22 : Value) (nc : Int32) (xo : Nat) (xa : Nat) (m_26 : Value) (m_27 : Value) (m_28 : Value) (m_29 : Value) (m_30 : Value) (m_31 : Value) (m_32 : Value) (m_33 : Value) (m_34 : Value) (m_35 : Value) (m_36 : Value) (m_37 : Value) (m_38 : Value) (m_39 : Value) (m_40 : Value) (m_41 : Value) (m_42 : Value) (m_43 : Value) (m_44 : Value) (m_45 : Value) (m_46 : Value) (m_47 : Value) (m_48 : Value) (m_49 : Value) (m_50 : Value) (m_51 : Value) (m_52 : Value) (m_53 : Value) (m_54 : Value) (m_55 : Value) (m_56 : Value) (m_57 : Value) (m_58 : Value) (m_59 : Value) (fo : Nat → Int32) (fa : Nat → Int32) (sz : Nat) (znc : 0 ≤ nc.toInt ∧ nc.toInt ≤ 399) : Met l yX12_emit wsX12_emit ({ frames := 0, cells := 0, slots := 0, locals := 0 }) (va_Pc [.ref m0, .int x, .int y] (Pre D K [(cc_O m0 12 [m_0, m_1, m_2, m_3, m_4, m_5, m_6, m_7, m_8, m_9, m_10, m_11, m_12, m_13, m_14, m_15, m_16, m_17, m_18, m_19, m_20, m_21, m_22, .int nc, .ref xo, .ref xa, m_26, m_27, m_28, m_29, m_30, m_31, m_32, m_33, m_34, m_35, m_36, m_37, m_38, m_39, m_40, m_41, m_42, m_43, m_44, m_45, m_46, m_47, m_48, m_49, m_50, m_51, m_52, m_53, m_54, m_55, m_56, m_57, m_58, m_59]), (cc_l xo (K 0) 400 fo), (cc_l xa (K 0) 400 fa)] sz)) (va_Qv (S := Su) (fun (u : Su) => (1 ≤ (u.2.2.2.1 0).toInt ∧ (u.2.2.2.1 0).toInt ≤ 400) ∧ (((u.2.2.2.1 0), (u.2.1 0), (u.2.1 1)) = E_v_emit x y nc fo fa) ∧ ((u.2.1 0) = upd fo nc.toInt.toNat x) ∧ ((u.2.1 1) = upd fa nc.toInt.toNat y) ∧ ((u.2.2.2.1 0).toInt = nc.toInt + 1) ∧ True) (fun u t => Wd D (va_A [(cc_O m0 12 [m_0, m_1, m_2, m_3, m_4, m_5, m_6, m_7, m_8, m_9, m_10, m_11, m_12, m_13, m_14, m_15, m_16, m_17, m_18, m_19, m_20, m_21, m_22, .int nc, .ref xo, .ref xa, m_26, m_27, m_28, m_29, m_30, m_31, m_32, m_33, m_34, m_35, m_36, m_37, m_38, m_39, m_40, m_41, m_42, m_43, m_44, m_45, m_46, m_47, m_48, m_49, m_50, m_51, m_52, m_53, m_54, m_55, m_56, m_57, m_58, m_59]), (cc_l xo (K 0) 400 fo), (cc_l xa (K 0) 400 fa)] sz) ((fun u => [(cc_O m0 12 [m_0, m_1, m_2, m_3, m_4, m_5, m_6, m_7, m_8, m_9, m_10, m_11, m_12, m_13, m_14, m_15, m_16, m_17, m_18, m_19, m_20, m_21, m_22, .int (u.2.2.2.1 0), .ref xo, .ref xa, m_26, m_27, m_28, m_29, m_30, m_31, m_32, m_33, m_34, m_35, m_36, m_37, m_38, m_39, m_40, m_41, m_42, m_43, m_44, m_45, m_46, m_47, m_48, m_49, m_50, m_51, m_52, m_53, m_54, m_55, m_56, m_57, m_58, m_59]), (cc_l xo (K 0) 400 (u.2.1 0)), (cc_l xa (K 0) 400 (u.2.1 1))]) u) t) (va_A [(cc_O m0 12 [m_0, m_1, m_2, m_3, m_4, m_5, m_6, m_7, m_8, m_9, m_10, m_11, m_12, m_13, m_14, m_15, m_16, m_17, m_18, m_19, m_20, m_21, m_22, .int nc, .ref xo, .ref xa, m_26, m_27, m_28, m_29, m_30, m_31, m_32, m_33, m_34, m_35, m_36, m_37, m_38, m_39, m_40, m_41, m_42, m_43, m_44, m_45, m_46, m_47, m_48, m_49, m_50, m_51, m_52, m_53, m_54, m_55, m_56, m_57, m_58, m_59]), (cc_l xo (K 0) 400 fo), (cc_l xa (K 0) 400 fa)] sz)) 0 0 (va_A [(cc_O m0 12 [m_0, m_1, m_2, m_3, m_4, m_5, m_6, m_7, m_8, m_9, m_10, m_11, m_12, m_13, m_14, m_15, m_16, m_17, m_18, m_19, m_20, m_21, m_22, .int nc, .ref xo, .ref xa, m_26, m_27, m_28, m_29, m_30, m_31, m_32, m_33, m_34, m_35, m_36, m_37, m_38, m_39, m_40, m_41, m_42, m_43, m_44, m_45, m_46, m_47, m_48, m_49, m_50, m_51, m_52, m_53, m_54, m_55, m_56, m_57, m_58, m_59]), (cc_l xo (K 0) 400 fo), (cc_l xa (K 0) 400 fa)] sz) := by
  refine Met.ofW (cc := cX12_emit) (maxL := 3) (ret := none) (by decide +kernel) rfl ?_
  intro p e s m args below meth c s₁ B hml hv
  obtain ⟨rfl, hsz, hP, hK, hD0, hN⟩ := hv
  have hx := B.exec
  have hb := B.bytes
  have hr := B.returns
  have hts := atoms_spec (ws := wsX12_emit) B.pre
  have hown : s.vm.findClass RX12 = some m.cls := findClass_of_methodNamed B.named
  have hlocks := B.notSynchronized
  subst hsz
  have hD := hD0.self (sz := s.heap.size)
  generalize hAe : va_A [(cc_O m0 12 [m_0, m_1, m_2, m_3, m_4, m_5, m_6, m_7, m_8, m_9, m_10, m_11, m_12, m_13, m_14, m_15, m_16, m_17, m_18, m_19, m_20, m_21, m_22, .int nc, .ref xo, .ref xa, m_26, m_27, m_28, m_29, m_30, m_31, m_32, m_33, m_34, m_35, m_36, m_37, m_38, m_39, m_40, m_41, m_42, m_43, m_44, m_45, m_46, m_47, m_48, m_49, m_50, m_51, m_52, m_53, m_54, m_55, m_56, m_57, m_58, m_59]), (cc_l xo (K 0) 400 fo), (cc_l xa (K 0) 400 fa)] s.heap.size = A at hD ⊢
  have hA : ∀ q : Nat, s.heap.size ≤ q → A q := fun q h => by rw [← hAe]; exact Or.inr h
  clear hAe
  have hS : va_S A s.heap s.heap [] := va_S.rf
  replace hP : va_P D vwCl [(cc_O m0 12 [m_0, m_1, m_2, m_3, m_4, m_5, m_6, m_7, m_8, m_9, m_10, m_11, m_12, m_13, m_14, m_15, m_16, m_17, m_18, m_19, m_20, m_21, m_22, .int nc, .ref xo, .ref xa, m_26, m_27, m_28, m_29, m_30, m_31, m_32, m_33, m_34, m_35, m_36, m_37, m_38, m_39, m_40, m_41, m_42, m_43, m_44, m_45, m_46, m_47, m_48, m_49, m_50, m_51, m_52, m_53, m_54, m_55, m_56, m_57, m_58, m_59]), (cc_l xo (K 0) 400 fo), (cc_l xa (K 0) 400 fa)] s.heap := hP
  have hl := lv_entry [.ref m0, .int x, .int y] (n := 3) (Nat.le_of_ble_eq_true rfl)
  rw [lg_entry_eq]
  generalize (lg_sl [.ref m0, .int x, .int y] ++ List.replicate (3 - (lg_sl [.ref m0, .int x, .int y]).length) Slot.unset).toArray = ls at hl ⊢
  have hl : lv_has ls 3 [(0, .ref m0), (1, .int x), (2, .int y)] := hl
  have hw12 : ∀ w ∈ wsX120, w ∈ wsX12_emit := fun w h => (List.mem_cons_of_mem _ (List.mem_append_right _ h))
  generalize hQ : MQ below _ _ s _ _ _ = Q
  have hE := E_v_emit.eq_def x y nc fo fa
  refine lv_aload_n hx hb dX12_emit_0 rfl (lv_at hl 0 rfl) (va_get (ci := 12) (v := .ref xo) (C := RX12) (T := TX12) (N := 60) hx hb hts hw12 hown hK hP 0 rfl rfl 24 (by decide +kernel) (hts _ mm_X12_emit_854) (fun _ h9 => h9) rfl dX12_emit_1 (lv_aload_n hx hb dX12_emit_4 rfl (lv_at hl 0 rfl) (va_get (ci := 12) (v := .int nc) (C := RX12) (T := TX12) (N := 60) hx hb hts hw12 hown hK hP 0 rfl rfl 23 (by decide +kernel) (hts _ mm_X12_emit_853) (fun _ h9 => h9) rfl dX12_emit_5 (lv_iload_n hx hb dX12_emit_8 rfl (lv_at hl 1 rfl) (va_iast hx hb hK hP hD hS 1 0 rfl rfl (i_in rfl (by omega)) dX12_emit_9 (fun H locs hP0 hD0 hS0 => ?_))))))
  replace hP := hP0
  replace hD := hD0
  replace hS := hS0
  clear hP0 hD0 hS0
  generalize hf_67 : (upd fo (nc : Int32).toNatClampNeg x) = f_67 at hP hD
  replace hE := hE.trans (Lt_in hf_67.symm)
  replace hP : va_P D vwCl [(cc_O m0 12 [m_0, m_1, m_2, m_3, m_4, m_5, m_6, m_7, m_8, m_9, m_10, m_11, m_12, m_13, m_14, m_15, m_16, m_17, m_18, m_19, m_20, m_21, m_22, .int nc, .ref xo, .ref xa, m_26, m_27, m_28, m_29, m_30, m_31, m_32, m_33, m_34, m_35, m_36, m_37, m_38, m_39, m_40, m_41, m_42, m_43, m_44, m_45, m_46, m_47, m_48, m_49, m_50, m_51, m_52, m_53, m_54, m_55, m_56, m_57, m_58, m_59]), (cc_l xo (K 0) 400 f_67), (cc_l xa (K 0) 400 fa)] H := hP
  replace hD := as_D hP hD rfl
  refine lv_aload_n hx hb dX12_emit_10 rfl (lv_at hl 0 rfl) (va_get (ci := 12) (v := .ref xa) (C := RX12) (T := TX12) (N := 60) hx hb hts hw12 hown hK hP 0 rfl rfl 25 (by decide +kernel) (hts _ mm_X12_emit_855) (fun _ h9 => h9) rfl dX12_emit_11 (lv_aload_n hx hb dX12_emit_14 rfl (lv_at hl 0 rfl) (va_get (ci := 12) (v := .int nc) (C := RX12) (T := TX12) (N := 60) hx hb hts hw12 hown hK hP 0 rfl rfl 23 (by decide +kernel) (hts _ mm_X12_emit_853) (fun _ h9 => h9) rfl dX12_emit_15 (lv_iload_n hx hb dX12_emit_18 rfl (lv_at hl 2 rfl) (va_iast hx hb hK hP hD hS 2 0 rfl rfl (i_in rfl (by omega)) dX12_emit_19 (fun H locs hP0 hD0 hS0 => ?_))))))
  replace hP := hP0
  replace hD := hD0
  replace hS := hS0
  clear hP0 hD0 hS0
  generalize hf_68 : (upd fa (nc : Int32).toNatClampNeg y) = f_68 at hP hD
  replace hE := hE.trans (Lt_in hf_68.symm)
  replace hP : va_P D vwCl [(cc_O m0 12 [m_0, m_1, m_2, m_3, m_4, m_5, m_6, m_7, m_8, m_9, m_10, m_11, m_12, m_13, m_14, m_15, m_16, m_17, m_18, m_19, m_20, m_21, m_22, .int nc, .ref xo, .ref xa, m_26, m_27, m_28, m_29, m_30, m_31, m_32, m_33, m_34, m_35, m_36, m_37, m_38, m_39, m_40, m_41, m_42, m_43, m_44, m_45, m_46, m_47, m_48, m_49, m_50, m_51, m_52, m_53, m_54, m_55, m_56, m_57, m_58, m_59]), (cc_l xo (K 0) 400 f_67), (cc_l xa (K 0) 400 f_68)] H := hP
  replace hD := as_D hP hD rfl
  refine lv_aload_n hx hb dX12_emit_20 rfl (lv_at hl 0 rfl) (lv_dup hx hb dX12_emit_21 rfl (va_get (ci := 12) (v := .int nc) (C := RX12) (T := TX12) (N := 60) hx hb hts hw12 hown hK hP 0 rfl rfl 23 (by decide +kernel) (hts _ mm_X12_emit_853) (fun _ h9 => h9) rfl dX12_emit_22 (lv_iconst (v := 1) hx hb dX12_emit_25 (by decide +kernel) (lv_iadd hx hb dX12_emit_26 (lv_topi (fun x_69 ex_69 => ?_))))))
  replace hE := hE.trans (Lt_in ex_69)
  have hx_69 : x_69.toInt = (nc.toInt + 1) := by rw [ex_69]; exact i_add rfl (show (1 : Int32).toInt = 1 from rfl) (by omega)
  refine va_put (ci := 12) (v := .int x_69) (ty := .int) (C := RX12) (T := TX12) (N := 60) hx hb hts hw12 tyX12 tyX12_ok nmX12 hown hK hP hD hS 0 rfl rfl 23 (by decide +kernel) (hts _ mm_X12_emit_853) (fun _ h9 => h9) rfl (by decide +kernel) (by first | rfl | decide) (by first | rfl | decide) (Nat.le_of_ble_eq_true rfl) dX12_emit_27 (fun H locs hP0 hD0 hS0 => ?_)
  replace hP : va_P D vwCl [(cc_O m0 12 [m_0, m_1, m_2, m_3, m_4, m_5, m_6, m_7, m_8, m_9, m_10, m_11, m_12, m_13, m_14, m_15, m_16, m_17, m_18, m_19, m_20, m_21, m_22, .int x_69, .ref xo, .ref xa, m_26, m_27, m_28, m_29, m_30, m_31, m_32, m_33, m_34, m_35, m_36, m_37, m_38, m_39, m_40, m_41, m_42, m_43, m_44, m_45, m_46, m_47, m_48, m_49, m_50, m_51, m_52, m_53, m_54, m_55, m_56, m_57, m_58, m_59]), (cc_l xo (K 0) 400 f_67), (cc_l xa (K 0) 400 f_68)] H := hP0
  replace hD := as_D hP hD0 rfl
  replace hS := hS0
  clear hP0 hD0 hS0
  rw [← hQ]
  have hP9 := hP.sub (ws' := [(cc_O m0 12 [m_0, m_1, m_2, m_3, m_4, m_5, m_6, m_7, m_8, m_9, m_10, m_11, m_12, m_13, m_14, m_15, m_16, m_17, m_18, m_19, m_20, m_21, m_22, .int x_69, .ref xo, .ref xa, m_26, m_27, m_28, m_29, m_30, m_31, m_32, m_33, m_34, m_35, m_36, m_37, m_38, m_39, m_40, m_41, m_42, m_43, m_44, m_45, m_46, m_47, m_48, m_49, m_50, m_51, m_52, m_53, m_54, m_55, m_56, m_57, m_58, m_59]), (cc_l xo (K 0) 400 f_67), (cc_l xa (K 0) 400 f_68)]) [0, 1, 2] rfl
  have hD9 := sub_D hP9 hD [0, 1, 2] (by decide +kernel) rfl
  exact W.vret hx hb hr (fun t ht hW => ⟨⟨((fun _ => 0, fun i => match i with | 0 => f_67 | _ => f_68, fun _ => fun _ => 0, fun i => match i with | _ => x_69, fun _ => 0, fun _ => fun _ => none) : Su), rfl, ⟨(show 1 ≤ (x_69 : Int32).toInt ∧ (x_69 : Int32).toInt ≤ 400 by rw [hx_69]; omega), hE.symm, (show f_67 = upd fo nc.toInt.toNat x by rw [← hf_67, i_clamp (x := nc) (z := nc.toInt) rfl]), (show f_68 = upd fa nc.toInt.toNat y by rw [← hf_68, i_clamp (x := nc) (z := nc.toInt) rfl]), (show (x_69 : Int32).toInt = nc.toInt + 1 by omega), trivial⟩, (⟨by rw [ht]; exact hP9, hD9⟩ : Wd D A _ t)⟩, hS.F ht⟩) hS.2.2 dX12_emit_30
set_option maxRecDepth 100000 in
noncomputable def E_v_push (x : Int32) (y : Int32) (pi : Int32) (fp : Nat → Int32) (fq : Nat → Int32) : Int32 × (Nat → Int32) × (Nat → Int32) :=
  Lt (upd fp (pi : Int32).toNatClampNeg x : Nat → Int32) (fun f_67 => Lt (upd fq (pi : Int32).toNatClampNeg y : Nat → Int32) (fun f_68 => Lt (pi + 1 : Int32) (fun x_69 => ((x_69, f_67, f_68) : Int32 × (Nat → Int32) × (Nat → Int32)))))
set_option maxHeartbeats 4000000 in
set_option maxRecDepth 100000 in
theorem v_push (l : Launch) (D : va_G) (K : Nat → ClassId) (m0 : Nat) (x : Int32) (y : Int32) (m_0 : Value) (m_1 : Value) (m_2 : Value) (m_3 : Value) (m_4 : Value) (m_5 : Value) (m_6 : Value) (m_7 : Value) (m_8 : Value) (m_9 : Value) (m_10 : Value) (m_11 : Value) (m_12 : Value) (m_13 : Value) (m_14 : Value) (m_15 : Value) (m_16 : Value) (m_17 : Value) (m_18 : Value) (m_19 : Value) (m_20 : Value) (m_21 : Value) (m_22 : Value) (m_23 : Value) (m_24 : Value) (m_25 : Value) (m_26 : Value) (xp : Nat) (xq : Nat) (pi : Int32) (m_30 : Value) (m_31 : Value) (m_32 : Value) (m_33 : Value) (m_34 : Value) (m_35 : Value) (m_36 : Value) (m_37 : Value) (m_38 : Value) (m_39 : Value) (m_40 : Value) (m_41 : Value) (m_42 : Value) (m_43 : Value) (m_44 : Value) (m_45 : Value) (m_46 : Value) (m_47 : Value) (m_48 : Value) (m_49 : Value) (m_50 : Value) (m_51 : Value) (m_52 : Value) (m_53 : Value) (m_54 : Value) (m_55 : Value) (m_56 : Value) (m_57 : Value) (m_58 : Value) (m_59 : Value) (fp : Nat → Int32) (fq : Nat → Int32) (sz : Nat) (zpi : 0 ≤ pi.toInt ∧ pi.toInt ≤ 399) (zy : 0 ≤ y.toInt ∧ y.toInt ≤ 399) (zfq : Rg 400 0 399 fq) : Met l yX12_push wsX12_push ({ frames := 0, cells := 0, slots := 0, locals := 0 }) (va_Pc [.ref m0, .int x, .int y] (Pre D K [(cc_O m0 12 [m_0, m_1, m_2, m_3, m_4, m_5, m_6, m_7, m_8, m_9, m_10, m_11, m_12, m_13, m_14, m_15, m_16, m_17, m_18, m_19, m_20, m_21, m_22, m_23, m_24, m_25, m_26, .ref xp, .ref xq, .int pi, m_30, m_31, m_32, m_33, m_34, m_35, m_36, m_37, m_38, m_39, m_40, m_41, m_42, m_43, m_44, m_45, m_46, m_47, m_48, m_49, m_50, m_51, m_52, m_53, m_54, m_55, m_56, m_57, m_58, m_59]), (cc_l xp (K 0) 400 fp), (cc_l xq (K 0) 400 fq)] sz)) (va_Qv (S := Su) (fun (u : Su) => (1 ≤ (u.2.2.2.1 0).toInt ∧ (u.2.2.2.1 0).toInt ≤ 400) ∧ (Rg 400 0 399 (u.2.1 1)) ∧ (((u.2.2.2.1 0), (u.2.1 0), (u.2.1 1)) = E_v_push x y pi fp fq) ∧ ((u.2.1 0) = upd fp pi.toInt.toNat x) ∧ ((u.2.1 1) = upd fq pi.toInt.toNat y) ∧ ((u.2.2.2.1 0).toInt = pi.toInt + 1) ∧ True) (fun u t => Wd D (va_A [(cc_O m0 12 [m_0, m_1, m_2, m_3, m_4, m_5, m_6, m_7, m_8, m_9, m_10, m_11, m_12, m_13, m_14, m_15, m_16, m_17, m_18, m_19, m_20, m_21, m_22, m_23, m_24, m_25, m_26, .ref xp, .ref xq, .int pi, m_30, m_31, m_32, m_33, m_34, m_35, m_36, m_37, m_38, m_39, m_40, m_41, m_42, m_43, m_44, m_45, m_46, m_47, m_48, m_49, m_50, m_51, m_52, m_53, m_54, m_55, m_56, m_57, m_58, m_59]), (cc_l xp (K 0) 400 fp), (cc_l xq (K 0) 400 fq)] sz) ((fun u => [(cc_O m0 12 [m_0, m_1, m_2, m_3, m_4, m_5, m_6, m_7, m_8, m_9, m_10, m_11, m_12, m_13, m_14, m_15, m_16, m_17, m_18, m_19, m_20, m_21, m_22, m_23, m_24, m_25, m_26, .ref xp, .ref xq, .int (u.2.2.2.1 0), m_30, m_31, m_32, m_33, m_34, m_35, m_36, m_37, m_38, m_39, m_40, m_41, m_42, m_43, m_44, m_45, m_46, m_47, m_48, m_49, m_50, m_51, m_52, m_53, m_54, m_55, m_56, m_57, m_58, m_59]), (cc_l xp (K 0) 400 (u.2.1 0)), (cc_l xq (K 0) 400 (u.2.1 1))]) u) t) (va_A [(cc_O m0 12 [m_0, m_1, m_2, m_3, m_4, m_5, m_6, m_7, m_8, m_9, m_10, m_11, m_12, m_13, m_14, m_15, m_16, m_17, m_18, m_19, m_20, m_21, m_22, m_23, m_24, m_25, m_26, .ref xp, .ref xq, .int pi, m_30, m_31, m_32, m_33, m_34, m_35, m_36, m_37, m_38, m_39, m_40, m_41, m_42, m_43, m_44, m_45, m_46, m_47, m_48, m_49, m_50, m_51, m_52, m_53, m_54, m_55, m_56, m_57, m_58, m_59]), (cc_l xp (K 0) 400 fp), (cc_l xq (K 0) 400 fq)] sz)) 0 0 (va_A [(cc_O m0 12 [m_0, m_1, m_2, m_3, m_4, m_5, m_6, m_7, m_8, m_9, m_10, m_11, m_12, m_13, m_14, m_15, m_16, m_17, m_18, m_19, m_20, m_21, m_22, m_23, m_24, m_25, m_26, .ref xp, .ref xq, .int pi, m_30, m_31, m_32, m_33, m_34, m_35, m_36, m_37, m_38, m_39, m_40, m_41, m_42, m_43, m_44, m_45, m_46, m_47, m_48, m_49, m_50, m_51, m_52, m_53, m_54, m_55, m_56, m_57, m_58, m_59]), (cc_l xp (K 0) 400 fp), (cc_l xq (K 0) 400 fq)] sz) := by
  refine Met.ofW (cc := cX12_push) (maxL := 3) (ret := none) (by decide +kernel) rfl ?_
  intro p e s m args below meth c s₁ B hml hv
  obtain ⟨rfl, hsz, hP, hK, hD0, hN⟩ := hv
  have hx := B.exec
  have hb := B.bytes
  have hr := B.returns
  have hts := atoms_spec (ws := wsX12_push) B.pre
  have hown : s.vm.findClass RX12 = some m.cls := findClass_of_methodNamed B.named
  have hlocks := B.notSynchronized
  subst hsz
  have hD := hD0.self (sz := s.heap.size)
  generalize hAe : va_A [(cc_O m0 12 [m_0, m_1, m_2, m_3, m_4, m_5, m_6, m_7, m_8, m_9, m_10, m_11, m_12, m_13, m_14, m_15, m_16, m_17, m_18, m_19, m_20, m_21, m_22, m_23, m_24, m_25, m_26, .ref xp, .ref xq, .int pi, m_30, m_31, m_32, m_33, m_34, m_35, m_36, m_37, m_38, m_39, m_40, m_41, m_42, m_43, m_44, m_45, m_46, m_47, m_48, m_49, m_50, m_51, m_52, m_53, m_54, m_55, m_56, m_57, m_58, m_59]), (cc_l xp (K 0) 400 fp), (cc_l xq (K 0) 400 fq)] s.heap.size = A at hD ⊢
  have hA : ∀ q : Nat, s.heap.size ≤ q → A q := fun q h => by rw [← hAe]; exact Or.inr h
  clear hAe
  have hS : va_S A s.heap s.heap [] := va_S.rf
  replace hP : va_P D vwCl [(cc_O m0 12 [m_0, m_1, m_2, m_3, m_4, m_5, m_6, m_7, m_8, m_9, m_10, m_11, m_12, m_13, m_14, m_15, m_16, m_17, m_18, m_19, m_20, m_21, m_22, m_23, m_24, m_25, m_26, .ref xp, .ref xq, .int pi, m_30, m_31, m_32, m_33, m_34, m_35, m_36, m_37, m_38, m_39, m_40, m_41, m_42, m_43, m_44, m_45, m_46, m_47, m_48, m_49, m_50, m_51, m_52, m_53, m_54, m_55, m_56, m_57, m_58, m_59]), (cc_l xp (K 0) 400 fp), (cc_l xq (K 0) 400 fq)] s.heap := hP
  have hl := lv_entry [.ref m0, .int x, .int y] (n := 3) (Nat.le_of_ble_eq_true rfl)
  rw [lg_entry_eq]
  generalize (lg_sl [.ref m0, .int x, .int y] ++ List.replicate (3 - (lg_sl [.ref m0, .int x, .int y]).length) Slot.unset).toArray = ls at hl ⊢
  have hl : lv_has ls 3 [(0, .ref m0), (1, .int x), (2, .int y)] := hl
  have hw12 : ∀ w ∈ wsX120, w ∈ wsX12_push := fun w h => (List.mem_cons_of_mem _ (List.mem_append_right _ h))
  generalize hQ : MQ below _ _ s _ _ _ = Q
  have hE := E_v_push.eq_def x y pi fp fq
  refine lv_aload_n hx hb dX12_push_0 rfl (lv_at hl 0 rfl) (va_get (ci := 12) (v := .ref xp) (C := RX12) (T := TX12) (N := 60) hx hb hts hw12 hown hK hP 0 rfl rfl 27 (by decide +kernel) (hts _ mm_X12_push_857) (fun _ h9 => h9) rfl dX12_push_1 (lv_aload_n hx hb dX12_push_4 rfl (lv_at hl 0 rfl) (va_get (ci := 12) (v := .int pi) (C := RX12) (T := TX12) (N := 60) hx hb hts hw12 hown hK hP 0 rfl rfl 29 (by decide +kernel) (hts _ mm_X12_push_859) (fun _ h9 => h9) rfl dX12_push_5 (lv_iload_n hx hb dX12_push_8 rfl (lv_at hl 1 rfl) (va_iast hx hb hK hP hD hS 1 0 rfl rfl (i_in rfl (by omega)) dX12_push_9 (fun H locs hP0 hD0 hS0 => ?_))))))
  replace hP := hP0
  replace hD := hD0
  replace hS := hS0
  clear hP0 hD0 hS0
  generalize hf_67 : (upd fp (pi : Int32).toNatClampNeg x) = f_67 at hP hD
  replace hE := hE.trans (Lt_in hf_67.symm)
  replace hP : va_P D vwCl [(cc_O m0 12 [m_0, m_1, m_2, m_3, m_4, m_5, m_6, m_7, m_8, m_9, m_10, m_11, m_12, m_13, m_14, m_15, m_16, m_17, m_18, m_19, m_20, m_21, m_22, m_23, m_24, m_25, m_26, .ref xp, .ref xq, .int pi, m_30, m_31, m_32, m_33, m_34, m_35, m_36, m_37, m_38, m_39, m_40, m_41, m_42, m_43, m_44, m_45, m_46, m_47, m_48, m_49, m_50, m_51, m_52, m_53, m_54, m_55, m_56, m_57, m_58, m_59]), (cc_l xp (K 0) 400 f_67), (cc_l xq (K 0) 400 fq)] H := hP
  replace hD := as_D hP hD rfl
  refine lv_aload_n hx hb dX12_push_10 rfl (lv_at hl 0 rfl) (va_get (ci := 12) (v := .ref xq) (C := RX12) (T := TX12) (N := 60) hx hb hts hw12 hown hK hP 0 rfl rfl 28 (by decide +kernel) (hts _ mm_X12_push_858) (fun _ h9 => h9) rfl dX12_push_11 (lv_aload_n hx hb dX12_push_14 rfl (lv_at hl 0 rfl) (va_get (ci := 12) (v := .int pi) (C := RX12) (T := TX12) (N := 60) hx hb hts hw12 hown hK hP 0 rfl rfl 29 (by decide +kernel) (hts _ mm_X12_push_859) (fun _ h9 => h9) rfl dX12_push_15 (lv_iload_n hx hb dX12_push_18 rfl (lv_at hl 2 rfl) (va_iast hx hb hK hP hD hS 2 0 rfl rfl (i_in rfl (by omega)) dX12_push_19 (fun H locs hP0 hD0 hS0 => ?_))))))
  replace hP := hP0
  replace hD := hD0
  replace hS := hS0
  clear hP0 hD0 hS0
  generalize hf_68 : (upd fq (pi : Int32).toNatClampNeg y) = f_68 at hP hD
  replace hE := hE.trans (Lt_in hf_68.symm)
  have hf_68_0 : Rg 400 0 399 f_68 := by rw [← hf_68]; exact Rg.upd zfq rfl (by omega)
  replace hP : va_P D vwCl [(cc_O m0 12 [m_0, m_1, m_2, m_3, m_4, m_5, m_6, m_7, m_8, m_9, m_10, m_11, m_12, m_13, m_14, m_15, m_16, m_17, m_18, m_19, m_20, m_21, m_22, m_23, m_24, m_25, m_26, .ref xp, .ref xq, .int pi, m_30, m_31, m_32, m_33, m_34, m_35, m_36, m_37, m_38, m_39, m_40, m_41, m_42, m_43, m_44, m_45, m_46, m_47, m_48, m_49, m_50, m_51, m_52, m_53, m_54, m_55, m_56, m_57, m_58, m_59]), (cc_l xp (K 0) 400 f_67), (cc_l xq (K 0) 400 f_68)] H := hP
  replace hD := as_D hP hD rfl
  refine lv_aload_n hx hb dX12_push_20 rfl (lv_at hl 0 rfl) (lv_dup hx hb dX12_push_21 rfl (va_get (ci := 12) (v := .int pi) (C := RX12) (T := TX12) (N := 60) hx hb hts hw12 hown hK hP 0 rfl rfl 29 (by decide +kernel) (hts _ mm_X12_push_859) (fun _ h9 => h9) rfl dX12_push_22 (lv_iconst (v := 1) hx hb dX12_push_25 (by decide +kernel) (lv_iadd hx hb dX12_push_26 (lv_topi (fun x_69 ex_69 => ?_))))))
  replace hE := hE.trans (Lt_in ex_69)
  have hx_69 : x_69.toInt = (pi.toInt + 1) := by rw [ex_69]; exact i_add rfl (show (1 : Int32).toInt = 1 from rfl) (by omega)
  refine va_put (ci := 12) (v := .int x_69) (ty := .int) (C := RX12) (T := TX12) (N := 60) hx hb hts hw12 tyX12 tyX12_ok nmX12 hown hK hP hD hS 0 rfl rfl 29 (by decide +kernel) (hts _ mm_X12_push_859) (fun _ h9 => h9) rfl (by decide +kernel) (by first | rfl | decide) (by first | rfl | decide) (Nat.le_of_ble_eq_true rfl) dX12_push_27 (fun H locs hP0 hD0 hS0 => ?_)
  replace hP : va_P D vwCl [(cc_O m0 12 [m_0, m_1, m_2, m_3, m_4, m_5, m_6, m_7, m_8, m_9, m_10, m_11, m_12, m_13, m_14, m_15, m_16, m_17, m_18, m_19, m_20, m_21, m_22, m_23, m_24, m_25, m_26, .ref xp, .ref xq, .int x_69, m_30, m_31, m_32, m_33, m_34, m_35, m_36, m_37, m_38, m_39, m_40, m_41, m_42, m_43, m_44, m_45, m_46, m_47, m_48, m_49, m_50, m_51, m_52, m_53, m_54, m_55, m_56, m_57, m_58, m_59]), (cc_l xp (K 0) 400 f_67), (cc_l xq (K 0) 400 f_68)] H := hP0
  replace hD := as_D hP hD0 rfl
  replace hS := hS0
  clear hP0 hD0 hS0
  rw [← hQ]
  have hP9 := hP.sub (ws' := [(cc_O m0 12 [m_0, m_1, m_2, m_3, m_4, m_5, m_6, m_7, m_8, m_9, m_10, m_11, m_12, m_13, m_14, m_15, m_16, m_17, m_18, m_19, m_20, m_21, m_22, m_23, m_24, m_25, m_26, .ref xp, .ref xq, .int x_69, m_30, m_31, m_32, m_33, m_34, m_35, m_36, m_37, m_38, m_39, m_40, m_41, m_42, m_43, m_44, m_45, m_46, m_47, m_48, m_49, m_50, m_51, m_52, m_53, m_54, m_55, m_56, m_57, m_58, m_59]), (cc_l xp (K 0) 400 f_67), (cc_l xq (K 0) 400 f_68)]) [0, 1, 2] rfl
  have hD9 := sub_D hP9 hD [0, 1, 2] (by decide +kernel) rfl
  exact W.vret hx hb hr (fun t ht hW => ⟨⟨((fun _ => 0, fun i => match i with | 0 => f_67 | _ => f_68, fun _ => fun _ => 0, fun i => match i with | _ => x_69, fun _ => 0, fun _ => fun _ => none) : Su), rfl, ⟨(show 1 ≤ (x_69 : Int32).toInt ∧ (x_69 : Int32).toInt ≤ 400 by rw [hx_69]; omega), hf_68_0, hE.symm, (show f_67 = upd fp pi.toInt.toNat x by rw [← hf_67, i_clamp (x := pi) (z := pi.toInt) rfl]), (show f_68 = upd fq pi.toInt.toNat y by rw [← hf_68, i_clamp (x := pi) (z := pi.toInt) rfl]), (show (x_69 : Int32).toInt = pi.toInt + 1 by omega), trivial⟩, (⟨by rw [ht]; exact hP9, hD9⟩ : Wd D A _ t)⟩, hS.F ht⟩) hS.2.2 dX12_push_30
set_option maxRecDepth 100000 in
noncomputable def E_v_binds (x : Int32) : Int32 :=
  if x < 31 then (if x = 30 then ((1 : Int32)) else (if x = 29 then ((2 : Int32)) else (if x = 28 then ((3 : Int32)) else (if x < 25 then (if x < 22 then ((5 : Int32)) else ((6 : Int32))) else ((4 : Int32)))))) else ((0 : Int32))
set_option maxHeartbeats 4000000 in
set_option maxRecDepth 100000 in
theorem v_binds (l : Launch) (D : va_G) (K : Nat → ClassId) (x : Int32) (sz : Nat) : Met l yX12_binds wsX12_binds ({ frames := 0, cells := 0, slots := 0, locals := 0 }) (va_Pc [.int x] (Pre D K [] sz)) (vp_Si (fun r : Int32 => (r.toInt = bvf x.toInt ∧ True) ∧ r = E_v_binds x)) 0 0 (fun _ => False) := by
  refine Met.ofW (cc := cX12_binds) (maxL := 1) (ret := (some .int)) (by decide +kernel) rfl ?_
  intro p e s m args below meth c s₁ B hml hv
  obtain ⟨rfl, hsz, hP, hK, hD0, hN⟩ := hv
  have hx := B.exec
  have hb := B.bytes
  have hr := B.returns
  have hts := atoms_spec (ws := wsX12_binds) B.pre
  have hown : s.vm.findClass RX12 = some m.cls := findClass_of_methodNamed B.named
  have hlocks := B.notSynchronized
  subst hsz
  have hD := hD0
  replace hP : va_P D vwCl [] s.heap := hP
  have hl := lv_entry [.int x] (n := 1) (Nat.le_of_ble_eq_true rfl)
  rw [lg_entry_eq]
  generalize (lg_sl [.int x] ++ List.replicate (1 - (lg_sl [.int x]).length) Slot.unset).toArray = ls at hl ⊢
  have hl : lv_has ls 1 [(0, .int x)] := hl
  generalize hQ : MQ below _ _ s _ _ _ = Q
  have hE := E_v_binds.eq_def x
  refine lv_iload_n hx hb dX12_binds_0 rfl (lv_at hl 0 rfl) (lv_bipush (v := 31) hx hb dX12_binds_1 (by decide +kernel) (lv_icmp_lt (tgt := 10) hx hb dX12_binds_3 (by decide +kernel) (fun c_67 => ?_) (fun c_67 => ?_)))
  · have c_67i := i_lt (x := x.toInt) (y := 31) rfl rfl c_67
    replace hE := hE.trans (if_pos c_67)
    refine lv_iload_n hx hb dX12_binds_10 rfl (lv_at hl 0 rfl) (lv_bipush (v := 30) hx hb dX12_binds_11 (by decide +kernel) (lv_icmp_ne (tgt := 20) hx hb dX12_binds_13 (by decide +kernel) (fun c_68 => ?_) (fun c_68 => ?_)))
    · have c_68i := i_ne (x := x.toInt) (y := 30) rfl rfl c_68
      replace hE := hE.trans (if_neg c_68)
      refine lv_iload_n hx hb dX12_binds_20 rfl (lv_at hl 0 rfl) (lv_bipush (v := 29) hx hb dX12_binds_21 (by decide +kernel) (lv_icmp_ne (tgt := 30) hx hb dX12_binds_23 (by decide +kernel) (fun c_69 => ?_) (fun c_69 => ?_)))
      · have c_69i := i_ne (x := x.toInt) (y := 29) rfl rfl c_69
        replace hE := hE.trans (if_neg c_69)
        refine lv_iload_n hx hb dX12_binds_30 rfl (lv_at hl 0 rfl) (lv_bipush (v := 28) hx hb dX12_binds_31 (by decide +kernel) (lv_icmp_ne (tgt := 40) hx hb dX12_binds_33 (by decide +kernel) (fun c_70 => ?_) (fun c_70 => ?_)))
        · have c_70i := i_ne (x := x.toInt) (y := 28) rfl rfl c_70
          replace hE := hE.trans (if_neg c_70)
          refine lv_iload_n hx hb dX12_binds_40 rfl (lv_at hl 0 rfl) (lv_bipush (v := 25) hx hb dX12_binds_41 (by decide +kernel) (lv_icmp_lt (tgt := 50) hx hb dX12_binds_43 (by decide +kernel) (fun c_71 => ?_) (fun c_71 => ?_)))
          · have c_71i := i_lt (x := x.toInt) (y := 25) rfl rfl c_71
            replace hE := hE.trans (if_pos c_71)
            refine lv_iload_n hx hb dX12_binds_50 rfl (lv_at hl 0 rfl) (lv_bipush (v := 22) hx hb dX12_binds_51 (by decide +kernel) (lv_icmp_lt (tgt := 61) hx hb dX12_binds_53 (by decide +kernel) (fun c_72 => ?_) (fun c_72 => ?_)))
            · have c_72i := i_lt (x := x.toInt) (y := 22) rfl rfl c_72
              replace hE := hE.trans (if_pos c_72)
              refine lv_iconst (v := 5) hx hb dX12_binds_61 (by decide +kernel) ?_
              rw [← hQ]
              exact W.iret (v := 5) hx hb hr (fun t ht hW => ⟨_, rfl, ⟨⟨(by show (5 : Int) = bvf x.toInt; unfold bvf; (repeat' split) <;> omega), trivial⟩, hE.symm⟩, ht⟩) (fun q hq => by cases hq) dX12_binds_62
            · have c_72i := i_nlt (x := x.toInt) (y := 22) rfl rfl c_72
              replace hE := hE.trans (if_neg c_72)
              refine lv_bipush (v := 6) hx hb dX12_binds_56 (by decide +kernel) (lv_goto (tgt := 62) hx hb dX12_binds_58 (by decide +kernel) ?_)
              rw [← hQ]
              exact W.iret (v := 6) hx hb hr (fun t ht hW => ⟨_, rfl, ⟨⟨(by show (6 : Int) = bvf x.toInt; unfold bvf; (repeat' split) <;> omega), trivial⟩, hE.symm⟩, ht⟩) (fun q hq => by cases hq) dX12_binds_62
          · have c_71i := i_nlt (x := x.toInt) (y := 25) rfl rfl c_71
            replace hE := hE.trans (if_neg c_71)
            refine lv_iconst (v := 4) hx hb dX12_binds_46 (by decide +kernel) (lv_goto (tgt := 62) hx hb dX12_binds_47 (by decide +kernel) ?_)
            rw [← hQ]
            exact W.iret (v := 4) hx hb hr (fun t ht hW => ⟨_, rfl, ⟨⟨(by show (4 : Int) = bvf x.toInt; unfold bvf; (repeat' split) <;> omega), trivial⟩, hE.symm⟩, ht⟩) (fun q hq => by cases hq) dX12_binds_62
        · have c_70i := i_eq (x := x.toInt) (y := 28) rfl rfl c_70
          replace hE := hE.trans (if_pos c_70)
          refine lv_iconst (v := 3) hx hb dX12_binds_36 (by decide +kernel) (lv_goto (tgt := 62) hx hb dX12_binds_37 (by decide +kernel) ?_)
          rw [← hQ]
          exact W.iret (v := 3) hx hb hr (fun t ht hW => ⟨_, rfl, ⟨⟨(by show (3 : Int) = bvf x.toInt; unfold bvf; (repeat' split) <;> omega), trivial⟩, hE.symm⟩, ht⟩) (fun q hq => by cases hq) dX12_binds_62
      · have c_69i := i_eq (x := x.toInt) (y := 29) rfl rfl c_69
        replace hE := hE.trans (if_pos c_69)
        refine lv_iconst (v := 2) hx hb dX12_binds_26 (by decide +kernel) (lv_goto (tgt := 62) hx hb dX12_binds_27 (by decide +kernel) ?_)
        rw [← hQ]
        exact W.iret (v := 2) hx hb hr (fun t ht hW => ⟨_, rfl, ⟨⟨(by show (2 : Int) = bvf x.toInt; unfold bvf; (repeat' split) <;> omega), trivial⟩, hE.symm⟩, ht⟩) (fun q hq => by cases hq) dX12_binds_62
    · have c_68i := i_eq (x := x.toInt) (y := 30) rfl rfl c_68
      replace hE := hE.trans (if_pos c_68)
      refine lv_iconst (v := 1) hx hb dX12_binds_16 (by decide +kernel) (lv_goto (tgt := 62) hx hb dX12_binds_17 (by decide +kernel) ?_)
      rw [← hQ]
      exact W.iret (v := 1) hx hb hr (fun t ht hW => ⟨_, rfl, ⟨⟨(by show (1 : Int) = bvf x.toInt; unfold bvf; (repeat' split) <;> omega), trivial⟩, hE.symm⟩, ht⟩) (fun q hq => by cases hq) dX12_binds_62
  · have c_67i := i_nlt (x := x.toInt) (y := 31) rfl rfl c_67
    replace hE := hE.trans (if_neg c_67)
    refine lv_iconst (v := 0) hx hb dX12_binds_6 (by decide +kernel) (lv_goto (tgt := 62) hx hb dX12_binds_7 (by decide +kernel) ?_)
    rw [← hQ]
    exact W.iret (v := 0) hx hb hr (fun t ht hW => ⟨_, rfl, ⟨⟨(by show (0 : Int) = bvf x.toInt; unfold bvf; (repeat' split) <;> omega), trivial⟩, hE.symm⟩, ht⟩) (fun q hq => by cases hq) dX12_binds_62
set_option maxRecDepth 100000 in
noncomputable def E_v_settle_l0 (x : Int32) (fp : Nat → Int32) (fq : Nat → Int32) (rec_437 : Int32 → Int32 → (Nat → Int32) → (Nat → Int32) → (Int32 × Int32 × (Nat → Int32) × (Nat → Int32))) (v_381 : Int32) (v_382 : Int32) (f_383 : Nat → Int32) (f_384 : Nat → Int32) : Int32 × Int32 × (Nat → Int32) × (Nat → Int32) :=
  if v_382 ≤ 0 then (((v_381, v_382, f_383, f_384) : Int32 × Int32 × (Nat → Int32) × (Nat → Int32))) else (Lt (v_382 - 1 : Int32) (fun x_440 => Lt (fp (x_440 : Int32).toNatClampNeg : Int32) (fun x_441 => Lt (E_v_binds x_441) (fun r_442 => if r_442 < x then (((v_381, v_382, f_383, f_384) : Int32 × Int32 × (Nat → Int32) × (Nat → Int32))) else (Lt (v_382 - 1 : Int32) (fun x_445 => Lt (fp (x_445 : Int32).toNatClampNeg : Int32) (fun x_446 => if x_446 = 29 then (Lt (fq (x_445 : Int32).toNatClampNeg : Int32) (fun x_448 => Lt (upd f_384 (x_448 : Int32).toNatClampNeg v_381 : Nat → Int32) (fun f_449 => rec_437 v_381 x_445 f_383 f_449))) else (Lt (fp (x_445 : Int32).toNatClampNeg : Int32) (fun x_450 => if x_450 = 30 then (Lt (fq (x_445 : Int32).toNatClampNeg : Int32) (fun x_461 => Lt (upd f_384 (x_461 : Int32).toNatClampNeg v_381 : Nat → Int32) (fun f_462 => rec_437 v_381 x_445 f_383 f_462))) else (Lt (fp (x_445 : Int32).toNatClampNeg : Int32) (fun x_452 => Lt2 (E_v_emit x_452 0 v_381 f_383 f_384) (fun u_455_2_2_2_1_0 q0_u_455_2_2_2_1_0 => Lt2 q0_u_455_2_2_2_1_0 (fun u_455_2_1_0 u_455_2_1_1 => rec_437 u_455_2_2_2_1_0 x_445 u_455_2_1_0 u_455_2_1_1)))))))))))))
set_option maxRecDepth 100000 in
noncomputable def E_v_settle (go : Nat → Int32) (ga : Nat → Int32) (x : Int32) (nc : Int32) (pi : Int32) (fo : Nat → Int32) (fa : Nat → Int32) (fp : Nat → Int32) (fq : Nat → Int32) : Int32 × Int32 × (Nat → Int32) × (Nat → Int32) :=
  Lp (α := Int32 → Int32 → (Nat → Int32) → (Nat → Int32) → (Int32 × Int32 × (Nat → Int32) × (Nat → Int32))) (E_v_settle_l0 x fp fq) (fun _ _ _ _ => ((0, 0, fun _ => 0, fun _ => 0) : Int32 × Int32 × (Nat → Int32) × (Nat → Int32))) (((pi : Int32).toInt : Int).toNat + 1) nc pi fo fa
set_option maxHeartbeats 4000000 in
set_option maxRecDepth 100000 in
theorem v_settle (l : Launch) (D : va_G) (K : Nat → ClassId) (lo : Int) (gg : Int) (go : Nat → Int32) (ga : Nat → Int32) (m0 : Nat) (x : Int32) (m_0 : Value) (m_1 : Value) (m_2 : Value) (m_3 : Value) (m_4 : Value) (m_5 : Value) (m_6 : Value) (m_7 : Value) (m_8 : Value) (m_9 : Value) (m_10 : Value) (m_11 : Value) (m_12 : Value) (m_13 : Value) (m_14 : Value) (m_15 : Value) (m_16 : Value) (m_17 : Value) (m_18 : Value) (m_19 : Value) (m_20 : Value) (m_21 : Value) (m_22 : Value) (nc : Int32) (xo : Nat) (xa : Nat) (m_26 : Value) (xp : Nat) (xq : Nat) (pi : Int32) (m_30 : Value) (m_31 : Value) (m_32 : Value) (m_33 : Value) (m_34 : Value) (m_35 : Value) (m_36 : Value) (m_37 : Value) (m_38 : Value) (m_39 : Value) (m_40 : Value) (m_41 : Value) (m_42 : Value) (m_43 : Value) (m_44 : Value) (m_45 : Value) (m_46 : Value) (m_47 : Value) (m_48 : Value) (m_49 : Value) (m_50 : Value) (m_51 : Value) (m_52 : Value) (m_53 : Value) (m_54 : Value) (m_55 : Value) (m_56 : Value) (m_57 : Value) (m_58 : Value) (m_59 : Value) (fo : Nat → Int32) (fa : Nat → Int32) (fp : Nat → Int32) (fq : Nat → Int32) (sz : Nat) (znc : 0 ≤ nc.toInt ∧ nc.toInt ≤ 400) (zpi : 0 ≤ pi.toInt ∧ pi.toInt ≤ 400) (zcp : nc.toInt + pi.toInt ≤ 400) (zx : 1 ≤ x.toInt) (hps : (gg = 0 → PS lo go ga fo fa fp fq nc.toInt pi.toInt 1)) (zfq : Rg 400 0 399 fq) : Met l yX12_settle wsX12_settle ({ frames := 1, cells := 0, slots := 0, locals := 22 }) (va_Pc [.ref m0, .int x] (Pre D K [(cc_O m0 12 [m_0, m_1, m_2, m_3, m_4, m_5, m_6, m_7, m_8, m_9, m_10, m_11, m_12, m_13, m_14, m_15, m_16, m_17, m_18, m_19, m_20, m_21, m_22, .int nc, .ref xo, .ref xa, m_26, .ref xp, .ref xq, .int pi, m_30, m_31, m_32, m_33, m_34, m_35, m_36, m_37, m_38, m_39, m_40, m_41, m_42, m_43, m_44, m_45, m_46, m_47, m_48, m_49, m_50, m_51, m_52, m_53, m_54, m_55, m_56, m_57, m_58, m_59]), (cc_l xo (K 0) 400 fo), (cc_l xa (K 0) 400 fa), (cc_l xp (K 0) 400 fp), (cc_l xq (K 0) 400 fq)] sz)) (va_Qv (S := Su) (fun (u : Su) => (0 ≤ (u.2.2.2.1 0).toInt ∧ (u.2.2.2.1 0).toInt ≤ 400) ∧ (0 ≤ (u.2.2.2.1 1).toInt ∧ (u.2.2.2.1 1).toInt ≤ 400) ∧ (((u.2.2.2.1 0), (u.2.2.2.1 1), (u.2.1 0), (u.2.1 1)) = E_v_settle go ga x nc pi fo fa fp fq) ∧ ((gg = 0 → PS lo go ga (u.2.1 0) (u.2.1 1) fp fq (u.2.2.2.1 0).toInt (u.2.2.2.1 1).toInt 1)) ∧ ((u.2.2.2.1 0).toInt + (u.2.2.2.1 1).toInt ≤ nc.toInt + pi.toInt ∧ (u.2.2.2.1 1).toInt ≤ pi.toInt ∧ nc.toInt ≤ (u.2.2.2.1 0).toInt ∧ 0 ≤ (u.2.2.2.1 1).toInt) ∧ (((u.2.2.2.1 1).toInt = 0 ∨ bvf (fp ((u.2.2.2.1 1).toInt - 1).toNat).toInt < x.toInt)) ∧ (inn fp ((u.2.2.2.1 1).toInt).toNat = inn fp pi.toInt.toNat) ∧ True) (fun u t => Wd D (va_A [(cc_O m0 12 [m_0, m_1, m_2, m_3, m_4, m_5, m_6, m_7, m_8, m_9, m_10, m_11, m_12, m_13, m_14, m_15, m_16, m_17, m_18, m_19, m_20, m_21, m_22, .int nc, .ref xo, .ref xa, m_26, .ref xp, .ref xq, .int pi, m_30, m_31, m_32, m_33, m_34, m_35, m_36, m_37, m_38, m_39, m_40, m_41, m_42, m_43, m_44, m_45, m_46, m_47, m_48, m_49, m_50, m_51, m_52, m_53, m_54, m_55, m_56, m_57, m_58, m_59]), (cc_l xo (K 0) 400 fo), (cc_l xa (K 0) 400 fa), (cc_l xp (K 0) 400 fp), (cc_l xq (K 0) 400 fq)] sz) ((fun u => [(cc_O m0 12 [m_0, m_1, m_2, m_3, m_4, m_5, m_6, m_7, m_8, m_9, m_10, m_11, m_12, m_13, m_14, m_15, m_16, m_17, m_18, m_19, m_20, m_21, m_22, .int (u.2.2.2.1 0), .ref xo, .ref xa, m_26, .ref xp, .ref xq, .int (u.2.2.2.1 1), m_30, m_31, m_32, m_33, m_34, m_35, m_36, m_37, m_38, m_39, m_40, m_41, m_42, m_43, m_44, m_45, m_46, m_47, m_48, m_49, m_50, m_51, m_52, m_53, m_54, m_55, m_56, m_57, m_58, m_59]), (cc_l xo (K 0) 400 (u.2.1 0)), (cc_l xa (K 0) 400 (u.2.1 1)), (cc_l xp (K 0) 400 fp), (cc_l xq (K 0) 400 fq)]) u) t) (va_A [(cc_O m0 12 [m_0, m_1, m_2, m_3, m_4, m_5, m_6, m_7, m_8, m_9, m_10, m_11, m_12, m_13, m_14, m_15, m_16, m_17, m_18, m_19, m_20, m_21, m_22, .int nc, .ref xo, .ref xa, m_26, .ref xp, .ref xq, .int pi, m_30, m_31, m_32, m_33, m_34, m_35, m_36, m_37, m_38, m_39, m_40, m_41, m_42, m_43, m_44, m_45, m_46, m_47, m_48, m_49, m_50, m_51, m_52, m_53, m_54, m_55, m_56, m_57, m_58, m_59]), (cc_l xo (K 0) 400 fo), (cc_l xa (K 0) 400 fa), (cc_l xp (K 0) 400 fp), (cc_l xq (K 0) 400 fq)] sz)) 0 0 (va_A [(cc_O m0 12 [m_0, m_1, m_2, m_3, m_4, m_5, m_6, m_7, m_8, m_9, m_10, m_11, m_12, m_13, m_14, m_15, m_16, m_17, m_18, m_19, m_20, m_21, m_22, .int nc, .ref xo, .ref xa, m_26, .ref xp, .ref xq, .int pi, m_30, m_31, m_32, m_33, m_34, m_35, m_36, m_37, m_38, m_39, m_40, m_41, m_42, m_43, m_44, m_45, m_46, m_47, m_48, m_49, m_50, m_51, m_52, m_53, m_54, m_55, m_56, m_57, m_58, m_59]), (cc_l xo (K 0) 400 fo), (cc_l xa (K 0) 400 fa), (cc_l xp (K 0) 400 fp), (cc_l xq (K 0) 400 fq)] sz) := by
  refine Met.ofW (cc := cX12_settle) (maxL := 2) (ret := none) (by decide +kernel) rfl ?_
  intro p e s m args below meth c s₁ B hml hv
  obtain ⟨rfl, hsz, hP, hK, hD0, hN⟩ := hv
  have hx := B.exec
  have hb := B.bytes
  have hr := B.returns
  have hts := atoms_spec (ws := wsX12_settle) B.pre
  have hown : s.vm.findClass RX12 = some m.cls := findClass_of_methodNamed B.named
  have hlocks := B.notSynchronized
  subst hsz
  have hD := hD0.self (sz := s.heap.size)
  generalize hAe : va_A [(cc_O m0 12 [m_0, m_1, m_2, m_3, m_4, m_5, m_6, m_7, m_8, m_9, m_10, m_11, m_12, m_13, m_14, m_15, m_16, m_17, m_18, m_19, m_20, m_21, m_22, .int nc, .ref xo, .ref xa, m_26, .ref xp, .ref xq, .int pi, m_30, m_31, m_32, m_33, m_34, m_35, m_36, m_37, m_38, m_39, m_40, m_41, m_42, m_43, m_44, m_45, m_46, m_47, m_48, m_49, m_50, m_51, m_52, m_53, m_54, m_55, m_56, m_57, m_58, m_59]), (cc_l xo (K 0) 400 fo), (cc_l xa (K 0) 400 fa), (cc_l xp (K 0) 400 fp), (cc_l xq (K 0) 400 fq)] s.heap.size = A at hD ⊢
  have hA : ∀ q : Nat, s.heap.size ≤ q → A q := fun q h => by rw [← hAe]; exact Or.inr h
  clear hAe
  have hS : va_S A s.heap s.heap [] := va_S.rf
  replace hP : va_P D vwCl [(cc_O m0 12 [m_0, m_1, m_2, m_3, m_4, m_5, m_6, m_7, m_8, m_9, m_10, m_11, m_12, m_13, m_14, m_15, m_16, m_17, m_18, m_19, m_20, m_21, m_22, .int nc, .ref xo, .ref xa, m_26, .ref xp, .ref xq, .int pi, m_30, m_31, m_32, m_33, m_34, m_35, m_36, m_37, m_38, m_39, m_40, m_41, m_42, m_43, m_44, m_45, m_46, m_47, m_48, m_49, m_50, m_51, m_52, m_53, m_54, m_55, m_56, m_57, m_58, m_59]), (cc_l xo (K 0) 400 fo), (cc_l xa (K 0) 400 fa), (cc_l xp (K 0) 400 fp), (cc_l xq (K 0) 400 fq)] s.heap := hP
  have hl := lv_entry [.ref m0, .int x] (n := 2) (Nat.le_of_ble_eq_true rfl)
  rw [lg_entry_eq]
  generalize (lg_sl [.ref m0, .int x] ++ List.replicate (2 - (lg_sl [.ref m0, .int x]).length) Slot.unset).toArray = ls at hl ⊢
  have hl : lv_has ls 2 [(0, .ref m0), (1, .int x)] := hl
  have hw12 : ∀ w ∈ wsX120, w ∈ wsX12_settle := fun w h => (List.mem_cons_of_mem _ (List.mem_append_right _ h))
  generalize hQ : MQ below _ _ s _ _ _ = Q
  have hE := E_v_settle.eq_def go ga x nc pi fo fa fp fq
  have lp_437 : ∀ (nn_ : Nat) (v_381 : Int32) (v_382 : Int32) (f_383 : Nat → Int32) (f_384 : Nat → Int32) (hv_381 : 0 ≤ v_381.toInt ∧ v_381.toInt ≤ 400) (hv_382 : 0 ≤ v_382.toInt ∧ v_382.toInt ≤ 400) (hr0_lp_437 : (gg = 0 → PS lo go ga f_383 f_384 fp fq v_381.toInt v_382.toInt 1)) (hr1_lp_437 : v_381.toInt + v_382.toInt ≤ nc.toInt + pi.toInt ∧ v_382.toInt ≤ pi.toInt ∧ nc.toInt ≤ v_381.toInt ∧ 0 ≤ v_382.toInt) (hr2_lp_437 : inn fp (v_382.toInt).toNat = inn fp pi.toInt.toNat) (hn : (v_382.toInt : Int).toNat < nn_) (hE : E_v_settle go ga x nc pi fo fa fp fq = Lp (α := Int32 → Int32 → (Nat → Int32) → (Nat → Int32) → (Int32 × Int32 × (Nat → Int32) × (Nat → Int32))) (E_v_settle_l0 x fp fq) (fun _ _ _ _ => ((0, 0, fun _ => 0, fun _ => 0) : Int32 × Int32 × (Nat → Int32) × (Nat → Int32))) nn_ v_381 v_382 f_383 f_384) (H : Heap) (locs : List Loc) (hP : va_P D vwCl [(cc_O m0 12 [m_0, m_1, m_2, m_3, m_4, m_5, m_6, m_7, m_8, m_9, m_10, m_11, m_12, m_13, m_14, m_15, m_16, m_17, m_18, m_19, m_20, m_21, m_22, .int v_381, .ref xo, .ref xa, m_26, .ref xp, .ref xq, .int v_382, m_30, m_31, m_32, m_33, m_34, m_35, m_36, m_37, m_38, m_39, m_40, m_41, m_42, m_43, m_44, m_45, m_46, m_47, m_48, m_49, m_50, m_51, m_52, m_53, m_54, m_55, m_56, m_57, m_58, m_59]), (cc_l xo (K 0) 400 f_383), (cc_l xa (K 0) 400 f_384), (cc_l xp (K 0) 400 fp), (cc_l xq (K 0) 400 fq)] H) (hD : va_D A [(cc_O m0 12 [m_0, m_1, m_2, m_3, m_4, m_5, m_6, m_7, m_8, m_9, m_10, m_11, m_12, m_13, m_14, m_15, m_16, m_17, m_18, m_19, m_20, m_21, m_22, .int v_381, .ref xo, .ref xa, m_26, .ref xp, .ref xq, .int v_382, m_30, m_31, m_32, m_33, m_34, m_35, m_36, m_37, m_38, m_39, m_40, m_41, m_42, m_43, m_44, m_45, m_46, m_47, m_48, m_49, m_50, m_51, m_52, m_53, m_54, m_55, m_56, m_57, m_58, m_59]), (cc_l xo (K 0) 400 f_383), (cc_l xa (K 0) 400 f_384), (cc_l xp (K 0) 400 fp), (cc_l xq (K 0) 400 fq)]) (hS : va_S A s.heap H locs) (ls : Array Slot) (hl : lv_has ls 2 [(0, .ref m0), (1, .int x)]), W p l e ({ frames := 1, cells := 0, slots := 0, locals := 22 }) s m (([.ref m0, .int x] : List Value).toArray) below meth c H locs 0 0 Q (F0 m 0 ls []) := by
    clear hE hP hD hS hl
    intro nn_
    induction nn_ with
    | zero =>
      intro v_381 v_382 f_383 f_384 hv_381 hv_382 hr0_lp_437 hr1_lp_437 hr2_lp_437 hn hE H locs hP hD hS ls hl
      exact absurd hn (Nat.not_lt_zero _)
    | succ nn_ ih_438 =>
      intro v_381 v_382 f_383 f_384 hv_381 hv_382 hr0_lp_437 hr1_lp_437 hr2_lp_437 hn hE H locs hP hD hS ls hl
      replace hE : E_v_settle go ga x nc pi fo fa fp fq = E_v_settle_l0 x fp fq (Lp (α := Int32 → Int32 → (Nat → Int32) → (Nat → Int32) → (Int32 × Int32 × (Nat → Int32) × (Nat → Int32))) (E_v_settle_l0 x fp fq) (fun _ _ _ _ => ((0, 0, fun _ => 0, fun _ => 0) : Int32 × Int32 × (Nat → Int32) × (Nat → Int32))) nn_) v_381 v_382 f_383 f_384 := hE
      obtain ⟨rec_437, hrec_437⟩ : ∃ z9, z9 = Lp (α := Int32 → Int32 → (Nat → Int32) → (Nat → Int32) → (Int32 × Int32 × (Nat → Int32) × (Nat → Int32))) (E_v_settle_l0 x fp fq) (fun _ _ _ _ => ((0, 0, fun _ => 0, fun _ => 0) : Int32 × Int32 × (Nat → Int32) × (Nat → Int32))) nn_ := ⟨_, rfl⟩
      rw [← hrec_437] at hE
      replace hE := hE.trans (E_v_settle_l0.eq_def _ _ _ _ _ _ _ _)
      refine lv_aload_n hx hb dX12_settle_0 rfl (lv_at hl 0 rfl) (va_get (ci := 12) (v := .int v_382) (C := RX12) (T := TX12) (N := 60) hx hb hts hw12 hown hK hP 0 rfl rfl 29 (by decide +kernel) (hts _ mm_X12_settle_859) (fun _ h9 => h9) rfl dX12_settle_1 (lv_if_le (tgt := 101) hx hb dX12_settle_4 (by decide +kernel) (fun c_439 => ?_) (fun c_439 => ?_)))
      · have c_439i := i_le (x := v_382.toInt) (y := 0) rfl rfl c_439
        replace hE := hE.trans (if_pos c_439)
        rw [← hQ]
        have hP9 := hP.sub (ws' := [(cc_O m0 12 [m_0, m_1, m_2, m_3, m_4, m_5, m_6, m_7, m_8, m_9, m_10, m_11, m_12, m_13, m_14, m_15, m_16, m_17, m_18, m_19, m_20, m_21, m_22, .int v_381, .ref xo, .ref xa, m_26, .ref xp, .ref xq, .int v_382, m_30, m_31, m_32, m_33, m_34, m_35, m_36, m_37, m_38, m_39, m_40, m_41, m_42, m_43, m_44, m_45, m_46, m_47, m_48, m_49, m_50, m_51, m_52, m_53, m_54, m_55, m_56, m_57, m_58, m_59]), (cc_l xo (K 0) 400 f_383), (cc_l xa (K 0) 400 f_384), (cc_l xp (K 0) 400 fp), (cc_l xq (K 0) 400 fq)]) [0, 1, 2, 3, 4] rfl
        have hD9 := sub_D hP9 hD [0, 1, 2, 3, 4] (by decide +kernel) rfl
        exact W.vret hx hb hr (fun t ht hW => ⟨⟨((fun _ => 0, fun i => match i with | 0 => f_383 | _ => f_384, fun _ => fun _ => 0, fun i => match i with | 0 => v_381 | _ => v_382, fun _ => 0, fun _ => fun _ => none) : Su), rfl, ⟨(show 0 ≤ (v_381 : Int32).toInt ∧ (v_381 : Int32).toInt ≤ 400 by omega), (show 0 ≤ (v_382 : Int32).toInt ∧ (v_382 : Int32).toInt ≤ 400 by omega), hE.symm, (show (gg = 0 → PS lo go ga f_383 f_384 fp fq (v_381 : Int32).toInt (v_382 : Int32).toInt 1) by exact hr0_lp_437), (show (v_381 : Int32).toInt + (v_382 : Int32).toInt ≤ nc.toInt + pi.toInt ∧ (v_382 : Int32).toInt ≤ pi.toInt ∧ nc.toInt ≤ (v_381 : Int32).toInt ∧ 0 ≤ (v_382 : Int32).toInt by omega), (show ((v_382 : Int32).toInt = 0 ∨ bvf (fp ((v_382 : Int32).toInt - 1).toNat).toInt < x.toInt) by omega), (show inn fp ((v_382 : Int32).toInt).toNat = inn fp pi.toInt.toNat by exact hr2_lp_437), trivial⟩, (⟨by rw [ht]; exact hP9, hD9⟩ : Wd D A _ t)⟩, hS.F ht⟩) hS.2.2 dX12_settle_101
      · have c_439i := i_nle (x := v_382.toInt) (y := 0) rfl rfl c_439
        replace hE := hE.trans (if_neg c_439)
        refine lv_aload_n hx hb dX12_settle_7 rfl (lv_at hl 0 rfl) (va_get (ci := 12) (v := .ref xp) (C := RX12) (T := TX12) (N := 60) hx hb hts hw12 hown hK hP 0 rfl rfl 27 (by decide +kernel) (hts _ mm_X12_settle_857) (fun _ h9 => h9) rfl dX12_settle_8 (lv_aload_n hx hb dX12_settle_11 rfl (lv_at hl 0 rfl) (va_get (ci := 12) (v := .int v_382) (C := RX12) (T := TX12) (N := 60) hx hb hts hw12 hown hK hP 0 rfl rfl 29 (by decide +kernel) (hts _ mm_X12_settle_859) (fun _ h9 => h9) rfl dX12_settle_12 (lv_iconst (v := 1) hx hb dX12_settle_15 (by decide +kernel) (lv_isub hx hb dX12_settle_16 (lv_topi (fun x_440 ex_440 => ?_)))))))
        replace hE := hE.trans (Lt_in ex_440)
        have hx_440 : x_440.toInt = (v_382.toInt - 1) := by rw [ex_440]; exact i_sub rfl (show (1 : Int32).toInt = 1 from rfl) (by omega)
        refine va_iald hx hb hK hP 3 0 rfl rfl (i_in hx_440 (by omega)) dX12_settle_17 (lv_topi (fun x_441 ex_441 => ?_))
        replace hE := hE.trans (Lt_in ex_441)
        have tx_441 : x_441 = fp ((v_382.toInt - 1)).toNat := by rw [ex_441, i_clamp hx_440]
        have tix_441 : x_441.toInt = (fp ((v_382.toInt - 1)).toNat).toInt := by rw [tx_441]
        refine pci (va_runS (As := [.int x_441]) (rest := []) ⟨hx, hb, hml, hown, hts⟩ (v_binds l D K x_441 H.size) (va_cwS 1 hts gX12_settle_X12_binds rfl rfl rfl (by decide +kernel) ⟨Nat.le_of_ble_eq_true rfl, Nat.le_of_ble_eq_true rfl⟩) (mkS hK hN (va_P.nil) (va_D.nil (A := fun _ => True))) rfl rfl hl.1 rfl (lv_room (Nat.le_of_ble_eq_true rfl)) dX12_settle_18 ⟨Nat.le_of_ble_eq_true rfl, Nat.le_of_ble_eq_true rfl⟩) (fun r_442 hw => ?_)
        obtain ⟨hw, k_443⟩ := hw
        replace hE := hE.trans (Lt_in k_443)
        obtain ⟨hbv_r_442, -⟩ := hw
        have hbr_r_442 : 0 ≤ r_442.toInt ∧ r_442.toInt ≤ 6 := by rw [hbv_r_442]; unfold bvf; (repeat' split) <;> omega
        refine lv_iload_n hx hb dX12_settle_21 rfl (lv_at hl 1 rfl) (lv_icmp_lt (tgt := 101) hx hb dX12_settle_22 (by decide +kernel) (fun c_444 => ?_) (fun c_444 => ?_))
        · have c_444i := i_lt (x := r_442.toInt) (y := x.toInt) rfl rfl c_444
          replace hE := hE.trans (if_pos c_444)
          rw [← hQ]
          have hP9 := hP.sub (ws' := [(cc_O m0 12 [m_0, m_1, m_2, m_3, m_4, m_5, m_6, m_7, m_8, m_9, m_10, m_11, m_12, m_13, m_14, m_15, m_16, m_17, m_18, m_19, m_20, m_21, m_22, .int v_381, .ref xo, .ref xa, m_26, .ref xp, .ref xq, .int v_382, m_30, m_31, m_32, m_33, m_34, m_35, m_36, m_37, m_38, m_39, m_40, m_41, m_42, m_43, m_44, m_45, m_46, m_47, m_48, m_49, m_50, m_51, m_52, m_53, m_54, m_55, m_56, m_57, m_58, m_59]), (cc_l xo (K 0) 400 f_383), (cc_l xa (K 0) 400 f_384), (cc_l xp (K 0) 400 fp), (cc_l xq (K 0) 400 fq)]) [0, 1, 2, 3, 4] rfl
          have hD9 := sub_D hP9 hD [0, 1, 2, 3, 4] (by decide +kernel) rfl
          exact W.vret hx hb hr (fun t ht hW => ⟨⟨((fun _ => 0, fun i => match i with | 0 => f_383 | _ => f_384, fun _ => fun _ => 0, fun i => match i with | 0 => v_381 | _ => v_382, fun _ => 0, fun _ => fun _ => none) : Su), rfl, ⟨(show 0 ≤ (v_381 : Int32).toInt ∧ (v_381 : Int32).toInt ≤ 400 by omega), (show 0 ≤ (v_382 : Int32).toInt ∧ (v_382 : Int32).toInt ≤ 400 by omega), hE.symm, (show (gg = 0 → PS lo go ga f_383 f_384 fp fq (v_381 : Int32).toInt (v_382 : Int32).toInt 1) by exact hr0_lp_437), (show (v_381 : Int32).toInt + (v_382 : Int32).toInt ≤ nc.toInt + pi.toInt ∧ (v_382 : Int32).toInt ≤ pi.toInt ∧ nc.toInt ≤ (v_381 : Int32).toInt ∧ 0 ≤ (v_382 : Int32).toInt by omega), (show ((v_382 : Int32).toInt = 0 ∨ bvf (fp ((v_382 : Int32).toInt - 1).toNat).toInt < x.toInt) by exact Or.inr (by rw [← tix_441, ← hbv_r_442]; omega)), (show inn fp ((v_382 : Int32).toInt).toNat = inn fp pi.toInt.toNat by exact hr2_lp_437), trivial⟩, (⟨by rw [ht]; exact hP9, hD9⟩ : Wd D A _ t)⟩, hS.F ht⟩) hS.2.2 dX12_settle_101
        · have c_444i := i_nlt (x := r_442.toInt) (y := x.toInt) rfl rfl c_444
          replace hE := hE.trans (if_neg c_444)
          have hb30 := bvf_pos (o := x_441.toInt) (by omega)
          refine lv_aload_n hx hb dX12_settle_25 rfl (lv_at hl 0 rfl) (lv_dup hx hb dX12_settle_26 rfl (va_get (ci := 12) (v := .int v_382) (C := RX12) (T := TX12) (N := 60) hx hb hts hw12 hown hK hP 0 rfl rfl 29 (by decide +kernel) (hts _ mm_X12_settle_859) (fun _ h9 => h9) rfl dX12_settle_27 (lv_iconst (v := 1) hx hb dX12_settle_30 (by decide +kernel) (lv_isub hx hb dX12_settle_31 (lv_topi (fun x_445 ex_445 => ?_))))))
          replace hE := hE.trans (Lt_in ex_445)
          have hx_445 : x_445.toInt = (v_382.toInt - 1) := by rw [ex_445]; exact i_sub rfl (show (1 : Int32).toInt = 1 from rfl) (by omega)
          refine va_put (ci := 12) (v := .int x_445) (ty := .int) (C := RX12) (T := TX12) (N := 60) hx hb hts hw12 tyX12 tyX12_ok nmX12 hown hK hP hD hS 0 rfl rfl 29 (by decide +kernel) (hts _ mm_X12_settle_859) (fun _ h9 => h9) rfl (by decide +kernel) (by first | rfl | decide) (by first | rfl | decide) (Nat.le_of_ble_eq_true rfl) dX12_settle_32 (fun H locs hP0 hD0 hS0 => ?_)
          replace hP : va_P D vwCl [(cc_O m0 12 [m_0, m_1, m_2, m_3, m_4, m_5, m_6, m_7, m_8, m_9, m_10, m_11, m_12, m_13, m_14, m_15, m_16, m_17, m_18, m_19, m_20, m_21, m_22, .int v_381, .ref xo, .ref xa, m_26, .ref xp, .ref xq, .int x_445, m_30, m_31, m_32, m_33, m_34, m_35, m_36, m_37, m_38, m_39, m_40, m_41, m_42, m_43, m_44, m_45, m_46, m_47, m_48, m_49, m_50, m_51, m_52, m_53, m_54, m_55, m_56, m_57, m_58, m_59]), (cc_l xo (K 0) 400 f_383), (cc_l xa (K 0) 400 f_384), (cc_l xp (K 0) 400 fp), (cc_l xq (K 0) 400 fq)] H := hP0
          replace hD := as_D hP hD0 rfl
          replace hS := hS0
          clear hP0 hD0 hS0
          refine lv_aload_n hx hb dX12_settle_35 rfl (lv_at hl 0 rfl) (va_get (ci := 12) (v := .ref xp) (C := RX12) (T := TX12) (N := 60) hx hb hts hw12 hown hK hP 0 rfl rfl 27 (by decide +kernel) (hts _ mm_X12_settle_857) (fun _ h9 => h9) rfl dX12_settle_36 (lv_aload_n hx hb dX12_settle_39 rfl (lv_at hl 0 rfl) (va_get (ci := 12) (v := .int x_445) (C := RX12) (T := TX12) (N := 60) hx hb hts hw12 hown hK hP 0 rfl rfl 29 (by decide +kernel) (hts _ mm_X12_settle_859) (fun _ h9 => h9) rfl dX12_settle_40 (va_iald hx hb hK hP 3 0 rfl rfl (i_in hx_445 (by omega)) dX12_settle_43 (lv_topi (fun x_446 ex_446 => ?_))))))
          replace hE := hE.trans (Lt_in ex_446)
          have tx_446 : x_446 = fp ((v_382.toInt - 1)).toNat := by rw [ex_446, i_clamp hx_445]
          have tix_446 : x_446.toInt = (fp ((v_382.toInt - 1)).toNat).toInt := by rw [tx_446]
          refine lv_bipush (v := 29) hx hb dX12_settle_44 (by decide +kernel) (lv_icmp_eq (tgt := 63) hx hb dX12_settle_46 (by decide +kernel) (fun c_447 => ?_) (fun c_447 => ?_))
          · have c_447i := i_eq (x := x_446.toInt) (y := 29) rfl rfl c_447
            replace hE := hE.trans (if_pos c_447)
            refine lv_aload_n hx hb dX12_settle_63 rfl (lv_at hl 0 rfl) (va_get (ci := 12) (v := .ref xa) (C := RX12) (T := TX12) (N := 60) hx hb hts hw12 hown hK hP 0 rfl rfl 25 (by decide +kernel) (hts _ mm_X12_settle_855) (fun _ h9 => h9) rfl dX12_settle_64 (lv_aload_n hx hb dX12_settle_67 rfl (lv_at hl 0 rfl) (va_get (ci := 12) (v := .ref xq) (C := RX12) (T := TX12) (N := 60) hx hb hts hw12 hown hK hP 0 rfl rfl 28 (by decide +kernel) (hts _ mm_X12_settle_858) (fun _ h9 => h9) rfl dX12_settle_68 (lv_aload_n hx hb dX12_settle_71 rfl (lv_at hl 0 rfl) (va_get (ci := 12) (v := .int x_445) (C := RX12) (T := TX12) (N := 60) hx hb hts hw12 hown hK hP 0 rfl rfl 29 (by decide +kernel) (hts _ mm_X12_settle_859) (fun _ h9 => h9) rfl dX12_settle_72 (va_iald hx hb hK hP 4 0 rfl rfl (i_in hx_445 (by omega)) dX12_settle_75 (lv_topi (fun x_448 ex_448 => ?_))))))))
            replace hE := hE.trans (Lt_in ex_448)
            have hx_448 := Rg.at zfq hx_445 (show 0 ≤ (v_382.toInt - 1) ∧ (v_382.toInt - 1) < _ by omega)
            rw [← ex_448] at hx_448
            have tx_448 : x_448 = fq ((v_382.toInt - 1)).toNat := by rw [ex_448, i_clamp hx_445]
            have tix_448 : x_448.toInt = (fq ((v_382.toInt - 1)).toNat).toInt := by rw [tx_448]
            refine lv_aload_n hx hb dX12_settle_76 rfl (lv_at hl 0 rfl) (va_get (ci := 12) (v := .int v_381) (C := RX12) (T := TX12) (N := 60) hx hb hts hw12 hown hK hP 0 rfl rfl 23 (by decide +kernel) (hts _ mm_X12_settle_853) (fun _ h9 => h9) rfl dX12_settle_77 (va_iast hx hb hK hP hD hS 2 0 rfl rfl (i_in rfl (by omega)) dX12_settle_80 (fun H locs hP0 hD0 hS0 => ?_)))
            replace hP := hP0
            replace hD := hD0
            replace hS := hS0
            clear hP0 hD0 hS0
            generalize hf_449 : (upd f_384 (x_448 : Int32).toNatClampNeg v_381) = f_449 at hP hD
            replace hE := hE.trans (Lt_in hf_449.symm)
            replace hP : va_P D vwCl [(cc_O m0 12 [m_0, m_1, m_2, m_3, m_4, m_5, m_6, m_7, m_8, m_9, m_10, m_11, m_12, m_13, m_14, m_15, m_16, m_17, m_18, m_19, m_20, m_21, m_22, .int v_381, .ref xo, .ref xa, m_26, .ref xp, .ref xq, .int x_445, m_30, m_31, m_32, m_33, m_34, m_35, m_36, m_37, m_38, m_39, m_40, m_41, m_42, m_43, m_44, m_45, m_46, m_47, m_48, m_49, m_50, m_51, m_52, m_53, m_54, m_55, m_56, m_57, m_58, m_59]), (cc_l xo (K 0) 400 f_383), (cc_l xa (K 0) 400 f_449), (cc_l xp (K 0) 400 fp), (cc_l xq (K 0) 400 fq)] H := hP
            replace hD := as_D hP hD rfl
            refine lv_goto (tgt := 0) hx hb dX12_settle_81 (by decide +kernel) ?_
            exact ih_438 v_381 x_445 f_383 f_449 (by omega) (by rw [hx_445]; omega) (show (gg = 0 → PS lo go ga f_383 f_449 fp fq (v_381 : Int32).toInt (x_445 : Int32).toInt 1) by intro hg; rw [← hf_449, i_clamp (x := x_448) (z := x_448.toInt) rfl, hx_445, tx_448]; exact PS.land (hr0_lp_437 hg) (by omega) (by omega) rfl) (show (v_381 : Int32).toInt + (x_445 : Int32).toInt ≤ nc.toInt + pi.toInt ∧ (x_445 : Int32).toInt ≤ pi.toInt ∧ nc.toInt ≤ (v_381 : Int32).toInt ∧ 0 ≤ (x_445 : Int32).toInt by omega) (show inn fp ((x_445 : Int32).toInt).toNat = inn fp pi.toInt.toNat by rw [hx_445, ← hr2_lp_437, show (v_382.toInt).toNat = (v_382.toInt - 1).toNat + 1 by omega, inn_lo (by omega)]) (by omega) (hE.trans (by rw [hrec_437])) _ _ hP hD hS ls (lv_sub hl [0, 1] rfl)
          · have c_447i := i_ne (x := x_446.toInt) (y := 29) rfl rfl c_447
            replace hE := hE.trans (if_neg c_447)
            refine lv_aload_n hx hb dX12_settle_49 rfl (lv_at hl 0 rfl) (va_get (ci := 12) (v := .ref xp) (C := RX12) (T := TX12) (N := 60) hx hb hts hw12 hown hK hP 0 rfl rfl 27 (by decide +kernel) (hts _ mm_X12_settle_857) (fun _ h9 => h9) rfl dX12_settle_50 (lv_aload_n hx hb dX12_settle_53 rfl (lv_at hl 0 rfl) (va_get (ci := 12) (v := .int x_445) (C := RX12) (T := TX12) (N := 60) hx hb hts hw12 hown hK hP 0 rfl rfl 29 (by decide +kernel) (hts _ mm_X12_settle_859) (fun _ h9 => h9) rfl dX12_settle_54 (va_iald hx hb hK hP 3 0 rfl rfl (i_in hx_445 (by omega)) dX12_settle_57 (lv_topi (fun x_450 ex_450 => ?_))))))
            replace hE := hE.trans (Lt_in ex_450)
            have tx_450 : x_450 = fp ((v_382.toInt - 1)).toNat := by rw [ex_450, i_clamp hx_445]
            have tix_450 : x_450.toInt = (fp ((v_382.toInt - 1)).toNat).toInt := by rw [tx_450]
            refine lv_bipush (v := 30) hx hb dX12_settle_58 (by decide +kernel) (lv_icmp_ne (tgt := 84) hx hb dX12_settle_60 (by decide +kernel) (fun c_451 => ?_) (fun c_451 => ?_))
            · have c_451i := i_ne (x := x_450.toInt) (y := 30) rfl rfl c_451
              replace hE := hE.trans (if_neg c_451)
              refine lv_aload_n hx hb dX12_settle_84 rfl (lv_at hl 0 rfl) (lv_aload_n hx hb dX12_settle_85 rfl (lv_at hl 0 rfl) (va_get (ci := 12) (v := .ref xp) (C := RX12) (T := TX12) (N := 60) hx hb hts hw12 hown hK hP 0 rfl rfl 27 (by decide +kernel) (hts _ mm_X12_settle_857) (fun _ h9 => h9) rfl dX12_settle_86 (lv_aload_n hx hb dX12_settle_89 rfl (lv_at hl 0 rfl) (va_get (ci := 12) (v := .int x_445) (C := RX12) (T := TX12) (N := 60) hx hb hts hw12 hown hK hP 0 rfl rfl 29 (by decide +kernel) (hts _ mm_X12_settle_859) (fun _ h9 => h9) rfl dX12_settle_90 (va_iald hx hb hK hP 3 0 rfl rfl (i_in hx_445 (by omega)) dX12_settle_93 (lv_topi (fun x_452 ex_452 => ?_)))))))
              replace hE := hE.trans (Lt_in ex_452)
              have tx_452 : x_452 = fp ((v_382.toInt - 1)).toNat := by rw [ex_452, i_clamp hx_445]
              have tix_452 : x_452.toInt = (fp ((v_382.toInt - 1)).toNat).toInt := by rw [tx_452]
              refine lv_iconst (v := 0) hx hb dX12_settle_94 (by decide +kernel) ?_
              have hz_z_453 : (0 : Int32).toInt = 0 := rfl
              refine kcv (S := Su) (wr := [(cc_l xp (K 0) 400 fp), (cc_l xq (K 0) 400 fq)]) (va_runV (As := [.int x_452, .int 0]) (rest := []) ⟨hx, hb, hml, hown, hts⟩ (v_emit l D K m0 x_452 0 m_0 m_1 m_2 m_3 m_4 m_5 m_6 m_7 m_8 m_9 m_10 m_11 m_12 m_13 m_14 m_15 m_16 m_17 m_18 m_19 m_20 m_21 m_22 v_381 xo xa m_26 (.ref xp) (.ref xq) (.int x_445) m_30 m_31 m_32 m_33 m_34 m_35 m_36 m_37 m_38 m_39 m_40 m_41 m_42 m_43 m_44 m_45 m_46 m_47 m_48 m_49 m_50 m_51 m_52 m_53 m_54 m_55 m_56 m_57 m_58 m_59 f_383 f_384 H.size (by first | omega | decide)) (cwV 2 hts gX12_settle_X12_emit rfl rfl rfl (by decide +kernel) ⟨Nat.le_of_ble_eq_true rfl, Nat.le_of_ble_eq_true rfl⟩) (mkV hK hN (hP.sub [0, 1, 2] rfl) (hD.sub [0, 1, 2] (by decide +kernel) rfl) (ci := 12) (q0 := 0) rfl rfl) rfl rfl hl.1 rfl (lv_room (Nat.le_of_ble_eq_true rfl)) dX12_settle_95 ⟨Nat.le_of_ble_eq_true rfl, Nat.le_of_ble_eq_true rfl⟩) hP hD hS hA [0, 1, 2] [3, 4] rfl rfl (by decide +kernel) (by decide +kernel) (fun u_455 H locs hw hP0 hD0 hS0 => ?_)
              replace hP : va_P D vwCl [(cc_l xp (K 0) 400 fp), (cc_l xq (K 0) 400 fq), (cc_O m0 12 [m_0, m_1, m_2, m_3, m_4, m_5, m_6, m_7, m_8, m_9, m_10, m_11, m_12, m_13, m_14, m_15, m_16, m_17, m_18, m_19, m_20, m_21, m_22, .int (u_455.2.2.2.1 0), .ref xo, .ref xa, m_26, .ref xp, .ref xq, .int x_445, m_30, m_31, m_32, m_33, m_34, m_35, m_36, m_37, m_38, m_39, m_40, m_41, m_42, m_43, m_44, m_45, m_46, m_47, m_48, m_49, m_50, m_51, m_52, m_53, m_54, m_55, m_56, m_57, m_58, m_59]), (cc_l xo (K 0) 400 (u_455.2.1 0)), (cc_l xa (K 0) 400 (u_455.2.1 1))] H := hP0
              replace hD := as_D hP hD0 rfl
              replace hS := hS0
              clear hP0 hD0 hS0
              obtain ⟨k_456, k_457, k_458, k_459, k_460, -⟩ := hw
              replace hE := (hE.trans (Lt2_in k_457)).trans (Lt2_in rfl)
              refine lv_goto (tgt := 0) hx hb dX12_settle_98 (by decide +kernel) ?_
              exact ih_438 (u_455.2.2.2.1 0) x_445 (u_455.2.1 0) (u_455.2.1 1) (by omega) (by rw [hx_445]; omega) (show (gg = 0 → PS lo go ga (u_455.2.1 0) (u_455.2.1 1) fp fq ((u_455.2.2.2.1 0) : Int32).toInt (x_445 : Int32).toInt 1) by intro hg; have hrg := (hr0_lp_437 hg).2.1 (v_382.toInt - 1).toNat (by omega); rw [k_458, k_459, k_460, hx_445, tx_452]; exact PS.pop (hr0_lp_437 hg) (by omega) (by omega)) (show ((u_455.2.2.2.1 0) : Int32).toInt + (x_445 : Int32).toInt ≤ nc.toInt + pi.toInt ∧ (x_445 : Int32).toInt ≤ pi.toInt ∧ nc.toInt ≤ ((u_455.2.2.2.1 0) : Int32).toInt ∧ 0 ≤ (x_445 : Int32).toInt by omega) (show inn fp ((x_445 : Int32).toInt).toNat = inn fp pi.toInt.toNat by rw [hx_445, ← hr2_lp_437, show (v_382.toInt).toNat = (v_382.toInt - 1).toNat + 1 by omega, inn_lo (by omega)]) (by omega) (hE.trans (by rw [hrec_437])) _ _ (hP.sub [2, 3, 4, 0, 1] rfl) (hD.sub [2, 3, 4, 0, 1] (by decide +kernel) rfl) hS ls (lv_sub hl [0, 1] rfl)
            · have c_451i := i_eq (x := x_450.toInt) (y := 30) rfl rfl c_451
              replace hE := hE.trans (if_pos c_451)
              refine lv_aload_n hx hb dX12_settle_63 rfl (lv_at hl 0 rfl) (va_get (ci := 12) (v := .ref xa) (C := RX12) (T := TX12) (N := 60) hx hb hts hw12 hown hK hP 0 rfl rfl 25 (by decide +kernel) (hts _ mm_X12_settle_855) (fun _ h9 => h9) rfl dX12_settle_64 (lv_aload_n hx hb dX12_settle_67 rfl (lv_at hl 0 rfl) (va_get (ci := 12) (v := .ref xq) (C := RX12) (T := TX12) (N := 60) hx hb hts hw12 hown hK hP 0 rfl rfl 28 (by decide +kernel) (hts _ mm_X12_settle_858) (fun _ h9 => h9) rfl dX12_settle_68 (lv_aload_n hx hb dX12_settle_71 rfl (lv_at hl 0 rfl) (va_get (ci := 12) (v := .int x_445) (C := RX12) (T := TX12) (N := 60) hx hb hts hw12 hown hK hP 0 rfl rfl 29 (by decide +kernel) (hts _ mm_X12_settle_859) (fun _ h9 => h9) rfl dX12_settle_72 (va_iald hx hb hK hP 4 0 rfl rfl (i_in hx_445 (by omega)) dX12_settle_75 (lv_topi (fun x_461 ex_461 => ?_))))))))
              replace hE := hE.trans (Lt_in ex_461)
              have hx_461 := Rg.at zfq hx_445 (show 0 ≤ (v_382.toInt - 1) ∧ (v_382.toInt - 1) < _ by omega)
              rw [← ex_461] at hx_461
              have tx_461 : x_461 = fq ((v_382.toInt - 1)).toNat := by rw [ex_461, i_clamp hx_445]
              have tix_461 : x_461.toInt = (fq ((v_382.toInt - 1)).toNat).toInt := by rw [tx_461]
              refine lv_aload_n hx hb dX12_settle_76 rfl (lv_at hl 0 rfl) (va_get (ci := 12) (v := .int v_381) (C := RX12) (T := TX12) (N := 60) hx hb hts hw12 hown hK hP 0 rfl rfl 23 (by decide +kernel) (hts _ mm_X12_settle_853) (fun _ h9 => h9) rfl dX12_settle_77 (va_iast hx hb hK hP hD hS 2 0 rfl rfl (i_in rfl (by omega)) dX12_settle_80 (fun H locs hP0 hD0 hS0 => ?_)))
              replace hP := hP0
              replace hD := hD0
              replace hS := hS0
              clear hP0 hD0 hS0
              generalize hf_462 : (upd f_384 (x_461 : Int32).toNatClampNeg v_381) = f_462 at hP hD
              replace hE := hE.trans (Lt_in hf_462.symm)
              replace hP : va_P D vwCl [(cc_O m0 12 [m_0, m_1, m_2, m_3, m_4, m_5, m_6, m_7, m_8, m_9, m_10, m_11, m_12, m_13, m_14, m_15, m_16, m_17, m_18, m_19, m_20, m_21, m_22, .int v_381, .ref xo, .ref xa, m_26, .ref xp, .ref xq, .int x_445, m_30, m_31, m_32, m_33, m_34, m_35, m_36, m_37, m_38, m_39, m_40, m_41, m_42, m_43, m_44, m_45, m_46, m_47, m_48, m_49, m_50, m_51, m_52, m_53, m_54, m_55, m_56, m_57, m_58, m_59]), (cc_l xo (K 0) 400 f_383), (cc_l xa (K 0) 400 f_462), (cc_l xp (K 0) 400 fp), (cc_l xq (K 0) 400 fq)] H := hP
              replace hD := as_D hP hD rfl
              refine lv_goto (tgt := 0) hx hb dX12_settle_81 (by decide +kernel) ?_
              exact ih_438 v_381 x_445 f_383 f_462 (by omega) (by rw [hx_445]; omega) (show (gg = 0 → PS lo go ga f_383 f_462 fp fq (v_381 : Int32).toInt (x_445 : Int32).toInt 1) by intro hg; rw [← hf_462, i_clamp (x := x_461) (z := x_461.toInt) rfl, hx_445, tx_461]; exact PS.land (hr0_lp_437 hg) (by omega) (by omega) rfl) (show (v_381 : Int32).toInt + (x_445 : Int32).toInt ≤ nc.toInt + pi.toInt ∧ (x_445 : Int32).toInt ≤ pi.toInt ∧ nc.toInt ≤ (v_381 : Int32).toInt ∧ 0 ≤ (x_445 : Int32).toInt by omega) (show inn fp ((x_445 : Int32).toInt).toNat = inn fp pi.toInt.toNat by rw [hx_445, ← hr2_lp_437, show (v_382.toInt).toNat = (v_382.toInt - 1).toNat + 1 by omega, inn_lo (by omega)]) (by omega) (hE.trans (by rw [hrec_437])) _ _ hP hD hS ls (lv_sub hl [0, 1] rfl)
  exact lp_437 (((pi : Int32).toInt : Int).toNat + 1) nc pi fo fa (by omega) (by omega) (show (gg = 0 → PS lo go ga fo fa fp fq (nc : Int32).toInt (pi : Int32).toInt 1) by exact hps) (show (nc : Int32).toInt + (pi : Int32).toInt ≤ nc.toInt + pi.toInt ∧ (pi : Int32).toInt ≤ pi.toInt ∧ nc.toInt ≤ (nc : Int32).toInt ∧ 0 ≤ (pi : Int32).toInt by omega) (show inn fp ((pi : Int32).toInt).toNat = inn fp pi.toInt.toNat by rfl) (Nat.lt_succ_self _) hE _ _ hP hD hS ls (lv_sub hl [0, 1] rfl)
set_option maxRecDepth 100000 in
noncomputable def E_v_inner_l4 (pi : Int32) (fp : Nat → Int32) (rec_159 : Int32 → Int32 → (Int32)) (v_143 : Int32) (v_144 : Int32) : Int32 :=
  if pi ≤ v_143 then ((v_144 : Int32)) else (Lt (fp (v_143 : Int32).toNatClampNeg : Int32) (fun x_162 => if x_162 < 31 then (Lt (v_143 + Int32.ofInt 1 : Int32) (fun x_164 => rec_159 x_164 v_144)) else (Lt (fp (v_143 : Int32).toNatClampNeg : Int32) (fun x_165 => Lt (v_143 + Int32.ofInt 1 : Int32) (fun x_166 => rec_159 x_166 x_165)))))
set_option maxRecDepth 100000 in
noncomputable def E_v_inner (pi : Int32) (fp : Nat → Int32) : Int32 :=
  Lp (α := Int32 → Int32 → (Int32)) (E_v_inner_l4 pi fp) (fun _ _ => ((0) : Int32)) ((401 - (0 : Int32).toInt : Int).toNat + 1) 0 (-1)
set_option maxHeartbeats 4000000 in
set_option maxRecDepth 100000 in
theorem v_inner (l : Launch) (D : va_G) (K : Nat → ClassId) (m0 : Nat) (m_0 : Value) (m_1 : Value) (m_2 : Value) (m_3 : Value) (m_4 : Value) (m_5 : Value) (m_6 : Value) (m_7 : Value) (m_8 : Value) (m_9 : Value) (m_10 : Value) (m_11 : Value) (m_12 : Value) (m_13 : Value) (m_14 : Value) (m_15 : Value) (m_16 : Value) (m_17 : Value) (m_18 : Value) (m_19 : Value) (m_20 : Value) (m_21 : Value) (m_22 : Value) (m_23 : Value) (m_24 : Value) (m_25 : Value) (m_26 : Value) (xp : Nat) (m_28 : Value) (pi : Int32) (m_30 : Value) (m_31 : Value) (m_32 : Value) (m_33 : Value) (m_34 : Value) (m_35 : Value) (m_36 : Value) (m_37 : Value) (m_38 : Value) (m_39 : Value) (m_40 : Value) (m_41 : Value) (m_42 : Value) (m_43 : Value) (m_44 : Value) (m_45 : Value) (m_46 : Value) (m_47 : Value) (m_48 : Value) (m_49 : Value) (m_50 : Value) (m_51 : Value) (m_52 : Value) (m_53 : Value) (m_54 : Value) (m_55 : Value) (m_56 : Value) (m_57 : Value) (m_58 : Value) (m_59 : Value) (fp : Nat → Int32) (sz : Nat) (zpi : 0 ≤ pi.toInt ∧ pi.toInt ≤ 400) : Met l yX12_inner wsX12_inner ({ frames := 0, cells := 0, slots := 0, locals := 0 }) (va_Pc [.ref m0] (Pre D K [(cc_O m0 12 [m_0, m_1, m_2, m_3, m_4, m_5, m_6, m_7, m_8, m_9, m_10, m_11, m_12, m_13, m_14, m_15, m_16, m_17, m_18, m_19, m_20, m_21, m_22, m_23, m_24, m_25, m_26, .ref xp, m_28, .int pi, m_30, m_31, m_32, m_33, m_34, m_35, m_36, m_37, m_38, m_39, m_40, m_41, m_42, m_43, m_44, m_45, m_46, m_47, m_48, m_49, m_50, m_51, m_52, m_53, m_54, m_55, m_56, m_57, m_58, m_59]), (cc_l xp (K 0) 400 fp)] sz)) (vp_Si (fun r : Int32 => (r.toInt = inn fp pi.toInt.toNat) ∧ r = E_v_inner pi fp)) 0 0 (fun _ => False) := by
  refine Met.ofW (cc := cX12_inner) (maxL := 3) (ret := (some .int)) (by decide +kernel) rfl ?_
  intro p e s m args below meth c s₁ B hml hv
  obtain ⟨rfl, hsz, hP, hK, hD0, hN⟩ := hv
  have hx := B.exec
  have hb := B.bytes
  have hr := B.returns
  have hts := atoms_spec (ws := wsX12_inner) B.pre
  have hown : s.vm.findClass RX12 = some m.cls := findClass_of_methodNamed B.named
  have hlocks := B.notSynchronized
  subst hsz
  have hD := hD0
  replace hP : va_P D vwCl [(cc_O m0 12 [m_0, m_1, m_2, m_3, m_4, m_5, m_6, m_7, m_8, m_9, m_10, m_11, m_12, m_13, m_14, m_15, m_16, m_17, m_18, m_19, m_20, m_21, m_22, m_23, m_24, m_25, m_26, .ref xp, m_28, .int pi, m_30, m_31, m_32, m_33, m_34, m_35, m_36, m_37, m_38, m_39, m_40, m_41, m_42, m_43, m_44, m_45, m_46, m_47, m_48, m_49, m_50, m_51, m_52, m_53, m_54, m_55, m_56, m_57, m_58, m_59]), (cc_l xp (K 0) 400 fp)] s.heap := hP
  have hl := lv_entry [.ref m0] (n := 3) (Nat.le_of_ble_eq_true rfl)
  rw [lg_entry_eq]
  generalize (lg_sl [.ref m0] ++ List.replicate (3 - (lg_sl [.ref m0]).length) Slot.unset).toArray = ls at hl ⊢
  have hl : lv_has ls 3 [(0, .ref m0)] := hl
  have hw12 : ∀ w ∈ wsX120, w ∈ wsX12_inner := fun w h => (List.mem_cons_of_mem _ (List.mem_append_right _ h))
  generalize hQ : MQ below _ _ s _ _ _ = Q
  have hE := E_v_inner.eq_def pi fp
  refine lv_iconst (v := (-1)) hx hb dX12_inner_0 (by decide +kernel) (lv_istore_n (lv' := [(1, .int (-1)), (0, .ref m0)]) hx hb dX12_inner_1 rfl hl (by decide +kernel) rfl (fun ls hl => ?_))
  refine lv_iconst (v := 0) hx hb dX12_inner_2 (by decide +kernel) (lv_istore_n (lv' := [(2, .int 0), (1, .int (-1)), (0, .ref m0)]) hx hb dX12_inner_3 rfl hl (by decide +kernel) rfl (fun ls hl => ?_))
  have lp_159 : ∀ (nn_ : Nat) (v_143 : Int32) (v_144 : Int32) (hv_143 : 0 ≤ v_143.toInt ∧ v_143.toInt ≤ 400) (hr0_lp_159 : v_144.toInt = inn fp (v_143.toInt).toNat) (hr1_lp_159 : v_143.toInt ≤ pi.toInt) (hn : (401 - v_143.toInt : Int).toNat < nn_) (hE : E_v_inner pi fp = Lp (α := Int32 → Int32 → (Int32)) (E_v_inner_l4 pi fp) (fun _ _ => ((0) : Int32)) nn_ v_143 v_144) (ls : Array Slot) (hl : lv_has ls 3 [(2, .int v_143), (1, .int v_144), (0, .ref m0)]), W p l e ({ frames := 0, cells := 0, slots := 0, locals := 0 }) s m (([.ref m0] : List Value).toArray) below meth c s.heap [] 0 0 Q (F0 m 4 ls []) := by
    clear hE hl
    intro nn_
    induction nn_ with
    | zero =>
      intro v_143 v_144 hv_143 hr0_lp_159 hr1_lp_159 hn hE ls hl
      exact absurd hn (Nat.not_lt_zero _)
    | succ nn_ ih_160 =>
      intro v_143 v_144 hv_143 hr0_lp_159 hr1_lp_159 hn hE ls hl
      replace hE : E_v_inner pi fp = E_v_inner_l4 pi fp (Lp (α := Int32 → Int32 → (Int32)) (E_v_inner_l4 pi fp) (fun _ _ => ((0) : Int32)) nn_) v_143 v_144 := hE
      obtain ⟨rec_159, hrec_159⟩ : ∃ z9, z9 = Lp (α := Int32 → Int32 → (Int32)) (E_v_inner_l4 pi fp) (fun _ _ => ((0) : Int32)) nn_ := ⟨_, rfl⟩
      rw [← hrec_159] at hE
      replace hE := hE.trans (E_v_inner_l4.eq_def _ _ _ _ _)
      refine lv_iload_n hx hb dX12_inner_4 rfl (lv_at hl 0 rfl) (lv_aload_n hx hb dX12_inner_5 rfl (lv_at hl 2 rfl) (va_get (ci := 12) (v := .int pi) (C := RX12) (T := TX12) (N := 60) hx hb hts hw12 hown hK hP 0 rfl rfl 29 (by decide +kernel) (hts _ mm_X12_inner_859) (fun _ h9 => h9) rfl dX12_inner_6 (lv_icmp_ge (tgt := 40) hx hb dX12_inner_9 (by decide +kernel) (fun c_161 => ?_) (fun c_161 => ?_))))
      · have c_161i := i_le (x := pi.toInt) (y := v_143.toInt) rfl rfl c_161
        replace hE := hE.trans (if_pos c_161)
        refine lv_iload_n hx hb dX12_inner_40 rfl (lv_at hl 1 rfl) ?_
        rw [← hQ]
        exact W.iret (v := v_144) hx hb hr (fun t ht hW => ⟨_, rfl, ⟨(show (v_144 : Int32).toInt = inn fp pi.toInt.toNat from by have q := hr0_lp_159; rwa [show v_143.toInt = pi.toInt by omega] at q), hE.symm⟩, ht⟩) (fun q hq => by cases hq) dX12_inner_41
      · have c_161i := i_nle (x := pi.toInt) (y := v_143.toInt) rfl rfl c_161
        replace hE := hE.trans (if_neg c_161)
        refine lv_aload_n hx hb dX12_inner_12 rfl (lv_at hl 2 rfl) (va_get (ci := 12) (v := .ref xp) (C := RX12) (T := TX12) (N := 60) hx hb hts hw12 hown hK hP 0 rfl rfl 27 (by decide +kernel) (hts _ mm_X12_inner_857) (fun _ h9 => h9) rfl dX12_inner_13 (lv_iload_n hx hb dX12_inner_16 rfl (lv_at hl 0 rfl) (va_iald hx hb hK hP 1 0 rfl rfl (i_in rfl (by omega)) dX12_inner_17 (lv_topi (fun x_162 ex_162 => ?_)))))
        replace hE := hE.trans (Lt_in ex_162)
        have tx_162 : x_162 = fp (v_143.toInt).toNat := by rw [ex_162, i_clamp rfl]
        have tix_162 : x_162.toInt = (fp (v_143.toInt).toNat).toInt := by rw [tx_162]
        refine lv_bipush (v := 31) hx hb dX12_inner_18 (by decide +kernel) (lv_icmp_lt (tgt := 32) hx hb dX12_inner_20 (by decide +kernel) (fun c_163 => ?_) (fun c_163 => ?_))
        · have c_163i := i_lt (x := x_162.toInt) (y := 31) rfl rfl c_163
          replace hE := hE.trans (if_pos c_163)
          refine lv_iload_n hx hb dX12_inner_32 rfl (lv_at hl 1 rfl) (lv_istore_n (lv' := [(1, .int v_144), (2, .int v_143), (0, .ref m0)]) hx hb dX12_inner_33 rfl hl (by decide +kernel) rfl (fun ls hl => ?_))
          obtain ⟨x_164, ex_164⟩ : ∃ y : Int32, y = v_143 + Int32.ofInt 1 := ⟨_, rfl⟩
          replace hE := hE.trans (Lt_in ex_164)
          have hx_164 : x_164.toInt = (v_143.toInt + 1) := by rw [ex_164]; exact i_add rfl (show (Int32.ofInt 1).toInt = 1 from rfl) (by omega)
          refine lv_iinc (v := x_164) (lv' := [(2, .int x_164), (1, .int v_144), (0, .ref m0)]) hx hb dX12_inner_34 hl (k := 1) rfl (by rw [ex_164]) (by decide +kernel) rfl (fun ls hl => ?_)
          refine lv_goto (tgt := 4) hx hb dX12_inner_37 (by decide +kernel) ?_
          exact ih_160 x_164 v_144 (by rw [hx_164]; omega) (show (v_144 : Int32).toInt = inn fp ((x_164 : Int32).toInt).toNat by rw [hx_164, show (v_143.toInt + 1).toNat = (v_143.toInt).toNat + 1 by omega]; rw [inn_lo (by omega)]; exact hr0_lp_159) (show (x_164 : Int32).toInt ≤ pi.toInt by omega) (by omega) (hE.trans (by rw [hrec_159])) ls (lv_sub hl [0, 1, 2] rfl)
        · have c_163i := i_nlt (x := x_162.toInt) (y := 31) rfl rfl c_163
          replace hE := hE.trans (if_neg c_163)
          refine lv_aload_n hx hb dX12_inner_23 rfl (lv_at hl 2 rfl) (va_get (ci := 12) (v := .ref xp) (C := RX12) (T := TX12) (N := 60) hx hb hts hw12 hown hK hP 0 rfl rfl 27 (by decide +kernel) (hts _ mm_X12_inner_857) (fun _ h9 => h9) rfl dX12_inner_24 (lv_iload_n hx hb dX12_inner_27 rfl (lv_at hl 0 rfl) (va_iald hx hb hK hP 1 0 rfl rfl (i_in rfl (by omega)) dX12_inner_28 (lv_topi (fun x_165 ex_165 => ?_)))))
          replace hE := hE.trans (Lt_in ex_165)
          have tx_165 : x_165 = fp (v_143.toInt).toNat := by rw [ex_165, i_clamp rfl]
          have tix_165 : x_165.toInt = (fp (v_143.toInt).toNat).toInt := by rw [tx_165]
          refine lv_goto (tgt := 33) hx hb dX12_inner_29 (by decide +kernel) (lv_istore_n (lv' := [(1, .int x_165), (2, .int v_143), (0, .ref m0)]) hx hb dX12_inner_33 rfl hl (by decide +kernel) rfl (fun ls hl => ?_))
          obtain ⟨x_166, ex_166⟩ : ∃ y : Int32, y = v_143 + Int32.ofInt 1 := ⟨_, rfl⟩
          replace hE := hE.trans (Lt_in ex_166)
          have hx_166 : x_166.toInt = (v_143.toInt + 1) := by rw [ex_166]; exact i_add rfl (show (Int32.ofInt 1).toInt = 1 from rfl) (by omega)
          refine lv_iinc (v := x_166) (lv' := [(2, .int x_166), (1, .int x_165), (0, .ref m0)]) hx hb dX12_inner_34 hl (k := 1) rfl (by rw [ex_166]) (by decide +kernel) rfl (fun ls hl => ?_)
          refine lv_goto (tgt := 4) hx hb dX12_inner_37 (by decide +kernel) ?_
          exact ih_160 x_166 x_165 (by rw [hx_166]; omega) (show (x_165 : Int32).toInt = inn fp ((x_166 : Int32).toInt).toNat by rw [hx_166, show (v_143.toInt + 1).toNat = (v_143.toInt).toNat + 1 by omega]; rw [inn_hi (by omega)]; omega) (show (x_166 : Int32).toInt ≤ pi.toInt by omega) (by omega) (hE.trans (by rw [hrec_159])) ls (lv_sub hl [0, 1, 2] rfl)
  have hz_167 : (0 : Int32).toInt = 0 := rfl
  have hz_168 : ((-1) : Int32).toInt = (-1) := rfl
  exact lp_159 ((401 - (0 : Int32).toInt : Int).toNat + 1) 0 (-1) (by decide +kernel) (show ((-1) : Int32).toInt = inn fp ((0 : Int32).toInt).toNat by rfl) (show (0 : Int32).toInt ≤ pi.toInt by omega) (Nat.lt_succ_self _) hE ls (lv_sub hl [0, 1, 2] rfl)
set_option maxRecDepth 100000 in
noncomputable def E_v_isCompared_j63 : Int32 :=
  (0 : Int32)
set_option maxRecDepth 100000 in
noncomputable def E_v_isCompared_j36 (fp : Nat → Int32) (v_435 : Int32) : Int32 :=
  if v_435 < 0 then (E_v_isCompared_j63) else (Lt (fp (v_435 : Int32).toNatClampNeg : Int32) (fun x_530 => Lt ((x_530 : Int32).toInt64 : Int64) (fun x_531 => Lt (E_v_in x_531 25 27) (fun r_532 => if r_532 = 1 then ((1 : Int32)) else (E_v_isCompared_j63)))))
set_option maxRecDepth 100000 in
noncomputable def E_v_isCompared_l7 (fp : Nat → Int32) (rec_483 : Int32 → (Int32)) (v_435 : Int32) : Int32 :=
  if v_435 < 0 then (E_v_isCompared_j36 fp v_435) else (Lt (fp (v_435 : Int32).toNatClampNeg : Int32) (fun x_540 => Lt ((x_540 : Int32).toInt64 : Int64) (fun x_541 => Lt (E_v_in x_541 20 24) (fun r_542 => if r_542 = 1 then (Lt (v_435 + Int32.ofInt (-1) : Int32) (fun x_548 => rec_483 x_548)) else (E_v_isCompared_j36 fp v_435)))))
set_option maxRecDepth 100000 in
noncomputable def E_v_isCompared (pi : Int32) (fp : Nat → Int32) : Int32 :=
  Lt (pi - 1 : Int32) (fun x_387 => Lp (α := Int32 → (Int32)) (E_v_isCompared_l7 fp) (fun _ => ((0) : Int32)) (((x_387 : Int32).toInt - (-2) : Int).toNat + 1) x_387)
set_option maxHeartbeats 4000000 in
set_option maxRecDepth 100000 in
theorem v_isCompared (l : Launch) (D : va_G) (K : Nat → ClassId) (m0 : Nat) (m_0 : Value) (m_1 : Value) (m_2 : Value) (m_3 : Value) (m_4 : Value) (m_5 : Value) (m_6 : Value) (m_7 : Value) (m_8 : Value) (m_9 : Value) (m_10 : Value) (m_11 : Value) (m_12 : Value) (m_13 : Value) (m_14 : Value) (m_15 : Value) (m_16 : Value) (m_17 : Value) (m_18 : Value) (m_19 : Value) (m_20 : Value) (m_21 : Value) (m_22 : Value) (m_23 : Value) (m_24 : Value) (m_25 : Value) (m_26 : Value) (xp : Nat) (m_28 : Value) (pi : Int32) (m_30 : Value) (m_31 : Value) (m_32 : Value) (m_33 : Value) (m_34 : Value) (m_35 : Value) (m_36 : Value) (m_37 : Value) (m_38 : Value) (m_39 : Value) (m_40 : Value) (m_41 : Value) (m_42 : Value) (m_43 : Value) (m_44 : Value) (m_45 : Value) (m_46 : Value) (m_47 : Value) (m_48 : Value) (m_49 : Value) (m_50 : Value) (m_51 : Value) (m_52 : Value) (m_53 : Value) (m_54 : Value) (m_55 : Value) (m_56 : Value) (m_57 : Value) (m_58 : Value) (m_59 : Value) (fp : Nat → Int32) (sz : Nat) (zpi : 0 ≤ pi.toInt ∧ pi.toInt ≤ 400) : Met l yX12_isCompared wsX12_isCompared ({ frames := 1, cells := 0, slots := 0, locals := 25 }) (va_Pc [.ref m0] (Pre D K [(cc_O m0 12 [m_0, m_1, m_2, m_3, m_4, m_5, m_6, m_7, m_8, m_9, m_10, m_11, m_12, m_13, m_14, m_15, m_16, m_17, m_18, m_19, m_20, m_21, m_22, m_23, m_24, m_25, m_26, .ref xp, m_28, .int pi, m_30, m_31, m_32, m_33, m_34, m_35, m_36, m_37, m_38, m_39, m_40, m_41, m_42, m_43, m_44, m_45, m_46, m_47, m_48, m_49, m_50, m_51, m_52, m_53, m_54, m_55, m_56, m_57, m_58, m_59]), (cc_l xp (K 0) 400 fp)] sz)) (vp_Si (fun r : Int32 => (0 ≤ r.toInt ∧ r.toInt ≤ 1) ∧ (r = E_v_isCompared pi fp) ∧ True)) 0 0 (fun _ => False) := by
  refine Met.ofW (cc := cX12_isCompared) (maxL := 2) (ret := (some .boolean)) (by decide +kernel) rfl ?_
  intro p e s m args below meth c s₁ B hml hv
  obtain ⟨rfl, hsz, hP, hK, hD0, hN⟩ := hv
  have hx := B.exec
  have hb := B.bytes
  have hr := B.returns
  have hts := atoms_spec (ws := wsX12_isCompared) B.pre
  have hown : s.vm.findClass RX12 = some m.cls := findClass_of_methodNamed B.named
  have hlocks := B.notSynchronized
  subst hsz
  have hD := hD0
  replace hP : va_P D vwCl [(cc_O m0 12 [m_0, m_1, m_2, m_3, m_4, m_5, m_6, m_7, m_8, m_9, m_10, m_11, m_12, m_13, m_14, m_15, m_16, m_17, m_18, m_19, m_20, m_21, m_22, m_23, m_24, m_25, m_26, .ref xp, m_28, .int pi, m_30, m_31, m_32, m_33, m_34, m_35, m_36, m_37, m_38, m_39, m_40, m_41, m_42, m_43, m_44, m_45, m_46, m_47, m_48, m_49, m_50, m_51, m_52, m_53, m_54, m_55, m_56, m_57, m_58, m_59]), (cc_l xp (K 0) 400 fp)] s.heap := hP
  have hl := lv_entry [.ref m0] (n := 2) (Nat.le_of_ble_eq_true rfl)
  rw [lg_entry_eq]
  generalize (lg_sl [.ref m0] ++ List.replicate (2 - (lg_sl [.ref m0]).length) Slot.unset).toArray = ls at hl ⊢
  have hl : lv_has ls 2 [(0, .ref m0)] := hl
  have hw12 : ∀ w ∈ wsX120, w ∈ wsX12_isCompared := fun w h => (List.mem_cons_of_mem _ (List.mem_append_right _ h))
  generalize hQ : MQ below _ _ s _ _ _ = Q
  have hE := E_v_isCompared.eq_def pi fp
  refine lv_aload_n hx hb dX12_isCompared_0 rfl (lv_at hl 0 rfl) (va_get (ci := 12) (v := .int pi) (C := RX12) (T := TX12) (N := 60) hx hb hts hw12 hown hK hP 0 rfl rfl 29 (by decide +kernel) (hts _ mm_X12_isCompared_859) (fun _ h9 => h9) rfl dX12_isCompared_1 (lv_iconst (v := 1) hx hb dX12_isCompared_4 (by decide +kernel) (lv_isub hx hb dX12_isCompared_5 (lv_topi (fun x_387 ex_387 => ?_)))))
  replace hE := hE.trans (Lt_in ex_387)
  have hx_387 : x_387.toInt = (pi.toInt - 1) := by rw [ex_387]; exact i_sub rfl (show (1 : Int32).toInt = 1 from rfl) (by omega)
  refine lv_istore_n (lv' := [(1, .int x_387), (0, .ref m0)]) hx hb dX12_isCompared_6 rfl hl (by decide +kernel) rfl (fun ls hl => ?_)
  have lp_483 : ∀ (nn_ : Nat) (v_435 : Int32) (hv_435 : (-1) ≤ v_435.toInt ∧ v_435.toInt ≤ 399) (hn : (v_435.toInt - (-2) : Int).toNat < nn_) (hE : E_v_isCompared pi fp = Lp (α := Int32 → (Int32)) (E_v_isCompared_l7 fp) (fun _ => ((0) : Int32)) nn_ v_435) (ls : Array Slot) (hl : lv_has ls 2 [(1, .int v_435), (0, .ref m0)]), W p l e ({ frames := 1, cells := 0, slots := 0, locals := 25 }) s m (([.ref m0] : List Value).toArray) below meth c s.heap [] 0 0 Q (F0 m 7 ls []) := by
    clear hE hl
    intro nn_
    induction nn_ with
    | zero =>
      intro v_435 hv_435 hn hE ls hl
      exact absurd hn (Nat.not_lt_zero _)
    | succ nn_ ih_484 =>
      intro v_435 hv_435 hn hE ls hl
      replace hE : E_v_isCompared pi fp = E_v_isCompared_l7 fp (Lp (α := Int32 → (Int32)) (E_v_isCompared_l7 fp) (fun _ => ((0) : Int32)) nn_) v_435 := hE
      obtain ⟨rec_483, hrec_483⟩ : ∃ z9, z9 = Lp (α := Int32 → (Int32)) (E_v_isCompared_l7 fp) (fun _ => ((0) : Int32)) nn_ := ⟨_, rfl⟩
      rw [← hrec_483] at hE
      replace hE := hE.trans (E_v_isCompared_l7.eq_def _ _ _)
      refine lv_iload_n hx hb dX12_isCompared_7 rfl (lv_at hl 0 rfl) ?_
      have j_517 : ∀ (hE : E_v_isCompared pi fp = E_v_isCompared_j36 fp v_435) (ls : Array Slot) (hl : lv_has ls 2 [(1, .int v_435), (0, .ref m0)]), W p l e ({ frames := 1, cells := 0, slots := 0, locals := 25 }) s m (([.ref m0] : List Value).toArray) below meth c s.heap [] 0 0 Q (F0 m 36 ls []) := by
        clear hE hl
        intro hE ls hl
        replace hE := hE.trans (E_v_isCompared_j36.eq_def _ _)
        refine lv_iload_n hx hb dX12_isCompared_36 rfl (lv_at hl 0 rfl) ?_
        have j_528 : ∀ (hE : E_v_isCompared pi fp = E_v_isCompared_j63) (ls : Array Slot) (hl : lv_has ls 2 []), W p l e ({ frames := 1, cells := 0, slots := 0, locals := 25 }) s m (([.ref m0] : List Value).toArray) below meth c s.heap [] 0 0 Q (F0 m 63 ls []) := by
          clear hE hl
          intro hE ls hl
          replace hE := hE.trans (E_v_isCompared_j63.eq_def )
          refine lv_iconst (v := 0) hx hb dX12_isCompared_63 (by decide +kernel) ?_
          rw [← hQ]
          exact W.zret (v := 0) hx hb hr (by decide +kernel) (fun t ht hW => ⟨_, rfl, ⟨(show 0 ≤ (0 : Int32).toInt ∧ (0 : Int32).toInt ≤ 1 by decide), hE.symm, trivial⟩, ht⟩) (fun q hq => by cases hq) dX12_isCompared_64
        refine lv_if_lt (tgt := 63) hx hb dX12_isCompared_37 (by decide +kernel) (fun c_529 => ?_) (fun c_529 => ?_)
        · have c_529i := i_lt (x := v_435.toInt) (y := 0) rfl rfl c_529
          replace hE := hE.trans (if_pos c_529)
          exact j_528   hE ls (lv_sub hl [] rfl)
        · have c_529i := i_nlt (x := v_435.toInt) (y := 0) rfl rfl c_529
          replace hE := hE.trans (if_neg c_529)
          refine lv_aload_n hx hb dX12_isCompared_40 rfl (lv_at hl 1 rfl) (va_get (ci := 12) (v := .ref xp) (C := RX12) (T := TX12) (N := 60) hx hb hts hw12 hown hK hP 0 rfl rfl 27 (by decide +kernel) (hts _ mm_X12_isCompared_857) (fun _ h9 => h9) rfl dX12_isCompared_41 (lv_iload_n hx hb dX12_isCompared_44 rfl (lv_at hl 0 rfl) (va_iald hx hb hK hP 1 0 rfl rfl (i_in rfl (by omega)) dX12_isCompared_45 (lv_topi (fun x_530 ex_530 => ?_)))))
          replace hE := hE.trans (Lt_in ex_530)
          refine lv_i2l hx hb dX12_isCompared_46 rfl (lv_topl (fun x_531 ex_531 => ?_))
          replace hE := hE.trans (Lt_in ex_531)
          have hx_531 : x_531.toInt = x_530.toInt := by rw [ex_531]; exact i_wide rfl
          have hbx_531 := i_rng (a := x_530) rfl
          refine lv_ldc2 (v := 25) hx hb hown (hts _ mm_X12_isCompared_1153) dX12_isCompared_47 (lv_ldc2 (v := 27) hx hb hown (hts _ mm_X12_isCompared_1154) dX12_isCompared_50 (pci (va_runS (As := [.long x_531, .long 25, .long 27]) (rest := []) ⟨hx, hb, hml, hown, hts⟩ (v_in l D K x_530.toInt 25 27 x_531 25 27 s.heap.size hx_531 (show (25 : Int64).toInt = 25 from rfl) (show (27 : Int64).toInt = 27 from rfl)) (va_cwS 3 hts gX12_isCompared_X12_in rfl rfl rfl (by decide +kernel) ⟨Nat.le_of_ble_eq_true rfl, Nat.le_of_ble_eq_true rfl⟩) (mkS hK hN (va_P.nil) (va_D.nil (A := fun _ => True))) rfl rfl hl.1 rfl (lv_room (Nat.le_of_ble_eq_true rfl)) dX12_isCompared_53 ⟨Nat.le_of_ble_eq_true rfl, Nat.le_of_ble_eq_true rfl⟩) (fun r_532 hw => ?_)))
          obtain ⟨hw, k_533, -⟩ := hw
          replace hE := hE.trans (Lt_in k_533)
          rcases hw with ⟨rfl, h_534, h_535⟩ | ⟨rfl, h_536⟩
          · replace hE := (hE).trans (if_pos rfl)
            refine lv_if_eq (tgt := 63) hx hb dX12_isCompared_56 (by decide +kernel) (fun c_537 => absurd c_537 (by decide +kernel)) (fun c_537 => ?_)
            refine lv_iconst (v := 1) hx hb dX12_isCompared_59 (by decide +kernel) (lv_goto (tgt := 64) hx hb dX12_isCompared_60 (by decide +kernel) ?_)
            rw [← hQ]
            exact W.zret (v := 1) hx hb hr (by decide +kernel) (fun t ht hW => ⟨_, rfl, ⟨(show 0 ≤ (1 : Int32).toInt ∧ (1 : Int32).toInt ≤ 1 by decide), hE.symm, trivial⟩, ht⟩) (fun q hq => by cases hq) dX12_isCompared_64
          · replace hE := (hE).trans (if_neg (by first | decide | (intro h9; have h8 := congrArg Int32.toInt h9; omega)))
            refine lv_if_eq (tgt := 63) hx hb dX12_isCompared_56 (by decide +kernel) (fun c_538 => ?_) (fun c_538 => absurd (by decide +kernel) c_538)
            exact j_528   hE ls (lv_sub hl [] rfl)
      refine lv_if_lt (tgt := 36) hx hb dX12_isCompared_8 (by decide +kernel) (fun c_539 => ?_) (fun c_539 => ?_)
      · have c_539i := i_lt (x := v_435.toInt) (y := 0) rfl rfl c_539
        replace hE := hE.trans (if_pos c_539)
        exact j_517   hE ls (lv_sub hl [0, 1] rfl)
      · have c_539i := i_nlt (x := v_435.toInt) (y := 0) rfl rfl c_539
        replace hE := hE.trans (if_neg c_539)
        refine lv_aload_n hx hb dX12_isCompared_11 rfl (lv_at hl 1 rfl) (va_get (ci := 12) (v := .ref xp) (C := RX12) (T := TX12) (N := 60) hx hb hts hw12 hown hK hP 0 rfl rfl 27 (by decide +kernel) (hts _ mm_X12_isCompared_857) (fun _ h9 => h9) rfl dX12_isCompared_12 (lv_iload_n hx hb dX12_isCompared_15 rfl (lv_at hl 0 rfl) (va_iald hx hb hK hP 1 0 rfl rfl (i_in rfl (by omega)) dX12_isCompared_16 (lv_topi (fun x_540 ex_540 => ?_)))))
        replace hE := hE.trans (Lt_in ex_540)
        refine lv_i2l hx hb dX12_isCompared_17 rfl (lv_topl (fun x_541 ex_541 => ?_))
        replace hE := hE.trans (Lt_in ex_541)
        have hx_541 : x_541.toInt = x_540.toInt := by rw [ex_541]; exact i_wide rfl
        have hbx_541 := i_rng (a := x_540) rfl
        refine lv_ldc2 (v := 20) hx hb hown (hts _ mm_X12_isCompared_1044) dX12_isCompared_18 (lv_ldc2 (v := 24) hx hb hown (hts _ mm_X12_isCompared_1152) dX12_isCompared_21 (pci (va_runS (As := [.long x_541, .long 20, .long 24]) (rest := []) ⟨hx, hb, hml, hown, hts⟩ (v_in l D K x_540.toInt 20 24 x_541 20 24 s.heap.size hx_541 (show (20 : Int64).toInt = 20 from rfl) (show (24 : Int64).toInt = 24 from rfl)) (va_cwS 3 hts gX12_isCompared_X12_in rfl rfl rfl (by decide +kernel) ⟨Nat.le_of_ble_eq_true rfl, Nat.le_of_ble_eq_true rfl⟩) (mkS hK hN (va_P.nil) (va_D.nil (A := fun _ => True))) rfl rfl hl.1 rfl (lv_room (Nat.le_of_ble_eq_true rfl)) dX12_isCompared_24 ⟨Nat.le_of_ble_eq_true rfl, Nat.le_of_ble_eq_true rfl⟩) (fun r_542 hw => ?_)))
        obtain ⟨hw, k_543, -⟩ := hw
        replace hE := hE.trans (Lt_in k_543)
        rcases hw with ⟨rfl, h_544, h_545⟩ | ⟨rfl, h_546⟩
        · replace hE := (hE).trans (if_pos rfl)
          refine lv_if_eq (tgt := 36) hx hb dX12_isCompared_27 (by decide +kernel) (fun c_547 => absurd c_547 (by decide +kernel)) (fun c_547 => ?_)
          obtain ⟨x_548, ex_548⟩ : ∃ y : Int32, y = v_435 + Int32.ofInt (-1) := ⟨_, rfl⟩
          replace hE := hE.trans (Lt_in ex_548)
          have hx_548 : x_548.toInt = (v_435.toInt + (-1)) := by rw [ex_548]; exact i_add rfl (show (Int32.ofInt (-1)).toInt = (-1) from rfl) (by omega)
          refine lv_iinc (v := x_548) (lv' := [(1, .int x_548), (0, .ref m0)]) hx hb dX12_isCompared_30 hl (k := 0) rfl (by rw [ex_548]) (by decide +kernel) rfl (fun ls hl => ?_)
          refine lv_goto (tgt := 7) hx hb dX12_isCompared_33 (by decide +kernel) ?_
          exact ih_484 x_548 (by rw [hx_548]; omega) (by omega) (hE.trans (by rw [hrec_483])) ls (lv_sub hl [0, 1] rfl)
        · replace hE := (hE).trans (if_neg (by first | decide | (intro h9; have h8 := congrArg Int32.toInt h9; omega)))
          refine lv_if_eq (tgt := 36) hx hb dX12_isCompared_27 (by decide +kernel) (fun c_549 => ?_) (fun c_549 => absurd (by decide +kernel) c_549)
          exact j_517   hE ls (lv_sub hl [0, 1] rfl)
  exact lp_483 (((x_387 : Int32).toInt - (-2) : Int).toNat + 1) x_387 (by rw [hx_387]; omega) (Nat.lt_succ_self _) hE ls (lv_sub hl [0, 1] rfl)
