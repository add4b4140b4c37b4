theorem dX12_canBe_1 : decode cX12_canBe 1 = .ok (.tableswitch 75 0 4 #[35, 45, 55, 55, 65], 35) := by decide +kernel
theorem BX12_within_0 : bsegs (ByteArray.data cX12_within |>.toList.drop 0) 0 [(0, [30]), (1, [28]), (2, [133]), (3, [148]), (4, [156, 0, 7]), (7, [28]), (8, [167, 0, 16]), (11, [30]), (12, [29]), (13, [133]), (14, [148]), (15, [158, 0, 7]), (18, [29]), (19, [167, 0, 5]), (22, [30]), (23, [136]), (24, [172])] = true := by decide +kernel
theorem dX12_within_0 : decode cX12_within 0 = .ok (.lload_n 0, 1) := dk_30 (bs_at BX12_within_0 0 rfl)
theorem dX12_within_1 : decode cX12_within 1 = .ok (.iload_n 2, 1) := dk_28 (bs_at BX12_within_0 1 rfl)
theorem dX12_within_2 : decode cX12_within 2 = .ok (.i2l, 1) := dk_133 (bs_at BX12_within_0 2 rfl)
theorem dX12_within_3 : decode cX12_within 3 = .ok (.lcmp, 1) := dk_148 (bs_at BX12_within_0 3 rfl)
theorem dX12_within_4 : decode cX12_within 4 = .ok (.ifCond .ge 7, 3) := dk_156 0 7 (bs_at BX12_within_0 4 rfl) rfl
theorem dX12_within_7 : decode cX12_within 7 = .ok (.iload_n 2, 1) := dk_28 (bs_at BX12_within_0 5 rfl)
theorem dX12_within_8 : decode cX12_within 8 = .ok (.goto 16, 3) := dk_167 0 16 (bs_at BX12_within_0 6 rfl) rfl
theorem dX12_within_11 : decode cX12_within 11 = .ok (.lload_n 0, 1) := dk_30 (bs_at BX12_within_0 7 rfl)
theorem dX12_within_12 : decode cX12_within 12 = .ok (.iload_n 3, 1) := dk_29 (bs_at BX12_within_0 8 rfl)
theorem dX12_within_13 : decode cX12_within 13 = .ok (.i2l, 1) := dk_133 (bs_at BX12_within_0 9 rfl)
theorem dX12_within_14 : decode cX12_within 14 = .ok (.lcmp, 1) := dk_148 (bs_at BX12_within_0 10 rfl)
theorem dX12_within_15 : decode cX12_within 15 = .ok (.ifCond .le 7, 3) := dk_158 0 7 (bs_at BX12_within_0 11 rfl) rfl
theorem dX12_within_18 : decode cX12_within 18 = .ok (.iload_n 3, 1) := dk_29 (bs_at BX12_within_0 12 rfl)
theorem dX12_within_19 : decode cX12_within 19 = .ok (.goto 5, 3) := dk_167 0 5 (bs_at BX12_within_0 13 rfl) rfl
theorem dX12_within_22 : decode cX12_within 22 = .ok (.lload_n 0, 1) := dk_30 (bs_at BX12_within_0 14 rfl)
theorem dX12_within_23 : decode cX12_within 23 = .ok (.l2i, 1) := dk_136 (bs_at BX12_within_0 15 rfl)
theorem dX12_within_24 : decode cX12_within 24 = .ok (.ireturn, 1) := dk_172 (bs_at BX12_within_0 16 rfl)
theorem BX12_change_0 : bsegs (ByteArray.data cX12_change |>.toList.drop 0) 0 [(0, [42]), (1, [180, 0, 13]), (4, [27]), (5, [46]), (6, [62]), (7, [42]), (8, [180, 0, 13]), (11, [27]), (12, [28]), (13, [79]), (14, [42]), (15, [3]), (16, [181, 0, 161]), (19, [29]), (20, [172])] = true := by decide +kernel
theorem dX12_change_0 : decode cX12_change 0 = .ok (.aload_n 0, 1) := dk_42 (bs_at BX12_change_0 0 rfl)
theorem dX12_change_1 : decode cX12_change 1 = .ok (.getfield 13, 3) := dk_180 0 13 (bs_at BX12_change_0 1 rfl) rfl
theorem dX12_change_4 : decode cX12_change 4 = .ok (.iload_n 1, 1) := dk_27 (bs_at BX12_change_0 2 rfl)
theorem dX12_change_5 : decode cX12_change 5 = .ok (.iaload, 1) := dk_46 (bs_at BX12_change_0 3 rfl)
theorem dX12_change_6 : decode cX12_change 6 = .ok (.istore_n 3, 1) := dk_62 (bs_at BX12_change_0 4 rfl)
theorem dX12_change_7 : decode cX12_change 7 = .ok (.aload_n 0, 1) := dk_42 (bs_at BX12_change_0 5 rfl)
theorem dX12_change_8 : decode cX12_change 8 = .ok (.getfield 13, 3) := dk_180 0 13 (bs_at BX12_change_0 6 rfl) rfl
theorem dX12_change_11 : decode cX12_change 11 = .ok (.iload_n 1, 1) := dk_27 (bs_at BX12_change_0 7 rfl)
theorem dX12_change_12 : decode cX12_change 12 = .ok (.iload_n 2, 1) := dk_28 (bs_at BX12_change_0 8 rfl)
theorem dX12_change_13 : decode cX12_change 13 = .ok (.iastore, 1) := dk_79 (bs_at BX12_change_0 9 rfl)
theorem dX12_change_14 : decode cX12_change 14 = .ok (.aload_n 0, 1) := dk_42 (bs_at BX12_change_0 10 rfl)
theorem dX12_change_15 : decode cX12_change 15 = .ok (.iconst 0, 1) := dk_3 (bs_at BX12_change_0 11 rfl)
theorem dX12_change_16 : decode cX12_change 16 = .ok (.putfield 161, 3) := dk_181 0 161 (bs_at BX12_change_0 12 rfl) rfl
theorem dX12_change_19 : decode cX12_change 19 = .ok (.iload_n 3, 1) := dk_29 (bs_at BX12_change_0 13 rfl)
theorem dX12_change_20 : decode cX12_change 20 = .ok (.ireturn, 1) := dk_172 (bs_at BX12_change_0 14 rfl)
theorem BX12_keepAll_0 : bsegs (ByteArray.data cX12_keepAll |>.toList.drop 0) 0 [(0, [3]), (1, [61]), (2, [28]), (3, [16, 31]), (5, [162, 0, 28]), (8, [42]), (9, [180, 0, 23]), (12, [16, 31]), (14, [27]), (15, [104]), (16, [28]), (17, [96]), (18, [42]), (19, [180, 0, 13]), (22, [7]), (23, [28]), (24, [96]), (25, [46]), (26, [79]), (27, [132, 2, 1]), (30, [167, 255, 228]), (33, [177])] = true := by decide +kernel
theorem dX12_keepAll_0 : decode cX12_keepAll 0 = .ok (.iconst 0, 1) := dk_3 (bs_at BX12_keepAll_0 0 rfl)
theorem dX12_keepAll_1 : decode cX12_keepAll 1 = .ok (.istore_n 2, 1) := dk_61 (bs_at BX12_keepAll_0 1 rfl)
theorem dX12_keepAll_2 : decode cX12_keepAll 2 = .ok (.iload_n 2, 1) := dk_28 (bs_at BX12_keepAll_0 2 rfl)
theorem dX12_keepAll_3 : decode cX12_keepAll 3 = .ok (.bipush 31, 2) := dk_16 31 (bs_at BX12_keepAll_0 3 rfl) rfl
theorem dX12_keepAll_5 : decode cX12_keepAll 5 = .ok (.if_icmp .ge 28, 3) := dk_162 0 28 (bs_at BX12_keepAll_0 4 rfl) rfl
theorem dX12_keepAll_8 : decode cX12_keepAll 8 = .ok (.aload_n 0, 1) := dk_42 (bs_at BX12_keepAll_0 5 rfl)
theorem dX12_keepAll_9 : decode cX12_keepAll 9 = .ok (.getfield 23, 3) := dk_180 0 23 (bs_at BX12_keepAll_0 6 rfl) rfl
theorem dX12_keepAll_12 : decode cX12_keepAll 12 = .ok (.bipush 31, 2) := dk_16 31 (bs_at BX12_keepAll_0 7 rfl) rfl
theorem dX12_keepAll_14 : decode cX12_keepAll 14 = .ok (.iload_n 1, 1) := dk_27 (bs_at BX12_keepAll_0 8 rfl)
theorem dX12_keepAll_15 : decode cX12_keepAll 15 = .ok (.imul, 1) := dk_104 (bs_at BX12_keepAll_0 9 rfl)
theorem dX12_keepAll_16 : decode cX12_keepAll 16 = .ok (.iload_n 2, 1) := dk_28 (bs_at BX12_keepAll_0 10 rfl)
theorem dX12_keepAll_17 : decode cX12_keepAll 17 = .ok (.iadd, 1) := dk_96 (bs_at BX12_keepAll_0 11 rfl)
theorem dX12_keepAll_18 : decode cX12_keepAll 18 = .ok (.aload_n 0, 1) := dk_42 (bs_at BX12_keepAll_0 12 rfl)
theorem dX12_keepAll_19 : decode cX12_keepAll 19 = .ok (.getfield 13, 3) := dk_180 0 13 (bs_at BX12_keepAll_0 13 rfl) rfl
theorem dX12_keepAll_22 : decode cX12_keepAll 22 = .ok (.iconst 4, 1) := dk_7 (bs_at BX12_keepAll_0 14 rfl)
theorem dX12_keepAll_23 : decode cX12_keepAll 23 = .ok (.iload_n 2, 1) := dk_28 (bs_at BX12_keepAll_0 15 rfl)
theorem dX12_keepAll_24 : decode cX12_keepAll 24 = .ok (.iadd, 1) := dk_96 (bs_at BX12_keepAll_0 16 rfl)
theorem dX12_keepAll_25 : decode cX12_keepAll 25 = .ok (.iaload, 1) := dk_46 (bs_at BX12_keepAll_0 17 rfl)
theorem dX12_keepAll_26 : decode cX12_keepAll 26 = .ok (.iastore, 1) := dk_79 (bs_at BX12_keepAll_0 18 rfl)
theorem dX12_keepAll_27 : decode cX12_keepAll 27 = .ok (.iinc 2 1, 3) := dk_132 2 1 (bs_at BX12_keepAll_0 19 rfl) rfl
theorem dX12_keepAll_30 : decode cX12_keepAll 30 = .ok (.goto (-28), 3) := dk_167 255 228 (bs_at BX12_keepAll_0 20 rfl) rfl
theorem dX12_keepAll_33 : decode cX12_keepAll 33 = .ok (.return_, 1) := dk_177 (bs_at BX12_keepAll_0 21 rfl)
theorem BX12_putBack_0 : bsegs (ByteArray.data cX12_putBack |>.toList.drop 0) 0 [(0, [3]), (1, [61]), (2, [28]), (3, [16, 31]), (5, [162, 0, 28]), (8, [42]), (9, [180, 0, 13]), (12, [7]), (13, [28]), (14, [96]), (15, [42]), (16, [180, 0, 23]), (19, [16, 31]), (21, [27]), (22, [104]), (23, [28]), (24, [96]), (25, [46]), (26, [79]), (27, [132, 2, 1]), (30, [167, 255, 228]), (33, [177])] = true := by decide +kernel
theorem dX12_putBack_0 : decode cX12_putBack 0 = .ok (.iconst 0, 1) := dk_3 (bs_at BX12_putBack_0 0 rfl)
theorem dX12_putBack_1 : decode cX12_putBack 1 = .ok (.istore_n 2, 1) := dk_61 (bs_at BX12_putBack_0 1 rfl)
theorem dX12_putBack_2 : decode cX12_putBack 2 = .ok (.iload_n 2, 1) := dk_28 (bs_at BX12_putBack_0 2 rfl)
theorem dX12_putBack_3 : decode cX12_putBack 3 = .ok (.bipush 31, 2) := dk_16 31 (bs_at BX12_putBack_0 3 rfl) rfl
theorem dX12_putBack_5 : decode cX12_putBack 5 = .ok (.if_icmp .ge 28, 3) := dk_162 0 28 (bs_at BX12_putBack_0 4 rfl) rfl
theorem dX12_putBack_8 : decode cX12_putBack 8 = .ok (.aload_n 0, 1) := dk_42 (bs_at BX12_putBack_0 5 rfl)
theorem dX12_putBack_9 : decode cX12_putBack 9 = .ok (.getfield 13, 3) := dk_180 0 13 (bs_at BX12_putBack_0 6 rfl) rfl
theorem dX12_putBack_12 : decode cX12_putBack 12 = .ok (.iconst 4, 1) := dk_7 (bs_at BX12_putBack_0 7 rfl)
theorem dX12_putBack_13 : decode cX12_putBack 13 = .ok (.iload_n 2, 1) := dk_28 (bs_at BX12_putBack_0 8 rfl)
theorem dX12_putBack_14 : decode cX12_putBack 14 = .ok (.iadd, 1) := dk_96 (bs_at BX12_putBack_0 9 rfl)
theorem dX12_putBack_15 : decode cX12_putBack 15 = .ok (.aload_n 0, 1) := dk_42 (bs_at BX12_putBack_0 10 rfl)
theorem dX12_putBack_16 : decode cX12_putBack 16 = .ok (.getfield 23, 3) := dk_180 0 23 (bs_at BX12_putBack_0 11 rfl) rfl
theorem dX12_putBack_19 : decode cX12_putBack 19 = .ok (.bipush 31, 2) := dk_16 31 (bs_at BX12_putBack_0 12 rfl) rfl
theorem dX12_putBack_21 : decode cX12_putBack 21 = .ok (.iload_n 1, 1) := dk_27 (bs_at BX12_putBack_0 13 rfl)
theorem dX12_putBack_22 : decode cX12_putBack 22 = .ok (.imul, 1) := dk_104 (bs_at BX12_putBack_0 14 rfl)
theorem dX12_putBack_23 : decode cX12_putBack 23 = .ok (.iload_n 2, 1) := dk_28 (bs_at BX12_putBack_0 15 rfl)
theorem dX12_putBack_24 : decode cX12_putBack 24 = .ok (.iadd, 1) := dk_96 (bs_at BX12_putBack_0 16 rfl)
theorem dX12_putBack_25 : decode cX12_putBack 25 = .ok (.iaload, 1) := dk_46 (bs_at BX12_putBack_0 17 rfl)
theorem dX12_putBack_26 : decode cX12_putBack 26 = .ok (.iastore, 1) := dk_79 (bs_at BX12_putBack_0 18 rfl)
theorem dX12_putBack_27 : decode cX12_putBack 27 = .ok (.iinc 2 1, 3) := dk_132 2 1 (bs_at BX12_putBack_0 19 rfl) rfl
theorem dX12_putBack_30 : decode cX12_putBack 30 = .ok (.goto (-28), 3) := dk_167 255 228 (bs_at BX12_putBack_0 20 rfl) rfl
theorem dX12_putBack_33 : decode cX12_putBack 33 = .ok (.return_, 1) := dk_177 (bs_at BX12_putBack_0 21 rfl)
theorem BX12_remember_0 : bsegs (ByteArray.data cX12_remember |>.toList.drop 0) 0 [(0, [42]), (1, [180, 0, 164]), (4, [16, 16]), (6, [160, 0, 71]), (9, [3]), (10, [61]), (11, [28]), (12, [17, 1, 209]), (15, [162, 0, 24]), (18, [42]), (19, [180, 0, 23]), (22, [28]), (23, [42]), (24, [180, 0, 23]), (27, [28]), (28, [16, 31]), (30, [96]), (31, [46]), (32, [79]), (33, [132, 2, 1]), (36, [167, 255, 231]), (39, [3]), (40, [61]), (41, [28])] = true := by decide +kernel
theorem dX12_remember_0 : decode cX12_remember 0 = .ok (.aload_n 0, 1) := dk_42 (bs_at BX12_remember_0 0 rfl)
theorem dX12_remember_1 : decode cX12_remember 1 = .ok (.getfield 164, 3) := dk_180 0 164 (bs_at BX12_remember_0 1 rfl) rfl
theorem dX12_remember_4 : decode cX12_remember 4 = .ok (.bipush 16, 2) := dk_16 16 (bs_at BX12_remember_0 2 rfl) rfl
theorem dX12_remember_6 : decode cX12_remember 6 = .ok (.if_icmp .ne 71, 3) := dk_160 0 71 (bs_at BX12_remember_0 3 rfl) rfl
theorem dX12_remember_9 : decode cX12_remember 9 = .ok (.iconst 0, 1) := dk_3 (bs_at BX12_remember_0 4 rfl)
theorem dX12_remember_10 : decode cX12_remember 10 = .ok (.istore_n 2, 1) := dk_61 (bs_at BX12_remember_0 5 rfl)
theorem dX12_remember_11 : decode cX12_remember 11 = .ok (.iload_n 2, 1) := dk_28 (bs_at BX12_remember_0 6 rfl)
theorem dX12_remember_12 : decode cX12_remember 12 = .ok (.sipush 465, 3) := dk_17 1 209 (bs_at BX12_remember_0 7 rfl) rfl
theorem dX12_remember_15 : decode cX12_remember 15 = .ok (.if_icmp .ge 24, 3) := dk_162 0 24 (bs_at BX12_remember_0 8 rfl) rfl
theorem dX12_remember_18 : decode cX12_remember 18 = .ok (.aload_n 0, 1) := dk_42 (bs_at BX12_remember_0 9 rfl)
theorem dX12_remember_19 : decode cX12_remember 19 = .ok (.getfield 23, 3) := dk_180 0 23 (bs_at BX12_remember_0 10 rfl) rfl
theorem dX12_remember_22 : decode cX12_remember 22 = .ok (.iload_n 2, 1) := dk_28 (bs_at BX12_remember_0 11 rfl)
theorem dX12_remember_23 : decode cX12_remember 23 = .ok (.aload_n 0, 1) := dk_42 (bs_at BX12_remember_0 12 rfl)
theorem dX12_remember_24 : decode cX12_remember 24 = .ok (.getfield 23, 3) := dk_180 0 23 (bs_at BX12_remember_0 13 rfl) rfl
theorem dX12_remember_27 : decode cX12_remember 27 = .ok (.iload_n 2, 1) := dk_28 (bs_at BX12_remember_0 14 rfl)
theorem dX12_remember_28 : decode cX12_remember 28 = .ok (.bipush 31, 2) := dk_16 31 (bs_at BX12_remember_0 15 rfl) rfl
theorem dX12_remember_30 : decode cX12_remember 30 = .ok (.iadd, 1) := dk_96 (bs_at BX12_remember_0 16 rfl)
theorem dX12_remember_31 : decode cX12_remember 31 = .ok (.iaload, 1) := dk_46 (bs_at BX12_remember_0 17 rfl)
theorem dX12_remember_32 : decode cX12_remember 32 = .ok (.iastore, 1) := dk_79 (bs_at BX12_remember_0 18 rfl)
theorem dX12_remember_33 : decode cX12_remember 33 = .ok (.iinc 2 1, 3) := dk_132 2 1 (bs_at BX12_remember_0 19 rfl) rfl
theorem dX12_remember_36 : decode cX12_remember 36 = .ok (.goto (-25), 3) := dk_167 255 231 (bs_at BX12_remember_0 20 rfl) rfl
theorem dX12_remember_39 : decode cX12_remember 39 = .ok (.iconst 0, 1) := dk_3 (bs_at BX12_remember_0 21 rfl)
theorem dX12_remember_40 : decode cX12_remember 40 = .ok (.istore_n 2, 1) := dk_61 (bs_at BX12_remember_0 22 rfl)
theorem dX12_remember_41 : decode cX12_remember 41 = .ok (.iload_n 2, 1) := dk_28 (bs_at BX12_remember_0 23 rfl)
theorem BX12_remember_42 : bsegs (ByteArray.data cX12_remember |>.toList.drop 42) 42 [(42, [16, 15]), (44, [162, 0, 23]), (47, [42]), (48, [180, 0, 26]), (51, [28]), (52, [42]), (53, [180, 0, 26]), (56, [28]), (57, [4]), (58, [96]), (59, [46]), (60, [79]), (61, [132, 2, 1]), (64, [167, 255, 233]), (67, [42]), (68, [89]), (69, [180, 0, 164]), (72, [4]), (73, [100]), (74, [181, 0, 164]), (77, [42]), (78, [42]), (79, [180, 0, 164]), (82, [182, 0, 167])] = true := by decide +kernel
theorem dX12_remember_42 : decode cX12_remember 42 = .ok (.bipush 15, 2) := dk_16 15 (bs_at BX12_remember_42 0 rfl) rfl
theorem dX12_remember_44 : decode cX12_remember 44 = .ok (.if_icmp .ge 23, 3) := dk_162 0 23 (bs_at BX12_remember_42 1 rfl) rfl
theorem dX12_remember_47 : decode cX12_remember 47 = .ok (.aload_n 0, 1) := dk_42 (bs_at BX12_remember_42 2 rfl)
theorem dX12_remember_48 : decode cX12_remember 48 = .ok (.getfield 26, 3) := dk_180 0 26 (bs_at BX12_remember_42 3 rfl) rfl
theorem dX12_remember_51 : decode cX12_remember 51 = .ok (.iload_n 2, 1) := dk_28 (bs_at BX12_remember_42 4 rfl)
theorem dX12_remember_52 : decode cX12_remember 52 = .ok (.aload_n 0, 1) := dk_42 (bs_at BX12_remember_42 5 rfl)
theorem dX12_remember_53 : decode cX12_remember 53 = .ok (.getfield 26, 3) := dk_180 0 26 (bs_at BX12_remember_42 6 rfl) rfl
theorem dX12_remember_56 : decode cX12_remember 56 = .ok (.iload_n 2, 1) := dk_28 (bs_at BX12_remember_42 7 rfl)
theorem dX12_remember_57 : decode cX12_remember 57 = .ok (.iconst 1, 1) := dk_4 (bs_at BX12_remember_42 8 rfl)
theorem dX12_remember_58 : decode cX12_remember 58 = .ok (.iadd, 1) := dk_96 (bs_at BX12_remember_42 9 rfl)
theorem dX12_remember_59 : decode cX12_remember 59 = .ok (.iaload, 1) := dk_46 (bs_at BX12_remember_42 10 rfl)
theorem dX12_remember_60 : decode cX12_remember 60 = .ok (.iastore, 1) := dk_79 (bs_at BX12_remember_42 11 rfl)
theorem dX12_remember_61 : decode cX12_remember 61 = .ok (.iinc 2 1, 3) := dk_132 2 1 (bs_at BX12_remember_42 12 rfl) rfl
theorem dX12_remember_64 : decode cX12_remember 64 = .ok (.goto (-23), 3) := dk_167 255 233 (bs_at BX12_remember_42 13 rfl) rfl
theorem dX12_remember_67 : decode cX12_remember 67 = .ok (.aload_n 0, 1) := dk_42 (bs_at BX12_remember_42 14 rfl)
theorem dX12_remember_68 : decode cX12_remember 68 = .ok (.dup, 1) := dk_89 (bs_at BX12_remember_42 15 rfl)
theorem dX12_remember_69 : decode cX12_remember 69 = .ok (.getfield 164, 3) := dk_180 0 164 (bs_at BX12_remember_42 16 rfl) rfl
theorem dX12_remember_72 : decode cX12_remember 72 = .ok (.iconst 1, 1) := dk_4 (bs_at BX12_remember_42 17 rfl)
theorem dX12_remember_73 : decode cX12_remember 73 = .ok (.isub, 1) := dk_100 (bs_at BX12_remember_42 18 rfl)
theorem dX12_remember_74 : decode cX12_remember 74 = .ok (.putfield 164, 3) := dk_181 0 164 (bs_at BX12_remember_42 19 rfl) rfl
theorem dX12_remember_77 : decode cX12_remember 77 = .ok (.aload_n 0, 1) := dk_42 (bs_at BX12_remember_42 20 rfl)
theorem dX12_remember_78 : decode cX12_remember 78 = .ok (.aload_n 0, 1) := dk_42 (bs_at BX12_remember_42 21 rfl)
theorem dX12_remember_79 : decode cX12_remember 79 = .ok (.getfield 164, 3) := dk_180 0 164 (bs_at BX12_remember_42 22 rfl) rfl
theorem dX12_remember_82 : decode cX12_remember 82 = .ok (.invokevirtual 167, 3) := dk_182 0 167 (bs_at BX12_remember_42 23 rfl) rfl
theorem BX12_remember_85 : bsegs (ByteArray.data cX12_remember |>.toList.drop 85) 85 [(85, [42]), (86, [180, 0, 26]), (89, [42]), (90, [180, 0, 164]), (93, [27]), (94, [79]), (95, [42]), (96, [89]), (97, [180, 0, 164]), (100, [4]), (101, [96]), (102, [181, 0, 164]), (105, [177])] = true := by decide +kernel
theorem dX12_remember_85 : decode cX12_remember 85 = .ok (.aload_n 0, 1) := dk_42 (bs_at BX12_remember_85 0 rfl)
theorem dX12_remember_86 : decode cX12_remember 86 = .ok (.getfield 26, 3) := dk_180 0 26 (bs_at BX12_remember_85 1 rfl) rfl
theorem dX12_remember_89 : decode cX12_remember 89 = .ok (.aload_n 0, 1) := dk_42 (bs_at BX12_remember_85 2 rfl)
theorem dX12_remember_90 : decode cX12_remember 90 = .ok (.getfield 164, 3) := dk_180 0 164 (bs_at BX12_remember_85 3 rfl) rfl
theorem dX12_remember_93 : decode cX12_remember 93 = .ok (.iload_n 1, 1) := dk_27 (bs_at BX12_remember_85 4 rfl)
theorem dX12_remember_94 : decode cX12_remember 94 = .ok (.iastore, 1) := dk_79 (bs_at BX12_remember_85 5 rfl)
theorem dX12_remember_95 : decode cX12_remember 95 = .ok (.aload_n 0, 1) := dk_42 (bs_at BX12_remember_85 6 rfl)
theorem dX12_remember_96 : decode cX12_remember 96 = .ok (.dup, 1) := dk_89 (bs_at BX12_remember_85 7 rfl)
theorem dX12_remember_97 : decode cX12_remember 97 = .ok (.getfield 164, 3) := dk_180 0 164 (bs_at BX12_remember_85 8 rfl) rfl
theorem dX12_remember_100 : decode cX12_remember 100 = .ok (.iconst 1, 1) := dk_4 (bs_at BX12_remember_85 9 rfl)
theorem dX12_remember_101 : decode cX12_remember 101 = .ok (.iadd, 1) := dk_96 (bs_at BX12_remember_85 10 rfl)
theorem dX12_remember_102 : decode cX12_remember 102 = .ok (.putfield 164, 3) := dk_181 0 164 (bs_at BX12_remember_85 11 rfl) rfl
theorem dX12_remember_105 : decode cX12_remember 105 = .ok (.return_, 1) := dk_177 (bs_at BX12_remember_85 12 rfl)
theorem BX12_undo_0 : bsegs (ByteArray.data cX12_undo |>.toList.drop 0) 0 [(0, [42]), (1, [3]), (2, [181, 0, 158]), (5, [42]), (6, [180, 0, 164]), (9, [154, 0, 10]), (12, [42]), (13, [16, 253]), (15, [182, 0, 171]), (18, [172]), (19, [42]), (20, [89]), (21, [180, 0, 164]), (24, [4]), (25, [100]), (26, [181, 0, 164]), (29, [42]), (30, [42]), (31, [180, 0, 164]), (34, [182, 0, 175]), (37, [42]), (38, [42]), (39, [180, 0, 26]), (42, [42])] = true := by decide +kernel
theorem dX12_undo_0 : decode cX12_undo 0 = .ok (.aload_n 0, 1) := dk_42 (bs_at BX12_undo_0 0 rfl)
theorem dX12_undo_1 : decode cX12_undo 1 = .ok (.iconst 0, 1) := dk_3 (bs_at BX12_undo_0 1 rfl)
theorem dX12_undo_2 : decode cX12_undo 2 = .ok (.putfield 158, 3) := dk_181 0 158 (bs_at BX12_undo_0 2 rfl) rfl
theorem dX12_undo_5 : decode cX12_undo 5 = .ok (.aload_n 0, 1) := dk_42 (bs_at BX12_undo_0 3 rfl)
theorem dX12_undo_6 : decode cX12_undo 6 = .ok (.getfield 164, 3) := dk_180 0 164 (bs_at BX12_undo_0 4 rfl) rfl
theorem dX12_undo_9 : decode cX12_undo 9 = .ok (.ifCond .ne 10, 3) := dk_154 0 10 (bs_at BX12_undo_0 5 rfl) rfl
theorem dX12_undo_12 : decode cX12_undo 12 = .ok (.aload_n 0, 1) := dk_42 (bs_at BX12_undo_0 6 rfl)
theorem dX12_undo_13 : decode cX12_undo 13 = .ok (.bipush (-3), 2) := dk_16 253 (bs_at BX12_undo_0 7 rfl) rfl
theorem dX12_undo_15 : decode cX12_undo 15 = .ok (.invokevirtual 171, 3) := dk_182 0 171 (bs_at BX12_undo_0 8 rfl) rfl
theorem dX12_undo_18 : decode cX12_undo 18 = .ok (.ireturn, 1) := dk_172 (bs_at BX12_undo_0 9 rfl)
theorem dX12_undo_19 : decode cX12_undo 19 = .ok (.aload_n 0, 1) := dk_42 (bs_at BX12_undo_0 10 rfl)
theorem dX12_undo_20 : decode cX12_undo 20 = .ok (.dup, 1) := dk_89 (bs_at BX12_undo_0 11 rfl)
theorem dX12_undo_21 : decode cX12_undo 21 = .ok (.getfield 164, 3) := dk_180 0 164 (bs_at BX12_undo_0 12 rfl) rfl
theorem dX12_undo_24 : decode cX12_undo 24 = .ok (.iconst 1, 1) := dk_4 (bs_at BX12_undo_0 13 rfl)
theorem dX12_undo_25 : decode cX12_undo 25 = .ok (.isub, 1) := dk_100 (bs_at BX12_undo_0 14 rfl)
theorem dX12_undo_26 : decode cX12_undo 26 = .ok (.putfield 164, 3) := dk_181 0 164 (bs_at BX12_undo_0 15 rfl) rfl
theorem dX12_undo_29 : decode cX12_undo 29 = .ok (.aload_n 0, 1) := dk_42 (bs_at BX12_undo_0 16 rfl)
theorem dX12_undo_30 : decode cX12_undo 30 = .ok (.aload_n 0, 1) := dk_42 (bs_at BX12_undo_0 17 rfl)
theorem dX12_undo_31 : decode cX12_undo 31 = .ok (.getfield 164, 3) := dk_180 0 164 (bs_at BX12_undo_0 18 rfl) rfl
theorem dX12_undo_34 : decode cX12_undo 34 = .ok (.invokevirtual 175, 3) := dk_182 0 175 (bs_at BX12_undo_0 19 rfl) rfl
theorem dX12_undo_37 : decode cX12_undo 37 = .ok (.aload_n 0, 1) := dk_42 (bs_at BX12_undo_0 20 rfl)
theorem dX12_undo_38 : decode cX12_undo 38 = .ok (.aload_n 0, 1) := dk_42 (bs_at BX12_undo_0 21 rfl)
theorem dX12_undo_39 : decode cX12_undo 39 = .ok (.getfield 26, 3) := dk_180 0 26 (bs_at BX12_undo_0 22 rfl) rfl
theorem dX12_undo_42 : decode cX12_undo 42 = .ok (.aload_n 0, 1) := dk_42 (bs_at BX12_undo_0 23 rfl)
theorem BX12_undo_43 : bsegs (ByteArray.data cX12_undo |>.toList.drop 43) 43 [(43, [180, 0, 164]), (46, [46]), (47, [182, 0, 171]), (50, [172])] = true := by decide +kernel
theorem dX12_undo_43 : decode cX12_undo 43 = .ok (.getfield 164, 3) := dk_180 0 164 (bs_at BX12_undo_43 0 rfl) rfl
theorem dX12_undo_46 : decode cX12_undo 46 = .ok (.iaload, 1) := dk_46 (bs_at BX12_undo_43 1 rfl)
theorem dX12_undo_47 : decode cX12_undo 47 = .ok (.invokevirtual 171, 3) := dk_182 0 171 (bs_at BX12_undo_43 2 rfl) rfl
theorem dX12_undo_50 : decode cX12_undo 50 = .ok (.ireturn, 1) := dk_172 (bs_at BX12_undo_43 3 rfl)
theorem BX12_term_0 : bsegs (ByteArray.data cX12_term |>.toList.drop 0) 0 [(0, [42]), (1, [180, 0, 13]), (4, [7]), (5, [27]), (6, [96]), (7, [46]), (8, [172])] = true := by decide +kernel
theorem dX12_term_0 : decode cX12_term 0 = .ok (.aload_n 0, 1) := dk_42 (bs_at BX12_term_0 0 rfl)
theorem dX12_term_1 : decode cX12_term 1 = .ok (.getfield 13, 3) := dk_180 0 13 (bs_at BX12_term_0 1 rfl) rfl
theorem dX12_term_4 : decode cX12_term 4 = .ok (.iconst 4, 1) := dk_7 (bs_at BX12_term_0 2 rfl)
theorem dX12_term_5 : decode cX12_term 5 = .ok (.iload_n 1, 1) := dk_27 (bs_at BX12_term_0 3 rfl)
theorem dX12_term_6 : decode cX12_term 6 = .ok (.iadd, 1) := dk_96 (bs_at BX12_term_0 4 rfl)
theorem dX12_term_7 : decode cX12_term 7 = .ok (.iaload, 1) := dk_46 (bs_at BX12_term_0 5 rfl)
theorem dX12_term_8 : decode cX12_term 8 = .ok (.ireturn, 1) := dk_172 (bs_at BX12_term_0 6 rfl)
theorem BX12_isHouse_0 : bsegs (ByteArray.data cX12_isHouse |>.toList.drop 0) 0 [(0, [27]), (1, [133]), (2, [9]), (3, [42]), (4, [180, 0, 13]), (7, [3]), (8, [46]), (9, [133]), (10, [10]), (11, [101]), (12, [184, 0, 178]), (15, [172])] = true := by decide +kernel
theorem dX12_isHouse_0 : decode cX12_isHouse 0 = .ok (.iload_n 1, 1) := dk_27 (bs_at BX12_isHouse_0 0 rfl)
theorem dX12_isHouse_1 : decode cX12_isHouse 1 = .ok (.i2l, 1) := dk_133 (bs_at BX12_isHouse_0 1 rfl)
theorem dX12_isHouse_2 : decode cX12_isHouse 2 = .ok (.lconst 0, 1) := dk_9 (bs_at BX12_isHouse_0 2 rfl)
theorem dX12_isHouse_3 : decode cX12_isHouse 3 = .ok (.aload_n 0, 1) := dk_42 (bs_at BX12_isHouse_0 3 rfl)
theorem dX12_isHouse_4 : decode cX12_isHouse 4 = .ok (.getfield 13, 3) := dk_180 0 13 (bs_at BX12_isHouse_0 4 rfl) rfl
theorem dX12_isHouse_7 : decode cX12_isHouse 7 = .ok (.iconst 0, 1) := dk_3 (bs_at BX12_isHouse_0 5 rfl)
theorem dX12_isHouse_8 : decode cX12_isHouse 8 = .ok (.iaload, 1) := dk_46 (bs_at BX12_isHouse_0 6 rfl)
theorem dX12_isHouse_9 : decode cX12_isHouse 9 = .ok (.i2l, 1) := dk_133 (bs_at BX12_isHouse_0 7 rfl)
theorem dX12_isHouse_10 : decode cX12_isHouse 10 = .ok (.lconst 1, 1) := dk_10 (bs_at BX12_isHouse_0 8 rfl)
theorem dX12_isHouse_11 : decode cX12_isHouse 11 = .ok (.lsub, 1) := dk_101 (bs_at BX12_isHouse_0 9 rfl)
theorem dX12_isHouse_12 : decode cX12_isHouse 12 = .ok (.invokestatic 178, 3) := dk_184 0 178 (bs_at BX12_isHouse_0 10 rfl) rfl
theorem dX12_isHouse_15 : decode cX12_isHouse 15 = .ok (.ireturn, 1) := dk_172 (bs_at BX12_isHouse_0 11 rfl)
theorem BX12_isSounding_0 : bsegs (ByteArray.data cX12_isSounding |>.toList.drop 0) 0 [(0, [42]), (1, [180, 0, 13]), (4, [16, 11]), (6, [27]), (7, [96]), (8, [46]), (9, [133]), (10, [42]), (11, [5]), (12, [182, 0, 182]), (15, [133]), (16, [42]), (17, [6]), (18, [182, 0, 182]), (21, [133]), (22, [184, 0, 178]), (25, [172])] = true := by decide +kernel
theorem dX12_isSounding_0 : decode cX12_isSounding 0 = .ok (.aload_n 0, 1) := dk_42 (bs_at BX12_isSounding_0 0 rfl)
theorem dX12_isSounding_1 : decode cX12_isSounding 1 = .ok (.getfield 13, 3) := dk_180 0 13 (bs_at BX12_isSounding_0 1 rfl) rfl
theorem dX12_isSounding_4 : decode cX12_isSounding 4 = .ok (.bipush 11, 2) := dk_16 11 (bs_at BX12_isSounding_0 2 rfl) rfl
theorem dX12_isSounding_6 : decode cX12_isSounding 6 = .ok (.iload_n 1, 1) := dk_27 (bs_at BX12_isSounding_0 3 rfl)
theorem dX12_isSounding_7 : decode cX12_isSounding 7 = .ok (.iadd, 1) := dk_96 (bs_at BX12_isSounding_0 4 rfl)
theorem dX12_isSounding_8 : decode cX12_isSounding 8 = .ok (.iaload, 1) := dk_46 (bs_at BX12_isSounding_0 5 rfl)
theorem dX12_isSounding_9 : decode cX12_isSounding 9 = .ok (.i2l, 1) := dk_133 (bs_at BX12_isSounding_0 6 rfl)
theorem dX12_isSounding_10 : decode cX12_isSounding 10 = .ok (.aload_n 0, 1) := dk_42 (bs_at BX12_isSounding_0 7 rfl)
theorem dX12_isSounding_11 : decode cX12_isSounding 11 = .ok (.iconst 2, 1) := dk_5 (bs_at BX12_isSounding_0 8 rfl)
theorem dX12_isSounding_12 : decode cX12_isSounding 12 = .ok (.invokevirtual 182, 3) := dk_182 0 182 (bs_at BX12_isSounding_0 9 rfl) rfl
theorem dX12_isSounding_15 : decode cX12_isSounding 15 = .ok (.i2l, 1) := dk_133 (bs_at BX12_isSounding_0 10 rfl)
theorem dX12_isSounding_16 : decode cX12_isSounding 16 = .ok (.aload_n 0, 1) := dk_42 (bs_at BX12_isSounding_0 11 rfl)
theorem dX12_isSounding_17 : decode cX12_isSounding 17 = .ok (.iconst 3, 1) := dk_6 (bs_at BX12_isSounding_0 12 rfl)
theorem dX12_isSounding_18 : decode cX12_isSounding 18 = .ok (.invokevirtual 182, 3) := dk_182 0 182 (bs_at BX12_isSounding_0 13 rfl) rfl
theorem dX12_isSounding_21 : decode cX12_isSounding 21 = .ok (.i2l, 1) := dk_133 (bs_at BX12_isSounding_0 14 rfl)
theorem dX12_isSounding_22 : decode cX12_isSounding 22 = .ok (.invokestatic 178, 3) := dk_184 0 178 (bs_at BX12_isSounding_0 15 rfl) rfl
theorem dX12_isSounding_25 : decode cX12_isSounding 25 = .ok (.ireturn, 1) := dk_172 (bs_at BX12_isSounding_0 16 rfl)
theorem BX12_soundWith_0 : bsegs (ByteArray.data cX12_soundWith |>.toList.drop 0) 0 [(0, [3]), (1, [61]), (2, [3]), (3, [62]), (4, [29]), (5, [42]), (6, [180, 0, 13]), (9, [3]), (10, [46]), (11, [162, 0, 38]), (14, [28]), (15, [42]), (16, [180, 0, 13]), (19, [16, 35]), (21, [29]), (22, [96]), (23, [46]), (24, [27]), (25, [160, 0, 15]), (28, [42]), (29, [29]), (30, [182, 0, 185]), (33, [153, 0, 7]), (36, [4])] = true := by decide +kernel
theorem dX12_soundWith_0 : decode cX12_soundWith 0 = .ok (.iconst 0, 1) := dk_3 (bs_at BX12_soundWith_0 0 rfl)
theorem dX12_soundWith_1 : decode cX12_soundWith 1 = .ok (.istore_n 2, 1) := dk_61 (bs_at BX12_soundWith_0 1 rfl)
theorem dX12_soundWith_2 : decode cX12_soundWith 2 = .ok (.iconst 0, 1) := dk_3 (bs_at BX12_soundWith_0 2 rfl)
theorem dX12_soundWith_3 : decode cX12_soundWith 3 = .ok (.istore_n 3, 1) := dk_62 (bs_at BX12_soundWith_0 3 rfl)
theorem dX12_soundWith_4 : decode cX12_soundWith 4 = .ok (.iload_n 3, 1) := dk_29 (bs_at BX12_soundWith_0 4 rfl)
theorem dX12_soundWith_5 : decode cX12_soundWith 5 = .ok (.aload_n 0, 1) := dk_42 (bs_at BX12_soundWith_0 5 rfl)
theorem dX12_soundWith_6 : decode cX12_soundWith 6 = .ok (.getfield 13, 3) := dk_180 0 13 (bs_at BX12_soundWith_0 6 rfl) rfl
theorem dX12_soundWith_9 : decode cX12_soundWith 9 = .ok (.iconst 0, 1) := dk_3 (bs_at BX12_soundWith_0 7 rfl)
theorem dX12_soundWith_10 : decode cX12_soundWith 10 = .ok (.iaload, 1) := dk_46 (bs_at BX12_soundWith_0 8 rfl)
theorem dX12_soundWith_11 : decode cX12_soundWith 11 = .ok (.if_icmp .ge 38, 3) := dk_162 0 38 (bs_at BX12_soundWith_0 9 rfl) rfl
theorem dX12_soundWith_14 : decode cX12_soundWith 14 = .ok (.iload_n 2, 1) := dk_28 (bs_at BX12_soundWith_0 10 rfl)
theorem dX12_soundWith_15 : decode cX12_soundWith 15 = .ok (.aload_n 0, 1) := dk_42 (bs_at BX12_soundWith_0 11 rfl)
theorem dX12_soundWith_16 : decode cX12_soundWith 16 = .ok (.getfield 13, 3) := dk_180 0 13 (bs_at BX12_soundWith_0 12 rfl) rfl
theorem dX12_soundWith_19 : decode cX12_soundWith 19 = .ok (.bipush 35, 2) := dk_16 35 (bs_at BX12_soundWith_0 13 rfl) rfl
theorem dX12_soundWith_21 : decode cX12_soundWith 21 = .ok (.iload_n 3, 1) := dk_29 (bs_at BX12_soundWith_0 14 rfl)
theorem dX12_soundWith_22 : decode cX12_soundWith 22 = .ok (.iadd, 1) := dk_96 (bs_at BX12_soundWith_0 15 rfl)
theorem dX12_soundWith_23 : decode cX12_soundWith 23 = .ok (.iaload, 1) := dk_46 (bs_at BX12_soundWith_0 16 rfl)
theorem dX12_soundWith_24 : decode cX12_soundWith 24 = .ok (.iload_n 1, 1) := dk_27 (bs_at BX12_soundWith_0 17 rfl)
theorem dX12_soundWith_25 : decode cX12_soundWith 25 = .ok (.if_icmp .ne 15, 3) := dk_160 0 15 (bs_at BX12_soundWith_0 18 rfl) rfl
theorem dX12_soundWith_28 : decode cX12_soundWith 28 = .ok (.aload_n 0, 1) := dk_42 (bs_at BX12_soundWith_0 19 rfl)
theorem dX12_soundWith_29 : decode cX12_soundWith 29 = .ok (.iload_n 3, 1) := dk_29 (bs_at BX12_soundWith_0 20 rfl)
theorem dX12_soundWith_30 : decode cX12_soundWith 30 = .ok (.invokevirtual 185, 3) := dk_182 0 185 (bs_at BX12_soundWith_0 21 rfl) rfl
theorem dX12_soundWith_33 : decode cX12_soundWith 33 = .ok (.ifCond .eq 7, 3) := dk_153 0 7 (bs_at BX12_soundWith_0 22 rfl) rfl
theorem dX12_soundWith_36 : decode cX12_soundWith 36 = .ok (.iconst 1, 1) := dk_4 (bs_at BX12_soundWith_0 23 rfl)
theorem BX12_soundWith_37 : bsegs (ByteArray.data cX12_soundWith |>.toList.drop 37) 37 [(37, [167, 0, 4]), (40, [3]), (41, [96]), (42, [61]), (43, [132, 3, 1]), (46, [167, 255, 214]), (49, [28]), (50, [172])] = true := by decide +kernel
theorem dX12_soundWith_37 : decode cX12_soundWith 37 = .ok (.goto 4, 3) := dk_167 0 4 (bs_at BX12_soundWith_37 0 rfl) rfl
theorem dX12_soundWith_40 : decode cX12_soundWith 40 = .ok (.iconst 0, 1) := dk_3 (bs_at BX12_soundWith_37 1 rfl)
theorem dX12_soundWith_41 : decode cX12_soundWith 41 = .ok (.iadd, 1) := dk_96 (bs_at BX12_soundWith_37 2 rfl)
theorem dX12_soundWith_42 : decode cX12_soundWith 42 = .ok (.istore_n 2, 1) := dk_61 (bs_at BX12_soundWith_37 3 rfl)
theorem dX12_soundWith_43 : decode cX12_soundWith 43 = .ok (.iinc 3 1, 3) := dk_132 3 1 (bs_at BX12_soundWith_37 4 rfl) rfl
theorem dX12_soundWith_46 : decode cX12_soundWith 46 = .ok (.goto (-42), 3) := dk_167 255 214 (bs_at BX12_soundWith_37 5 rfl) rfl
theorem dX12_soundWith_49 : decode cX12_soundWith 49 = .ok (.iload_n 2, 1) := dk_28 (bs_at BX12_soundWith_37 6 rfl)
theorem dX12_soundWith_50 : decode cX12_soundWith 50 = .ok (.ireturn, 1) := dk_172 (bs_at BX12_soundWith_37 7 rfl)
theorem BX12_soundingNotes_0 : bsegs (ByteArray.data cX12_soundingNotes |>.toList.drop 0) 0 [(0, [3]), (1, [60]), (2, [3]), (3, [61]), (4, [28]), (5, [42]), (6, [180, 0, 13]), (9, [3]), (10, [46]), (11, [162, 0, 35]), (14, [27]), (15, [42]), (16, [28]), (17, [182, 0, 185]), (20, [153, 0, 17]), (23, [4]), (24, [42]), (25, [180, 0, 13]), (28, [16, 35]), (30, [28]), (31, [96]), (32, [46]), (33, [120]), (34, [167, 0, 4])] = true := by decide +kernel
theorem dX12_soundingNotes_0 : decode cX12_soundingNotes 0 = .ok (.iconst 0, 1) := dk_3 (bs_at BX12_soundingNotes_0 0 rfl)
theorem dX12_soundingNotes_1 : decode cX12_soundingNotes 1 = .ok (.istore_n 1, 1) := dk_60 (bs_at BX12_soundingNotes_0 1 rfl)
theorem dX12_soundingNotes_2 : decode cX12_soundingNotes 2 = .ok (.iconst 0, 1) := dk_3 (bs_at BX12_soundingNotes_0 2 rfl)
theorem dX12_soundingNotes_3 : decode cX12_soundingNotes 3 = .ok (.istore_n 2, 1) := dk_61 (bs_at BX12_soundingNotes_0 3 rfl)
theorem dX12_soundingNotes_4 : decode cX12_soundingNotes 4 = .ok (.iload_n 2, 1) := dk_28 (bs_at BX12_soundingNotes_0 4 rfl)
theorem dX12_soundingNotes_5 : decode cX12_soundingNotes 5 = .ok (.aload_n 0, 1) := dk_42 (bs_at BX12_soundingNotes_0 5 rfl)
theorem dX12_soundingNotes_6 : decode cX12_soundingNotes 6 = .ok (.getfield 13, 3) := dk_180 0 13 (bs_at BX12_soundingNotes_0 6 rfl) rfl
theorem dX12_soundingNotes_9 : decode cX12_soundingNotes 9 = .ok (.iconst 0, 1) := dk_3 (bs_at BX12_soundingNotes_0 7 rfl)
theorem dX12_soundingNotes_10 : decode cX12_soundingNotes 10 = .ok (.iaload, 1) := dk_46 (bs_at BX12_soundingNotes_0 8 rfl)
theorem dX12_soundingNotes_11 : decode cX12_soundingNotes 11 = .ok (.if_icmp .ge 35, 3) := dk_162 0 35 (bs_at BX12_soundingNotes_0 9 rfl) rfl
theorem dX12_soundingNotes_14 : decode cX12_soundingNotes 14 = .ok (.iload_n 1, 1) := dk_27 (bs_at BX12_soundingNotes_0 10 rfl)
theorem dX12_soundingNotes_15 : decode cX12_soundingNotes 15 = .ok (.aload_n 0, 1) := dk_42 (bs_at BX12_soundingNotes_0 11 rfl)
theorem dX12_soundingNotes_16 : decode cX12_soundingNotes 16 = .ok (.iload_n 2, 1) := dk_28 (bs_at BX12_soundingNotes_0 12 rfl)
theorem dX12_soundingNotes_17 : decode cX12_soundingNotes 17 = .ok (.invokevirtual 185, 3) := dk_182 0 185 (bs_at BX12_soundingNotes_0 13 rfl) rfl
theorem dX12_soundingNotes_20 : decode cX12_soundingNotes 20 = .ok (.ifCond .eq 17, 3) := dk_153 0 17 (bs_at BX12_soundingNotes_0 14 rfl) rfl
theorem dX12_soundingNotes_23 : decode cX12_soundingNotes 23 = .ok (.iconst 1, 1) := dk_4 (bs_at BX12_soundingNotes_0 15 rfl)
theorem dX12_soundingNotes_24 : decode cX12_soundingNotes 24 = .ok (.aload_n 0, 1) := dk_42 (bs_at BX12_soundingNotes_0 16 rfl)
theorem dX12_soundingNotes_25 : decode cX12_soundingNotes 25 = .ok (.getfield 13, 3) := dk_180 0 13 (bs_at BX12_soundingNotes_0 17 rfl) rfl
theorem dX12_soundingNotes_28 : decode cX12_soundingNotes 28 = .ok (.bipush 35, 2) := dk_16 35 (bs_at BX12_soundingNotes_0 18 rfl) rfl
theorem dX12_soundingNotes_30 : decode cX12_soundingNotes 30 = .ok (.iload_n 2, 1) := dk_28 (bs_at BX12_soundingNotes_0 19 rfl)
theorem dX12_soundingNotes_31 : decode cX12_soundingNotes 31 = .ok (.iadd, 1) := dk_96 (bs_at BX12_soundingNotes_0 20 rfl)
theorem dX12_soundingNotes_32 : decode cX12_soundingNotes 32 = .ok (.iaload, 1) := dk_46 (bs_at BX12_soundingNotes_0 21 rfl)
theorem dX12_soundingNotes_33 : decode cX12_soundingNotes 33 = .ok (.ishl, 1) := dk_120 (bs_at BX12_soundingNotes_0 22 rfl)
theorem dX12_soundingNotes_34 : decode cX12_soundingNotes 34 = .ok (.goto 4, 3) := dk_167 0 4 (bs_at BX12_soundingNotes_0 23 rfl) rfl
theorem BX12_soundingNotes_37 : bsegs (ByteArray.data cX12_soundingNotes |>.toList.drop 37) 37 [(37, [3]), (38, [128]), (39, [60]), (40, [132, 2, 1]), (43, [167, 255, 217]), (46, [27]), (47, [172])] = true := by decide +kernel
theorem dX12_soundingNotes_37 : decode cX12_soundingNotes 37 = .ok (.iconst 0, 1) := dk_3 (bs_at BX12_soundingNotes_37 0 rfl)
theorem dX12_soundingNotes_38 : decode cX12_soundingNotes 38 = .ok (.ior, 1) := dk_128 (bs_at BX12_soundingNotes_37 1 rfl)
theorem dX12_soundingNotes_39 : decode cX12_soundingNotes 39 = .ok (.istore_n 1, 1) := dk_60 (bs_at BX12_soundingNotes_37 2 rfl)
theorem dX12_soundingNotes_40 : decode cX12_soundingNotes 40 = .ok (.iinc 2 1, 3) := dk_132 2 1 (bs_at BX12_soundingNotes_37 3 rfl) rfl
theorem dX12_soundingNotes_43 : decode cX12_soundingNotes 43 = .ok (.goto (-39), 3) := dk_167 255 217 (bs_at BX12_soundingNotes_37 4 rfl) rfl
theorem dX12_soundingNotes_46 : decode cX12_soundingNotes 46 = .ok (.iload_n 1, 1) := dk_27 (bs_at BX12_soundingNotes_37 5 rfl)
theorem dX12_soundingNotes_47 : decode cX12_soundingNotes 47 = .ok (.ireturn, 1) := dk_172 (bs_at BX12_soundingNotes_37 6 rfl)
theorem BX12_areBeside_0 : bsegs (ByteArray.data cX12_areBeside |>.toList.drop 0) 0 [(0, [26]), (1, [27]), (2, [100]), (3, [16, 7]), (5, [96]), (6, [16, 7]), (8, [112]), (9, [61]), (10, [28]), (11, [4]), (12, [159, 0, 9]), (15, [28]), (16, [16, 6]), (18, [160, 0, 7]), (21, [4]), (22, [167, 0, 4]), (25, [3]), (26, [172])] = true := by decide +kernel
theorem dX12_areBeside_0 : decode cX12_areBeside 0 = .ok (.iload_n 0, 1) := dk_26 (bs_at BX12_areBeside_0 0 rfl)
theorem dX12_areBeside_1 : decode cX12_areBeside 1 = .ok (.iload_n 1, 1) := dk_27 (bs_at BX12_areBeside_0 1 rfl)
theorem dX12_areBeside_2 : decode cX12_areBeside 2 = .ok (.isub, 1) := dk_100 (bs_at BX12_areBeside_0 2 rfl)
theorem dX12_areBeside_3 : decode cX12_areBeside 3 = .ok (.bipush 7, 2) := dk_16 7 (bs_at BX12_areBeside_0 3 rfl) rfl
theorem dX12_areBeside_5 : decode cX12_areBeside 5 = .ok (.iadd, 1) := dk_96 (bs_at BX12_areBeside_0 4 rfl)
theorem dX12_areBeside_6 : decode cX12_areBeside 6 = .ok (.bipush 7, 2) := dk_16 7 (bs_at BX12_areBeside_0 5 rfl) rfl
theorem dX12_areBeside_8 : decode cX12_areBeside 8 = .ok (.irem, 1) := dk_112 (bs_at BX12_areBeside_0 6 rfl)
theorem dX12_areBeside_9 : decode cX12_areBeside 9 = .ok (.istore_n 2, 1) := dk_61 (bs_at BX12_areBeside_0 7 rfl)
theorem dX12_areBeside_10 : decode cX12_areBeside 10 = .ok (.iload_n 2, 1) := dk_28 (bs_at BX12_areBeside_0 8 rfl)
theorem dX12_areBeside_11 : decode cX12_areBeside 11 = .ok (.iconst 1, 1) := dk_4 (bs_at BX12_areBeside_0 9 rfl)
theorem dX12_areBeside_12 : decode cX12_areBeside 12 = .ok (.if_icmp .eq 9, 3) := dk_159 0 9 (bs_at BX12_areBeside_0 10 rfl) rfl
theorem dX12_areBeside_15 : decode cX12_areBeside 15 = .ok (.iload_n 2, 1) := dk_28 (bs_at BX12_areBeside_0 11 rfl)
theorem dX12_areBeside_16 : decode cX12_areBeside 16 = .ok (.bipush 6, 2) := dk_16 6 (bs_at BX12_areBeside_0 12 rfl) rfl
theorem dX12_areBeside_18 : decode cX12_areBeside 18 = .ok (.if_icmp .ne 7, 3) := dk_160 0 7 (bs_at BX12_areBeside_0 13 rfl) rfl
theorem dX12_areBeside_21 : decode cX12_areBeside 21 = .ok (.iconst 1, 1) := dk_4 (bs_at BX12_areBeside_0 14 rfl)
theorem dX12_areBeside_22 : decode cX12_areBeside 22 = .ok (.goto 4, 3) := dk_167 0 4 (bs_at BX12_areBeside_0 15 rfl) rfl
theorem dX12_areBeside_25 : decode cX12_areBeside 25 = .ok (.iconst 0, 1) := dk_3 (bs_at BX12_areBeside_0 16 rfl)
theorem dX12_areBeside_26 : decode cX12_areBeside 26 = .ok (.ireturn, 1) := dk_172 (bs_at BX12_areBeside_0 17 rfl)
theorem BX12_house_0 : bsegs (ByteArray.data cX12_house |>.toList.drop 0) 0 [(0, [42]), (1, [3]), (2, [181, 0, 158]), (5, [27]), (6, [133]), (7, [9]), (8, [20, 0, 189]), (11, [184, 0, 178]), (14, [153, 0, 53]), (17, [28]), (18, [133]), (19, [9]), (20, [20, 0, 191]), (23, [184, 0, 178]), (26, [153, 0, 41]), (29, [29]), (30, [133]), (31, [9]), (32, [20, 0, 193]), (35, [184, 0, 178]), (38, [153, 0, 29]), (41, [21, 4]), (43, [133]), (44, [9])] = true := by decide +kernel
theorem dX12_house_0 : decode cX12_house 0 = .ok (.aload_n 0, 1) := dk_42 (bs_at BX12_house_0 0 rfl)
theorem dX12_house_1 : decode cX12_house 1 = .ok (.iconst 0, 1) := dk_3 (bs_at BX12_house_0 1 rfl)
theorem dX12_house_2 : decode cX12_house 2 = .ok (.putfield 158, 3) := dk_181 0 158 (bs_at BX12_house_0 2 rfl) rfl
theorem dX12_house_5 : decode cX12_house 5 = .ok (.iload_n 1, 1) := dk_27 (bs_at BX12_house_0 3 rfl)
theorem dX12_house_6 : decode cX12_house 6 = .ok (.i2l, 1) := dk_133 (bs_at BX12_house_0 4 rfl)
theorem dX12_house_7 : decode cX12_house 7 = .ok (.lconst 0, 1) := dk_9 (bs_at BX12_house_0 5 rfl)
theorem dX12_house_8 : decode cX12_house 8 = .ok (.ldc2_w 189, 3) := dk_20 0 189 (bs_at BX12_house_0 6 rfl) rfl
theorem dX12_house_11 : decode cX12_house 11 = .ok (.invokestatic 178, 3) := dk_184 0 178 (bs_at BX12_house_0 7 rfl) rfl
theorem dX12_house_14 : decode cX12_house 14 = .ok (.ifCond .eq 53, 3) := dk_153 0 53 (bs_at BX12_house_0 8 rfl) rfl
theorem dX12_house_17 : decode cX12_house 17 = .ok (.iload_n 2, 1) := dk_28 (bs_at BX12_house_0 9 rfl)
theorem dX12_house_18 : decode cX12_house 18 = .ok (.i2l, 1) := dk_133 (bs_at BX12_house_0 10 rfl)
theorem dX12_house_19 : decode cX12_house 19 = .ok (.lconst 0, 1) := dk_9 (bs_at BX12_house_0 11 rfl)
theorem dX12_house_20 : decode cX12_house 20 = .ok (.ldc2_w 191, 3) := dk_20 0 191 (bs_at BX12_house_0 12 rfl) rfl
theorem dX12_house_23 : decode cX12_house 23 = .ok (.invokestatic 178, 3) := dk_184 0 178 (bs_at BX12_house_0 13 rfl) rfl
theorem dX12_house_26 : decode cX12_house 26 = .ok (.ifCond .eq 41, 3) := dk_153 0 41 (bs_at BX12_house_0 14 rfl) rfl
theorem dX12_house_29 : decode cX12_house 29 = .ok (.iload_n 3, 1) := dk_29 (bs_at BX12_house_0 15 rfl)
theorem dX12_house_30 : decode cX12_house 30 = .ok (.i2l, 1) := dk_133 (bs_at BX12_house_0 16 rfl)
theorem dX12_house_31 : decode cX12_house 31 = .ok (.lconst 0, 1) := dk_9 (bs_at BX12_house_0 17 rfl)
theorem dX12_house_32 : decode cX12_house 32 = .ok (.ldc2_w 193, 3) := dk_20 0 193 (bs_at BX12_house_0 18 rfl) rfl
theorem dX12_house_35 : decode cX12_house 35 = .ok (.invokestatic 178, 3) := dk_184 0 178 (bs_at BX12_house_0 19 rfl) rfl
theorem dX12_house_38 : decode cX12_house 38 = .ok (.ifCond .eq 29, 3) := dk_153 0 29 (bs_at BX12_house_0 20 rfl) rfl
theorem dX12_house_41 : decode cX12_house 41 = .ok (.iload 4, 2) := dk_21 4 (bs_at BX12_house_0 21 rfl)
theorem dX12_house_43 : decode cX12_house 43 = .ok (.i2l, 1) := dk_133 (bs_at BX12_house_0 22 rfl)
theorem dX12_house_44 : decode cX12_house 44 = .ok (.lconst 0, 1) := dk_9 (bs_at BX12_house_0 23 rfl)
theorem BX12_house_45 : bsegs (ByteArray.data cX12_house |>.toList.drop 45) 45 [(45, [20, 0, 195]), (48, [184, 0, 178]), (51, [153, 0, 16]), (54, [21, 5]), (56, [133]), (57, [9]), (58, [20, 0, 195]), (61, [184, 0, 178]), (64, [154, 0, 9]), (67, [42]), (68, [2]), (69, [182, 0, 171]), (72, [172]), (73, [42]), (74, [180, 0, 13]), (77, [3]), (78, [46]), (79, [54, 6]), (81, [3]), (82, [54, 7]), (84, [21, 7]), (86, [21, 6]), (88, [162, 0, 31]), (91, [42])] = true := by decide +kernel
theorem dX12_house_45 : decode cX12_house 45 = .ok (.ldc2_w 195, 3) := dk_20 0 195 (bs_at BX12_house_45 0 rfl) rfl
theorem dX12_house_48 : decode cX12_house 48 = .ok (.invokestatic 178, 3) := dk_184 0 178 (bs_at BX12_house_45 1 rfl) rfl
theorem dX12_house_51 : decode cX12_house 51 = .ok (.ifCond .eq 16, 3) := dk_153 0 16 (bs_at BX12_house_45 2 rfl) rfl
theorem dX12_house_54 : decode cX12_house 54 = .ok (.iload 5, 2) := dk_21 5 (bs_at BX12_house_45 3 rfl)
theorem dX12_house_56 : decode cX12_house 56 = .ok (.i2l, 1) := dk_133 (bs_at BX12_house_45 4 rfl)
theorem dX12_house_57 : decode cX12_house 57 = .ok (.lconst 0, 1) := dk_9 (bs_at BX12_house_45 5 rfl)
theorem dX12_house_58 : decode cX12_house 58 = .ok (.ldc2_w 195, 3) := dk_20 0 195 (bs_at BX12_house_45 6 rfl) rfl
theorem dX12_house_61 : decode cX12_house 61 = .ok (.invokestatic 178, 3) := dk_184 0 178 (bs_at BX12_house_45 7 rfl) rfl
theorem dX12_house_64 : decode cX12_house 64 = .ok (.ifCond .ne 9, 3) := dk_154 0 9 (bs_at BX12_house_45 8 rfl) rfl
theorem dX12_house_67 : decode cX12_house 67 = .ok (.aload_n 0, 1) := dk_42 (bs_at BX12_house_45 9 rfl)
theorem dX12_house_68 : decode cX12_house 68 = .ok (.iconst (-1), 1) := dk_2 (bs_at BX12_house_45 10 rfl)
theorem dX12_house_69 : decode cX12_house 69 = .ok (.invokevirtual 171, 3) := dk_182 0 171 (bs_at BX12_house_45 11 rfl) rfl
theorem dX12_house_72 : decode cX12_house 72 = .ok (.ireturn, 1) := dk_172 (bs_at BX12_house_45 12 rfl)
theorem dX12_house_73 : decode cX12_house 73 = .ok (.aload_n 0, 1) := dk_42 (bs_at BX12_house_45 13 rfl)
theorem dX12_house_74 : decode cX12_house 74 = .ok (.getfield 13, 3) := dk_180 0 13 (bs_at BX12_house_45 14 rfl) rfl
theorem dX12_house_77 : decode cX12_house 77 = .ok (.iconst 0, 1) := dk_3 (bs_at BX12_house_45 15 rfl)
theorem dX12_house_78 : decode cX12_house 78 = .ok (.iaload, 1) := dk_46 (bs_at BX12_house_45 16 rfl)
theorem dX12_house_79 : decode cX12_house 79 = .ok (.istore 6, 2) := dk_54 6 (bs_at BX12_house_45 17 rfl)
theorem dX12_house_81 : decode cX12_house 81 = .ok (.iconst 0, 1) := dk_3 (bs_at BX12_house_45 18 rfl)
theorem dX12_house_82 : decode cX12_house 82 = .ok (.istore 7, 2) := dk_54 7 (bs_at BX12_house_45 19 rfl)
theorem dX12_house_84 : decode cX12_house 84 = .ok (.iload 7, 2) := dk_21 7 (bs_at BX12_house_45 20 rfl)
theorem dX12_house_86 : decode cX12_house 86 = .ok (.iload 6, 2) := dk_21 6 (bs_at BX12_house_45 21 rfl)
theorem dX12_house_88 : decode cX12_house 88 = .ok (.if_icmp .ge 31, 3) := dk_162 0 31 (bs_at BX12_house_45 22 rfl) rfl
theorem dX12_house_91 : decode cX12_house 91 = .ok (.aload_n 0, 1) := dk_42 (bs_at BX12_house_45 23 rfl)
theorem BX12_house_92 : bsegs (ByteArray.data cX12_house |>.toList.drop 92) 92 [(92, [180, 0, 13]), (95, [16, 51]), (97, [21, 7]), (99, [96]), (100, [46]), (101, [21, 4]), (103, [160, 0, 10]), (106, [42]), (107, [16, 253]), (109, [182, 0, 171]), (112, [172]), (113, [132, 7, 1]), (116, [167, 255, 224]), (119, [21, 6]), (121, [16, 8]), (123, [160, 0, 10]), (126, [42]), (127, [16, 251]), (129, [182, 0, 171]), (132, [172]), (133, [42]), (134, [180, 0, 13]), (137, [16, 35]), (139, [21, 6])] = true := by decide +kernel
theorem dX12_house_92 : decode cX12_house 92 = .ok (.getfield 13, 3) := dk_180 0 13 (bs_at BX12_house_92 0 rfl) rfl
theorem dX12_house_95 : decode cX12_house 95 = .ok (.bipush 51, 2) := dk_16 51 (bs_at BX12_house_92 1 rfl) rfl
theorem dX12_house_97 : decode cX12_house 97 = .ok (.iload 7, 2) := dk_21 7 (bs_at BX12_house_92 2 rfl)
theorem dX12_house_99 : decode cX12_house 99 = .ok (.iadd, 1) := dk_96 (bs_at BX12_house_92 3 rfl)
theorem dX12_house_100 : decode cX12_house 100 = .ok (.iaload, 1) := dk_46 (bs_at BX12_house_92 4 rfl)
theorem dX12_house_101 : decode cX12_house 101 = .ok (.iload 4, 2) := dk_21 4 (bs_at BX12_house_92 5 rfl)
theorem dX12_house_103 : decode cX12_house 103 = .ok (.if_icmp .ne 10, 3) := dk_160 0 10 (bs_at BX12_house_92 6 rfl) rfl
theorem dX12_house_106 : decode cX12_house 106 = .ok (.aload_n 0, 1) := dk_42 (bs_at BX12_house_92 7 rfl)
theorem dX12_house_107 : decode cX12_house 107 = .ok (.bipush (-3), 2) := dk_16 253 (bs_at BX12_house_92 8 rfl) rfl
theorem dX12_house_109 : decode cX12_house 109 = .ok (.invokevirtual 171, 3) := dk_182 0 171 (bs_at BX12_house_92 9 rfl) rfl
theorem dX12_house_112 : decode cX12_house 112 = .ok (.ireturn, 1) := dk_172 (bs_at BX12_house_92 10 rfl)
theorem dX12_house_113 : decode cX12_house 113 = .ok (.iinc 7 1, 3) := dk_132 7 1 (bs_at BX12_house_92 11 rfl) rfl
theorem dX12_house_116 : decode cX12_house 116 = .ok (.goto (-32), 3) := dk_167 255 224 (bs_at BX12_house_92 12 rfl) rfl
theorem dX12_house_119 : decode cX12_house 119 = .ok (.iload 6, 2) := dk_21 6 (bs_at BX12_house_92 13 rfl)
theorem dX12_house_121 : decode cX12_house 121 = .ok (.bipush 8, 2) := dk_16 8 (bs_at BX12_house_92 14 rfl) rfl
theorem dX12_house_123 : decode cX12_house 123 = .ok (.if_icmp .ne 10, 3) := dk_160 0 10 (bs_at BX12_house_92 15 rfl) rfl
theorem dX12_house_126 : decode cX12_house 126 = .ok (.aload_n 0, 1) := dk_42 (bs_at BX12_house_92 16 rfl)
theorem dX12_house_127 : decode cX12_house 127 = .ok (.bipush (-5), 2) := dk_16 251 (bs_at BX12_house_92 17 rfl) rfl
theorem dX12_house_129 : decode cX12_house 129 = .ok (.invokevirtual 171, 3) := dk_182 0 171 (bs_at BX12_house_92 18 rfl) rfl
theorem dX12_house_132 : decode cX12_house 132 = .ok (.ireturn, 1) := dk_172 (bs_at BX12_house_92 19 rfl)
theorem dX12_house_133 : decode cX12_house 133 = .ok (.aload_n 0, 1) := dk_42 (bs_at BX12_house_92 20 rfl)
theorem dX12_house_134 : decode cX12_house 134 = .ok (.getfield 13, 3) := dk_180 0 13 (bs_at BX12_house_92 21 rfl) rfl
theorem dX12_house_137 : decode cX12_house 137 = .ok (.bipush 35, 2) := dk_16 35 (bs_at BX12_house_92 22 rfl) rfl
theorem dX12_house_139 : decode cX12_house 139 = .ok (.iload 6, 2) := dk_21 6 (bs_at BX12_house_92 23 rfl)
theorem BX12_house_141 : bsegs (ByteArray.data cX12_house |>.toList.drop 141) 141 [(141, [96]), (142, [27]), (143, [79]), (144, [42]), (145, [180, 0, 13]), (148, [16, 43]), (150, [21, 6]), (152, [96]), (153, [28]), (154, [79]), (155, [42]), (156, [180, 0, 13]), (159, [16, 19]), (161, [21, 6]), (163, [96]), (164, [29]), (165, [79]), (166, [42]), (167, [180, 0, 13]), (170, [16, 51]), (172, [21, 6]), (174, [96]), (175, [21, 4]), (177, [79])] = true := by decide +kernel
theorem dX12_house_141 : decode cX12_house 141 = .ok (.iadd, 1) := dk_96 (bs_at BX12_house_141 0 rfl)
theorem dX12_house_142 : decode cX12_house 142 = .ok (.iload_n 1, 1) := dk_27 (bs_at BX12_house_141 1 rfl)
theorem dX12_house_143 : decode cX12_house 143 = .ok (.iastore, 1) := dk_79 (bs_at BX12_house_141 2 rfl)
theorem dX12_house_144 : decode cX12_house 144 = .ok (.aload_n 0, 1) := dk_42 (bs_at BX12_house_141 3 rfl)
theorem dX12_house_145 : decode cX12_house 145 = .ok (.getfield 13, 3) := dk_180 0 13 (bs_at BX12_house_141 4 rfl) rfl
theorem dX12_house_148 : decode cX12_house 148 = .ok (.bipush 43, 2) := dk_16 43 (bs_at BX12_house_141 5 rfl) rfl
theorem dX12_house_150 : decode cX12_house 150 = .ok (.iload 6, 2) := dk_21 6 (bs_at BX12_house_141 6 rfl)
theorem dX12_house_152 : decode cX12_house 152 = .ok (.iadd, 1) := dk_96 (bs_at BX12_house_141 7 rfl)
theorem dX12_house_153 : decode cX12_house 153 = .ok (.iload_n 2, 1) := dk_28 (bs_at BX12_house_141 8 rfl)
theorem dX12_house_154 : decode cX12_house 154 = .ok (.iastore, 1) := dk_79 (bs_at BX12_house_141 9 rfl)
theorem dX12_house_155 : decode cX12_house 155 = .ok (.aload_n 0, 1) := dk_42 (bs_at BX12_house_141 10 rfl)
theorem dX12_house_156 : decode cX12_house 156 = .ok (.getfield 13, 3) := dk_180 0 13 (bs_at BX12_house_141 11 rfl) rfl
theorem dX12_house_159 : decode cX12_house 159 = .ok (.bipush 19, 2) := dk_16 19 (bs_at BX12_house_141 12 rfl) rfl
theorem dX12_house_161 : decode cX12_house 161 = .ok (.iload 6, 2) := dk_21 6 (bs_at BX12_house_141 13 rfl)
theorem dX12_house_163 : decode cX12_house 163 = .ok (.iadd, 1) := dk_96 (bs_at BX12_house_141 14 rfl)
theorem dX12_house_164 : decode cX12_house 164 = .ok (.iload_n 3, 1) := dk_29 (bs_at BX12_house_141 15 rfl)
theorem dX12_house_165 : decode cX12_house 165 = .ok (.iastore, 1) := dk_79 (bs_at BX12_house_141 16 rfl)
theorem dX12_house_166 : decode cX12_house 166 = .ok (.aload_n 0, 1) := dk_42 (bs_at BX12_house_141 17 rfl)
theorem dX12_house_167 : decode cX12_house 167 = .ok (.getfield 13, 3) := dk_180 0 13 (bs_at BX12_house_141 18 rfl) rfl
theorem dX12_house_170 : decode cX12_house 170 = .ok (.bipush 51, 2) := dk_16 51 (bs_at BX12_house_141 19 rfl) rfl
theorem dX12_house_172 : decode cX12_house 172 = .ok (.iload 6, 2) := dk_21 6 (bs_at BX12_house_141 20 rfl)
theorem dX12_house_174 : decode cX12_house 174 = .ok (.iadd, 1) := dk_96 (bs_at BX12_house_141 21 rfl)
theorem dX12_house_175 : decode cX12_house 175 = .ok (.iload 4, 2) := dk_21 4 (bs_at BX12_house_141 22 rfl)
theorem dX12_house_177 : decode cX12_house 177 = .ok (.iastore, 1) := dk_79 (bs_at BX12_house_141 23 rfl)
theorem BX12_house_178 : bsegs (ByteArray.data cX12_house |>.toList.drop 178) 178 [(178, [42]), (179, [180, 0, 13]), (182, [16, 59]), (184, [21, 6]), (186, [96]), (187, [21, 5]), (189, [79]), (190, [42]), (191, [180, 0, 13]), (194, [16, 11]), (196, [21, 6]), (198, [96]), (199, [3]), (200, [79]), (201, [42]), (202, [180, 0, 13]), (205, [16, 27]), (207, [21, 6]), (209, [96]), (210, [3]), (211, [79]), (212, [42]), (213, [180, 0, 13]), (216, [3])] = true := by decide +kernel
theorem dX12_house_178 : decode cX12_house 178 = .ok (.aload_n 0, 1) := dk_42 (bs_at BX12_house_178 0 rfl)
theorem dX12_house_179 : decode cX12_house 179 = .ok (.getfield 13, 3) := dk_180 0 13 (bs_at BX12_house_178 1 rfl) rfl
theorem dX12_house_182 : decode cX12_house 182 = .ok (.bipush 59, 2) := dk_16 59 (bs_at BX12_house_178 2 rfl) rfl
theorem dX12_house_184 : decode cX12_house 184 = .ok (.iload 6, 2) := dk_21 6 (bs_at BX12_house_178 3 rfl)
theorem dX12_house_186 : decode cX12_house 186 = .ok (.iadd, 1) := dk_96 (bs_at BX12_house_178 4 rfl)
theorem dX12_house_187 : decode cX12_house 187 = .ok (.iload 5, 2) := dk_21 5 (bs_at BX12_house_178 5 rfl)
theorem dX12_house_189 : decode cX12_house 189 = .ok (.iastore, 1) := dk_79 (bs_at BX12_house_178 6 rfl)
theorem dX12_house_190 : decode cX12_house 190 = .ok (.aload_n 0, 1) := dk_42 (bs_at BX12_house_178 7 rfl)
theorem dX12_house_191 : decode cX12_house 191 = .ok (.getfield 13, 3) := dk_180 0 13 (bs_at BX12_house_178 8 rfl) rfl
theorem dX12_house_194 : decode cX12_house 194 = .ok (.bipush 11, 2) := dk_16 11 (bs_at BX12_house_178 9 rfl) rfl
theorem dX12_house_196 : decode cX12_house 196 = .ok (.iload 6, 2) := dk_21 6 (bs_at BX12_house_178 10 rfl)
theorem dX12_house_198 : decode cX12_house 198 = .ok (.iadd, 1) := dk_96 (bs_at BX12_house_178 11 rfl)
theorem dX12_house_199 : decode cX12_house 199 = .ok (.iconst 0, 1) := dk_3 (bs_at BX12_house_178 12 rfl)
theorem dX12_house_200 : decode cX12_house 200 = .ok (.iastore, 1) := dk_79 (bs_at BX12_house_178 13 rfl)
theorem dX12_house_201 : decode cX12_house 201 = .ok (.aload_n 0, 1) := dk_42 (bs_at BX12_house_178 14 rfl)
theorem dX12_house_202 : decode cX12_house 202 = .ok (.getfield 13, 3) := dk_180 0 13 (bs_at BX12_house_178 15 rfl) rfl
theorem dX12_house_205 : decode cX12_house 205 = .ok (.bipush 27, 2) := dk_16 27 (bs_at BX12_house_178 16 rfl) rfl
theorem dX12_house_207 : decode cX12_house 207 = .ok (.iload 6, 2) := dk_21 6 (bs_at BX12_house_178 17 rfl)
theorem dX12_house_209 : decode cX12_house 209 = .ok (.iadd, 1) := dk_96 (bs_at BX12_house_178 18 rfl)
theorem dX12_house_210 : decode cX12_house 210 = .ok (.iconst 0, 1) := dk_3 (bs_at BX12_house_178 19 rfl)
theorem dX12_house_211 : decode cX12_house 211 = .ok (.iastore, 1) := dk_79 (bs_at BX12_house_178 20 rfl)
theorem dX12_house_212 : decode cX12_house 212 = .ok (.aload_n 0, 1) := dk_42 (bs_at BX12_house_178 21 rfl)
theorem dX12_house_213 : decode cX12_house 213 = .ok (.getfield 13, 3) := dk_180 0 13 (bs_at BX12_house_178 22 rfl) rfl
theorem dX12_house_216 : decode cX12_house 216 = .ok (.iconst 0, 1) := dk_3 (bs_at BX12_house_178 23 rfl)
theorem BX12_house_217 : bsegs (ByteArray.data cX12_house |>.toList.drop 217) 217 [(217, [92]), (218, [46]), (219, [4]), (220, [96]), (221, [79]), (222, [42]), (223, [3]), (224, [181, 0, 164]), (227, [42]), (228, [21, 6]), (230, [182, 0, 171]), (233, [172])] = true := by decide +kernel
theorem dX12_house_217 : decode cX12_house 217 = .ok (.dup2, 1) := dk_92 (bs_at BX12_house_217 0 rfl)
theorem dX12_house_218 : decode cX12_house 218 = .ok (.iaload, 1) := dk_46 (bs_at BX12_house_217 1 rfl)
theorem dX12_house_219 : decode cX12_house 219 = .ok (.iconst 1, 1) := dk_4 (bs_at BX12_house_217 2 rfl)
theorem dX12_house_220 : decode cX12_house 220 = .ok (.iadd, 1) := dk_96 (bs_at BX12_house_217 3 rfl)
theorem dX12_house_221 : decode cX12_house 221 = .ok (.iastore, 1) := dk_79 (bs_at BX12_house_217 4 rfl)
theorem dX12_house_222 : decode cX12_house 222 = .ok (.aload_n 0, 1) := dk_42 (bs_at BX12_house_217 5 rfl)
theorem dX12_house_223 : decode cX12_house 223 = .ok (.iconst 0, 1) := dk_3 (bs_at BX12_house_217 6 rfl)
theorem dX12_house_224 : decode cX12_house 224 = .ok (.putfield 164, 3) := dk_181 0 164 (bs_at BX12_house_217 7 rfl) rfl
theorem dX12_house_227 : decode cX12_house 227 = .ok (.aload_n 0, 1) := dk_42 (bs_at BX12_house_217 8 rfl)
theorem dX12_house_228 : decode cX12_house 228 = .ok (.iload 6, 2) := dk_21 6 (bs_at BX12_house_217 9 rfl)
theorem dX12_house_230 : decode cX12_house 230 = .ok (.invokevirtual 171, 3) := dk_182 0 171 (bs_at BX12_house_217 10 rfl) rfl
theorem dX12_house_233 : decode cX12_house 233 = .ok (.ireturn, 1) := dk_172 (bs_at BX12_house_217 11 rfl)
theorem BX12_score_0 : bsegs (ByteArray.data cX12_score |>.toList.drop 0) 0 [(0, [42]), (1, [3]), (2, [181, 0, 158]), (5, [27]), (6, [133]), (7, [9]), (8, [20, 0, 210]), (11, [184, 0, 178]), (14, [153, 0, 27]), (17, [28]), (18, [133]), (19, [9]), (20, [20, 0, 212]), (23, [184, 0, 178]), (26, [153, 0, 15]), (29, [42]), (30, [16, 67]), (32, [27]), (33, [96]), (34, [28]), (35, [182, 0, 214]), (38, [167, 0, 8]), (41, [42]), (42, [2])] = true := by decide +kernel
theorem dX12_score_0 : decode cX12_score 0 = .ok (.aload_n 0, 1) := dk_42 (bs_at BX12_score_0 0 rfl)
theorem dX12_score_1 : decode cX12_score 1 = .ok (.iconst 0, 1) := dk_3 (bs_at BX12_score_0 1 rfl)
theorem dX12_score_2 : decode cX12_score 2 = .ok (.putfield 158, 3) := dk_181 0 158 (bs_at BX12_score_0 2 rfl) rfl
theorem dX12_score_5 : decode cX12_score 5 = .ok (.iload_n 1, 1) := dk_27 (bs_at BX12_score_0 3 rfl)
theorem dX12_score_6 : decode cX12_score 6 = .ok (.i2l, 1) := dk_133 (bs_at BX12_score_0 4 rfl)
theorem dX12_score_7 : decode cX12_score 7 = .ok (.lconst 0, 1) := dk_9 (bs_at BX12_score_0 5 rfl)
theorem dX12_score_8 : decode cX12_score 8 = .ok (.ldc2_w 210, 3) := dk_20 0 210 (bs_at BX12_score_0 6 rfl) rfl
theorem dX12_score_11 : decode cX12_score 11 = .ok (.invokestatic 178, 3) := dk_184 0 178 (bs_at BX12_score_0 7 rfl) rfl
theorem dX12_score_14 : decode cX12_score 14 = .ok (.ifCond .eq 27, 3) := dk_153 0 27 (bs_at BX12_score_0 8 rfl) rfl
theorem dX12_score_17 : decode cX12_score 17 = .ok (.iload_n 2, 1) := dk_28 (bs_at BX12_score_0 9 rfl)
theorem dX12_score_18 : decode cX12_score 18 = .ok (.i2l, 1) := dk_133 (bs_at BX12_score_0 10 rfl)
theorem dX12_score_19 : decode cX12_score 19 = .ok (.lconst 0, 1) := dk_9 (bs_at BX12_score_0 11 rfl)
theorem dX12_score_20 : decode cX12_score 20 = .ok (.ldc2_w 212, 3) := dk_20 0 212 (bs_at BX12_score_0 12 rfl) rfl
theorem dX12_score_23 : decode cX12_score 23 = .ok (.invokestatic 178, 3) := dk_184 0 178 (bs_at BX12_score_0 13 rfl) rfl
theorem dX12_score_26 : decode cX12_score 26 = .ok (.ifCond .eq 15, 3) := dk_153 0 15 (bs_at BX12_score_0 14 rfl) rfl
theorem dX12_score_29 : decode cX12_score 29 = .ok (.aload_n 0, 1) := dk_42 (bs_at BX12_score_0 15 rfl)
theorem dX12_score_30 : decode cX12_score 30 = .ok (.bipush 67, 2) := dk_16 67 (bs_at BX12_score_0 16 rfl) rfl
theorem dX12_score_32 : decode cX12_score 32 = .ok (.iload_n 1, 1) := dk_27 (bs_at BX12_score_0 17 rfl)
theorem dX12_score_33 : decode cX12_score 33 = .ok (.iadd, 1) := dk_96 (bs_at BX12_score_0 18 rfl)
theorem dX12_score_34 : decode cX12_score 34 = .ok (.iload_n 2, 1) := dk_28 (bs_at BX12_score_0 19 rfl)
theorem dX12_score_35 : decode cX12_score 35 = .ok (.invokevirtual 214, 3) := dk_182 0 214 (bs_at BX12_score_0 20 rfl) rfl
theorem dX12_score_38 : decode cX12_score 38 = .ok (.goto 8, 3) := dk_167 0 8 (bs_at BX12_score_0 21 rfl) rfl
theorem dX12_score_41 : decode cX12_score 41 = .ok (.aload_n 0, 1) := dk_42 (bs_at BX12_score_0 22 rfl)
theorem dX12_score_42 : decode cX12_score 42 = .ok (.iconst (-1), 1) := dk_2 (bs_at BX12_score_0 23 rfl)
theorem BX12_score_43 : bsegs (ByteArray.data cX12_score |>.toList.drop 43) 43 [(43, [182, 0, 171]), (46, [172])] = true := by decide +kernel
theorem dX12_score_43 : decode cX12_score 43 = .ok (.invokevirtual 171, 3) := dk_182 0 171 (bs_at BX12_score_43 0 rfl) rfl
theorem dX12_score_46 : decode cX12_score 46 = .ok (.ireturn, 1) := dk_172 (bs_at BX12_score_43 1 rfl)
theorem BX12_chord_0 : bsegs (ByteArray.data cX12_chord |>.toList.drop 0) 0 [(0, [42]), (1, [3]), (2, [181, 0, 158]), (5, [27]), (6, [133]), (7, [9]), (8, [20, 0, 210]), (11, [184, 0, 178]), (14, [153, 0, 15]), (17, [42]), (18, [180, 0, 13]), (21, [16, 67]), (23, [27]), (24, [96]), (25, [46]), (26, [167, 0, 4]), (29, [2]), (30, [172])] = true := by decide +kernel
theorem dX12_chord_0 : decode cX12_chord 0 = .ok (.aload_n 0, 1) := dk_42 (bs_at BX12_chord_0 0 rfl)
theorem dX12_chord_1 : decode cX12_chord 1 = .ok (.iconst 0, 1) := dk_3 (bs_at BX12_chord_0 1 rfl)
theorem dX12_chord_2 : decode cX12_chord 2 = .ok (.putfield 158, 3) := dk_181 0 158 (bs_at BX12_chord_0 2 rfl) rfl
theorem dX12_chord_5 : decode cX12_chord 5 = .ok (.iload_n 1, 1) := dk_27 (bs_at BX12_chord_0 3 rfl)
theorem dX12_chord_6 : decode cX12_chord 6 = .ok (.i2l, 1) := dk_133 (bs_at BX12_chord_0 4 rfl)
theorem dX12_chord_7 : decode cX12_chord 7 = .ok (.lconst 0, 1) := dk_9 (bs_at BX12_chord_0 5 rfl)
theorem dX12_chord_8 : decode cX12_chord 8 = .ok (.ldc2_w 210, 3) := dk_20 0 210 (bs_at BX12_chord_0 6 rfl) rfl
theorem dX12_chord_11 : decode cX12_chord 11 = .ok (.invokestatic 178, 3) := dk_184 0 178 (bs_at BX12_chord_0 7 rfl) rfl
theorem dX12_chord_14 : decode cX12_chord 14 = .ok (.ifCond .eq 15, 3) := dk_153 0 15 (bs_at BX12_chord_0 8 rfl) rfl
theorem dX12_chord_17 : decode cX12_chord 17 = .ok (.aload_n 0, 1) := dk_42 (bs_at BX12_chord_0 9 rfl)
theorem dX12_chord_18 : decode cX12_chord 18 = .ok (.getfield 13, 3) := dk_180 0 13 (bs_at BX12_chord_0 10 rfl) rfl
theorem dX12_chord_21 : decode cX12_chord 21 = .ok (.bipush 67, 2) := dk_16 67 (bs_at BX12_chord_0 11 rfl) rfl
theorem dX12_chord_23 : decode cX12_chord 23 = .ok (.iload_n 1, 1) := dk_27 (bs_at BX12_chord_0 12 rfl)
theorem dX12_chord_24 : decode cX12_chord 24 = .ok (.iadd, 1) := dk_96 (bs_at BX12_chord_0 13 rfl)
theorem dX12_chord_25 : decode cX12_chord 25 = .ok (.iaload, 1) := dk_46 (bs_at BX12_chord_0 14 rfl)
theorem dX12_chord_26 : decode cX12_chord 26 = .ok (.goto 4, 3) := dk_167 0 4 (bs_at BX12_chord_0 15 rfl) rfl
theorem dX12_chord_29 : decode cX12_chord 29 = .ok (.iconst (-1), 1) := dk_2 (bs_at BX12_chord_0 16 rfl)
theorem dX12_chord_30 : decode cX12_chord 30 = .ok (.ireturn, 1) := dk_172 (bs_at BX12_chord_0 17 rfl)
theorem BX12_canBe_0 : bsegs (ByteArray.data cX12_canBe |>.toList.drop 0) 0 [(0, [26]), (36, [27]), (37, [133]), (38, [9]), (39, [20, 0, 210]), (42, [184, 0, 178]), (45, [172]), (46, [27]), (47, [133]), (48, [9]), (49, [20, 0, 193]), (52, [184, 0, 178]), (55, [172]), (56, [27]), (57, [133]), (58, [10]), (59, [20, 0, 217]), (62, [184, 0, 178]), (65, [172]), (66, [27]), (67, [133]), (68, [9]), (69, [20, 0, 219]), (72, [184, 0, 178])] = true := by decide +kernel
theorem dX12_canBe_0 : decode cX12_canBe 0 = .ok (.iload_n 0, 1) := dk_26 (bs_at BX12_canBe_0 0 rfl)
theorem dX12_canBe_36 : decode cX12_canBe 36 = .ok (.iload_n 1, 1) := dk_27 (bs_at BX12_canBe_0 1 rfl)
theorem dX12_canBe_37 : decode cX12_canBe 37 = .ok (.i2l, 1) := dk_133 (bs_at BX12_canBe_0 2 rfl)
theorem dX12_canBe_38 : decode cX12_canBe 38 = .ok (.lconst 0, 1) := dk_9 (bs_at BX12_canBe_0 3 rfl)
theorem dX12_canBe_39 : decode cX12_canBe 39 = .ok (.ldc2_w 210, 3) := dk_20 0 210 (bs_at BX12_canBe_0 4 rfl) rfl
theorem dX12_canBe_42 : decode cX12_canBe 42 = .ok (.invokestatic 178, 3) := dk_184 0 178 (bs_at BX12_canBe_0 5 rfl) rfl
theorem dX12_canBe_45 : decode cX12_canBe 45 = .ok (.ireturn, 1) := dk_172 (bs_at BX12_canBe_0 6 rfl)
theorem dX12_canBe_46 : decode cX12_canBe 46 = .ok (.iload_n 1, 1) := dk_27 (bs_at BX12_canBe_0 7 rfl)
theorem dX12_canBe_47 : decode cX12_canBe 47 = .ok (.i2l, 1) := dk_133 (bs_at BX12_canBe_0 8 rfl)
theorem dX12_canBe_48 : decode cX12_canBe 48 = .ok (.lconst 0, 1) := dk_9 (bs_at BX12_canBe_0 9 rfl)
theorem dX12_canBe_49 : decode cX12_canBe 49 = .ok (.ldc2_w 193, 3) := dk_20 0 193 (bs_at BX12_canBe_0 10 rfl) rfl
theorem dX12_canBe_52 : decode cX12_canBe 52 = .ok (.invokestatic 178, 3) := dk_184 0 178 (bs_at BX12_canBe_0 11 rfl) rfl
theorem dX12_canBe_55 : decode cX12_canBe 55 = .ok (.ireturn, 1) := dk_172 (bs_at BX12_canBe_0 12 rfl)
theorem dX12_canBe_56 : decode cX12_canBe 56 = .ok (.iload_n 1, 1) := dk_27 (bs_at BX12_canBe_0 13 rfl)
theorem dX12_canBe_57 : decode cX12_canBe 57 = .ok (.i2l, 1) := dk_133 (bs_at BX12_canBe_0 14 rfl)
theorem dX12_canBe_58 : decode cX12_canBe 58 = .ok (.lconst 1, 1) := dk_10 (bs_at BX12_canBe_0 15 rfl)
theorem dX12_canBe_59 : decode cX12_canBe 59 = .ok (.ldc2_w 217, 3) := dk_20 0 217 (bs_at BX12_canBe_0 16 rfl) rfl
theorem dX12_canBe_62 : decode cX12_canBe 62 = .ok (.invokestatic 178, 3) := dk_184 0 178 (bs_at BX12_canBe_0 17 rfl) rfl
theorem dX12_canBe_65 : decode cX12_canBe 65 = .ok (.ireturn, 1) := dk_172 (bs_at BX12_canBe_0 18 rfl)
theorem dX12_canBe_66 : decode cX12_canBe 66 = .ok (.iload_n 1, 1) := dk_27 (bs_at BX12_canBe_0 19 rfl)
theorem dX12_canBe_67 : decode cX12_canBe 67 = .ok (.i2l, 1) := dk_133 (bs_at BX12_canBe_0 20 rfl)
theorem dX12_canBe_68 : decode cX12_canBe 68 = .ok (.lconst 0, 1) := dk_9 (bs_at BX12_canBe_0 21 rfl)
theorem dX12_canBe_69 : decode cX12_canBe 69 = .ok (.ldc2_w 219, 3) := dk_20 0 219 (bs_at BX12_canBe_0 22 rfl) rfl
theorem dX12_canBe_72 : decode cX12_canBe 72 = .ok (.invokestatic 178, 3) := dk_184 0 178 (bs_at BX12_canBe_0 23 rfl) rfl
theorem BX12_canBe_75 : bsegs (ByteArray.data cX12_canBe |>.toList.drop 75) 75 [(75, [172]), (76, [26]), (77, [8]), (78, [160, 0, 19]), (81, [27]), (82, [133]), (83, [9]), (84, [20, 0, 221]), (87, [184, 0, 178]), (90, [153, 0, 7]), (93, [4]), (94, [167, 0, 4]), (97, [3]), (98, [172])] = true := by decide +kernel
theorem dX12_canBe_75 : decode cX12_canBe 75 = .ok (.ireturn, 1) := dk_172 (bs_at BX12_canBe_75 0 rfl)
theorem dX12_canBe_76 : decode cX12_canBe 76 = .ok (.iload_n 0, 1) := dk_26 (bs_at BX12_canBe_75 1 rfl)
theorem dX12_canBe_77 : decode cX12_canBe 77 = .ok (.iconst 5, 1) := dk_8 (bs_at BX12_canBe_75 2 rfl)
theorem dX12_canBe_78 : decode cX12_canBe 78 = .ok (.if_icmp .ne 19, 3) := dk_160 0 19 (bs_at BX12_canBe_75 3 rfl) rfl
theorem dX12_canBe_81 : decode cX12_canBe 81 = .ok (.iload_n 1, 1) := dk_27 (bs_at BX12_canBe_75 4 rfl)
theorem dX12_canBe_82 : decode cX12_canBe 82 = .ok (.i2l, 1) := dk_133 (bs_at BX12_canBe_75 5 rfl)
theorem dX12_canBe_83 : decode cX12_canBe 83 = .ok (.lconst 0, 1) := dk_9 (bs_at BX12_canBe_75 6 rfl)
theorem dX12_canBe_84 : decode cX12_canBe 84 = .ok (.ldc2_w 221, 3) := dk_20 0 221 (bs_at BX12_canBe_75 7 rfl) rfl
theorem dX12_canBe_87 : decode cX12_canBe 87 = .ok (.invokestatic 178, 3) := dk_184 0 178 (bs_at BX12_canBe_75 8 rfl) rfl
theorem dX12_canBe_90 : decode cX12_canBe 90 = .ok (.ifCond .eq 7, 3) := dk_153 0 7 (bs_at BX12_canBe_75 9 rfl) rfl
theorem dX12_canBe_93 : decode cX12_canBe 93 = .ok (.iconst 1, 1) := dk_4 (bs_at BX12_canBe_75 10 rfl)
theorem dX12_canBe_94 : decode cX12_canBe 94 = .ok (.goto 4, 3) := dk_167 0 4 (bs_at BX12_canBe_75 11 rfl) rfl
theorem dX12_canBe_97 : decode cX12_canBe 97 = .ok (.iconst 0, 1) := dk_3 (bs_at BX12_canBe_75 12 rfl)
theorem dX12_canBe_98 : decode cX12_canBe 98 = .ok (.ireturn, 1) := dk_172 (bs_at BX12_canBe_75 13 rfl)
theorem ggX12_remember_X12_keepAll : GoodIn wsX12_remember wsX12_keepAll := gi_ch ch_X12_remember ch_X12_keepAll (by decide +kernel)
theorem gX12_remember_X12_keepAll : GoodIn wsX12_remember (wsV RX12 167 RX12 yX12_keepAll wsX12_keepAll) := gi_ch ch_X12_remember (ch_v [1208, 1209, 119, 156] rfl ch_X12_keepAll) (by decide +kernel)
theorem ggX12_undo_X12_putBack : GoodIn wsX12_undo wsX12_putBack := gi_ch ch_X12_undo ch_X12_putBack (by decide +kernel)
theorem gX12_undo_X12_putBack : GoodIn wsX12_undo (wsV RX12 175 RX12 yX12_putBack wsX12_putBack) := gi_ch ch_X12_undo (ch_v [958, 959, 75, 156] rfl ch_X12_putBack) (by decide +kernel)
theorem ggX12_undo_X12_tell : GoodIn wsX12_undo wsX12_tell := gi_ch ch_X12_undo ch_X12_tell (by decide +kernel)
theorem gX12_undo_X12_tell : GoodIn wsX12_undo (wsV RX12 171 RX12 yX12_tell wsX12_tell) := gi_ch ch_X12_undo (ch_v [955, 956, 74, 156] rfl ch_X12_tell) (by decide +kernel)
theorem ggX12_isHouse_X12_in : GoodIn wsX12_isHouse wsX12_in := gi_ch ch_X12_isHouse ch_X12_in (by decide +kernel)
theorem gX12_isHouse_X12_in : GoodIn wsX12_isHouse (va_wsS RX12 178 yX12_in wsX12_in) := gi_ch ch_X12_isHouse (ch_s [965, 966, 156] rfl ch_X12_in) (by decide +kernel)
theorem ggX12_isSounding_X12_term : GoodIn wsX12_isSounding wsX12_term := gi_ch ch_X12_isSounding ch_X12_term (by decide +kernel)
theorem gX12_isSounding_X12_term : GoodIn wsX12_isSounding (wsV RX12 182 RX12 yX12_term wsX12_term) := gi_ch ch_X12_isSounding (ch_v [990, 991, 78, 156] rfl ch_X12_term) (by decide +kernel)
theorem ggX12_isSounding_X12_in : GoodIn wsX12_isSounding wsX12_in := gi_ch ch_X12_isSounding ch_X12_in (by decide +kernel)
theorem gX12_isSounding_X12_in : GoodIn wsX12_isSounding (va_wsS RX12 178 yX12_in wsX12_in) := gi_ch ch_X12_isSounding (ch_s [965, 966, 156] rfl ch_X12_in) (by decide +kernel)
theorem ggX12_soundWith_X12_isSounding : GoodIn wsX12_soundWith wsX12_isSounding := gi_ch ch_X12_soundWith ch_X12_isSounding (by decide +kernel)
theorem gX12_soundWith_X12_isSounding : GoodIn wsX12_soundWith (wsV RX12 185 RX12 yX12_isSounding wsX12_isSounding) := gi_ch ch_X12_soundWith (ch_v [987, 988, 77, 156] rfl ch_X12_isSounding) (by decide +kernel)
theorem ggX12_soundingNotes_X12_isSounding : GoodIn wsX12_soundingNotes wsX12_isSounding := gi_ch ch_X12_soundingNotes ch_X12_isSounding (by decide +kernel)
theorem gX12_soundingNotes_X12_isSounding : GoodIn wsX12_soundingNotes (wsV RX12 185 RX12 yX12_isSounding wsX12_isSounding) := gi_ch ch_X12_soundingNotes (ch_v [987, 988, 77, 156] rfl ch_X12_isSounding) (by decide +kernel)
theorem ggX12_house_X12_tell : GoodIn wsX12_house wsX12_tell := gi_ch ch_X12_house ch_X12_tell (by decide +kernel)
theorem gX12_house_X12_tell : GoodIn wsX12_house (wsV RX12 171 RX12 yX12_tell wsX12_tell) := gi_ch ch_X12_house (ch_v [955, 956, 74, 156] rfl ch_X12_tell) (by decide +kernel)
theorem ggX12_house_X12_in : GoodIn wsX12_house wsX12_in := gi_ch ch_X12_house ch_X12_in (by decide +kernel)
theorem gX12_house_X12_in : GoodIn wsX12_house (va_wsS RX12 178 yX12_in wsX12_in) := gi_ch ch_X12_house (ch_s [965, 966, 156] rfl ch_X12_in) (by decide +kernel)
theorem ggX12_score_X12_tell : GoodIn wsX12_score wsX12_tell := gi_ch ch_X12_score ch_X12_tell (by decide +kernel)
theorem gX12_score_X12_tell : GoodIn wsX12_score (wsV RX12 171 RX12 yX12_tell wsX12_tell) := gi_ch ch_X12_score (ch_v [955, 956, 74, 156] rfl ch_X12_tell) (by decide +kernel)
theorem ggX12_score_X12_in : GoodIn wsX12_score wsX12_in := gi_ch ch_X12_score ch_X12_in (by decide +kernel)
theorem gX12_score_X12_in : GoodIn wsX12_score (va_wsS RX12 178 yX12_in wsX12_in) := gi_ch ch_X12_score (ch_s [965, 966, 156] rfl ch_X12_in) (by decide +kernel)
theorem ggX12_score_X12_change : GoodIn wsX12_score wsX12_change := gi_ch ch_X12_score ch_X12_change (by decide +kernel)
theorem gX12_score_X12_change : GoodIn wsX12_score (wsV RX12 214 RX12 yX12_change wsX12_change) := gi_ch ch_X12_score (ch_v [1030, 1031, 87, 156] rfl ch_X12_change) (by decide +kernel)
theorem ggX12_chord_X12_in : GoodIn wsX12_chord wsX12_in := gi_ch ch_X12_chord ch_X12_in (by decide +kernel)
theorem gX12_chord_X12_in : GoodIn wsX12_chord (va_wsS RX12 178 yX12_in wsX12_in) := gi_ch ch_X12_chord (ch_s [965, 966, 156] rfl ch_X12_in) (by decide +kernel)
theorem ggX12_canBe_X12_in : GoodIn wsX12_canBe wsX12_in := gi_ch ch_X12_canBe ch_X12_in (by decide +kernel)
theorem gX12_canBe_X12_in : GoodIn wsX12_canBe (va_wsS RX12 178 yX12_in wsX12_in) := gi_ch ch_X12_canBe (ch_s [965, 966, 156] rfl ch_X12_in) (by decide +kernel)
set_option maxRecDepth 100000 in
noncomputable def E_v_in (v : Int64) (lo : Int64) (hi : Int64) : Int32 :=
  if (lg_cmp v lo) < 0 then ((0 : Int32)) else (if 0 < (lg_cmp v hi) then ((0 : Int32)) else ((1 : Int32)))
set_option maxHeartbeats 4000000 in
set_option maxRecDepth 100000 in
theorem v_in (l : Launch) (D : va_G) (K : Nat → ClassId) (V : Int) (LO : Int) (HI : Int) (v : Int64) (lo : Int64) (hi : Int64) (sz : Nat) (qv : v.toInt = V) (qlo : lo.toInt = LO) (qhi : hi.toInt = HI) : Met l yX12_in wsX12_in ({ frames := 0, cells := 0, slots := 0, locals := 0 }) (va_Pc [.long v, .long lo, .long hi] (Pre D K [] sz)) (vp_Si (fun r : Int32 => ((r = 1 ∧ LO ≤ V ∧ V ≤ HI) ∨ (r = 0 ∧ (V < LO ∨ HI < V))) ∧ (r = E_v_in v lo hi) ∧ True)) 0 0 (fun _ => False) := by
  refine Met.ofW (cc := cX12_in) (maxL := 6) (ret := (some .boolean)) (by decide +kernel) rfl ?_
  intro p e s m args below meth c s₁ B hml hv
  obtain ⟨rfl, hsz, hP, hK, hD0, hN⟩ := hv
  have hx := B.exec
  have hb := B.bytes
  have hr := B.returns
  have hts := atoms_spec (ws := wsX12_in) B.pre
  have hown : s.vm.findClass RX12 = some m.cls := findClass_of_methodNamed B.named
  have hlocks := B.notSynchronized
  subst hsz
  have hD := hD0
  replace hP : va_P D vwCl [] s.heap := hP
  have hl := lv_entry [.long v, .long lo, .long hi] (n := 6) (Nat.le_of_ble_eq_true rfl)
  rw [lg_entry_eq]
  generalize (lg_sl [.long v, .long lo, .long hi] ++ List.replicate (6 - (lg_sl [.long v, .long lo, .long hi]).length) Slot.unset).toArray = ls at hl ⊢
  have hl : lv_has ls 6 [(0, .long v), (2, .long lo), (4, .long hi)] := hl
  generalize hQ : MQ below _ _ s _ _ _ = Q
  have hE := E_v_in.eq_def v lo hi
  refine lv_lload_n hx hb dX12_in_0 rfl (lv_at hl 0 rfl) ?_
  refine lv_lload_n hx hb dX12_in_1 rfl (lv_at hl 1 rfl) ?_
  refine W.lcmp hx hb dX12_in_2 ?_
  refine lv_if_lt (tgt := 17) hx hb dX12_in_3 (by decide +kernel) (fun c_65 => ?_) (fun c_65 => ?_)
  · have c_65i := l_lt (x := V) (y := LO) qv qlo ((lg_cmp_lt v lo).mp c_65)
    replace hE := hE.trans (if_pos c_65)
    refine lv_iconst (v := 0) hx hb dX12_in_17 (by decide +kernel) ?_
    rw [← hQ]
    exact W.zret (v := 0) hx hb hr (by decide +kernel) (fun t ht hW => ⟨_, rfl, ⟨(by first | exact Or.inr (⟨rfl, by first | omega | decide | (subst_vars; assumption)⟩)), hE.symm, trivial⟩, ht⟩) (fun q hq => by cases hq) dX12_in_18
  · have c_65i := l_nlt (x := V) (y := LO) qv qlo (fun q => c_65 ((lg_cmp_lt v lo).mpr q))
    replace hE := hE.trans (if_neg c_65)
    refine lv_lload_n hx hb dX12_in_6 rfl (lv_at hl 0 rfl) ?_
    refine lv_lload hx hb dX12_in_7 (lv_at hl 2 rfl) ?_
    refine W.lcmp hx hb dX12_in_9 ?_
    refine lv_if_gt (tgt := 17) hx hb dX12_in_10 (by decide +kernel) (fun c_66 => ?_) (fun c_66 => ?_)
    · have c_66i := l_lt (x := HI) (y := V) qhi qv ((lg_cmp_gt v hi).mp c_66)
      replace hE := hE.trans (if_pos c_66)
      refine lv_iconst (v := 0) hx hb dX12_in_17 (by decide +kernel) ?_
      rw [← hQ]
      exact W.zret (v := 0) hx hb hr (by decide +kernel) (fun t ht hW => ⟨_, rfl, ⟨(by first | exact Or.inr (⟨rfl, by first | omega | decide | (subst_vars; assumption)⟩)), hE.symm, trivial⟩, ht⟩) (fun q hq => by cases hq) dX12_in_18
    · have c_66i := l_nlt (x := HI) (y := V) qhi qv (fun q => c_66 ((lg_cmp_gt v hi).mpr q))
      replace hE := hE.trans (if_neg c_66)
      refine lv_iconst (v := 1) hx hb dX12_in_13 (by decide +kernel) ?_
      refine lv_goto (tgt := 18) hx hb dX12_in_14 (by decide +kernel) ?_
      rw [← hQ]
      exact W.zret (v := 1) hx hb hr (by decide +kernel) (fun t ht hW => ⟨_, rfl, ⟨(by first | exact Or.inl ⟨rfl, by first | omega | decide | (subst_vars; assumption), by first | omega | decide | (subst_vars; assumption)⟩), hE.symm, trivial⟩, ht⟩) (fun q hq => by cases hq) dX12_in_18
set_option maxRecDepth 100000 in
noncomputable def E_v_is (x : Int32) (y : Int32) : Int32 :=
  Lt (x >>> (y &&& 31) : Int32) (fun x_67 => Lt (x_67 &&& 1 : Int32) (fun x_68 => if x_68 = 1 then ((1 : Int32)) else ((0 : Int32))))
set_option maxHeartbeats 4000000 in
set_option maxRecDepth 100000 in
theorem v_is (l : Launch) (D : va_G) (K : Nat → ClassId) (x : Int32) (y : Int32) (sz : Nat) : Met l yX12_is wsX12_is ({ frames := 0, cells := 0, slots := 0, locals := 0 }) (va_Pc [.int x, .int y] (Pre D K [] sz)) (vp_Si (fun r : Int32 => (0 ≤ r.toInt ∧ r.toInt ≤ 1) ∧ (r = E_v_is x y) ∧ True)) 0 0 (fun _ => False) := by
  refine Met.ofW (cc := cX12_is) (maxL := 2) (ret := (some .boolean)) (by decide +kernel) rfl ?_
  intro p e s m args below meth c s₁ B hml hv
  obtain ⟨rfl, hsz, hP, hK, hD0, hN⟩ := hv
  have hx := B.exec
  have hb := B.bytes
  have hr := B.returns
  have hts := atoms_spec (ws := wsX12_is) B.pre
  have hown : s.vm.findClass RX12 = some m.cls := findClass_of_methodNamed B.named
  have hlocks := B.notSynchronized
  subst hsz
  have hD := hD0
  replace hP : va_P D vwCl [] s.heap := hP
  have hl := lv_entry [.int x, .int y] (n := 2) (Nat.le_of_ble_eq_true rfl)
  rw [lg_entry_eq]
  generalize (lg_sl [.int x, .int y] ++ List.replicate (2 - (lg_sl [.int x, .int y]).length) Slot.unset).toArray = ls at hl ⊢
  have hl : lv_has ls 2 [(0, .int x), (1, .int y)] := hl
  generalize hQ : MQ below _ _ s _ _ _ = Q
  have hE := E_v_is.eq_def x y
  refine lv_iload_n hx hb dX12_is_0 rfl (lv_at hl 0 rfl) ?_
  refine lv_iload_n hx hb dX12_is_1 rfl (lv_at hl 1 rfl) ?_
  refine lv_ishr hx hb dX12_is_2 ?_
  refine lv_topi (fun x_67 ex_67 => ?_)
  replace hE := hE.trans (Lt_in ex_67)
  refine lv_iconst (v := 1) hx hb dX12_is_3 (by decide +kernel) ?_
  refine lv_iand hx hb dX12_is_4 ?_
  refine lv_topi (fun x_68 ex_68 => ?_)
  replace hE := hE.trans (Lt_in ex_68)
  have hx_68 : 0 ≤ x_68.toInt ∧ x_68.toInt ≤ 1 := by rw [ex_68]; exact i_mask x_67 1 rfl (by decide +kernel)
  refine lv_iconst (v := 1) hx hb dX12_is_5 (by decide +kernel) ?_
  refine lv_icmp_ne (tgt := 13) hx hb dX12_is_6 (by decide +kernel) (fun c_69 => ?_) (fun c_69 => ?_)
  · have c_69i := i_ne (x := x_68.toInt) (y := 1) rfl rfl c_69
    replace hE := hE.trans (if_neg c_69)
    refine lv_iconst (v := 0) hx hb dX12_is_13 (by decide +kernel) ?_
    rw [← hQ]
    exact W.zret (v := 0) hx hb hr (by decide +kernel) (fun t ht hW => ⟨_, rfl, ⟨(show 0 ≤ (0 : Int32).toInt ∧ (0 : Int32).toInt ≤ 1 by decide), hE.symm, trivial⟩, ht⟩) (fun q hq => by cases hq) dX12_is_14
  · have c_69i := i_eq (x := x_68.toInt) (y := 1) rfl rfl c_69
    replace hE := hE.trans (if_pos c_69)
    refine lv_iconst (v := 1) hx hb dX12_is_9 (by decide +kernel) ?_
    refine lv_goto (tgt := 14) hx hb dX12_is_10 (by decide +kernel) ?_
    rw [← hQ]
    exact W.zret (v := 1) hx hb hr (by decide +kernel) (fun t ht hW => ⟨_, rfl, ⟨(show 0 ≤ (1 : Int32).toInt ∧ (1 : Int32).toInt ≤ 1 by decide), hE.symm, trivial⟩, ht⟩) (fun q hq => by cases hq) dX12_is_14
set_option maxRecDepth 100000 in
noncomputable def E_v_within_20 (x : Int64) : Int32 :=
  if 0 ≤ (lg_cmp x 0) then (if (lg_cmp x 20) ≤ 0 then (Lt ((x : Int64).toInt32 : Int32) (fun x_69 => (x_69 : Int32))) else ((20 : Int32))) else ((0 : Int32))
set_option maxHeartbeats 4000000 in
set_option maxRecDepth 100000 in
theorem v_within_20 (l : Launch) (D : va_G) (K : Nat → ClassId) (x : Int64) (sz : Nat) : Met l yX12_within wsX12_within ({ frames := 0, cells := 0, slots := 0, locals := 0 }) (va_Pc [.long x, .int 0, .int 20] (Pre D K [] sz)) (vp_Si (fun r : Int32 => (0 ≤ r.toInt ∧ r.toInt ≤ 20) ∧ (r = E_v_within_20 x) ∧ True)) 0 0 (fun _ => False) := by
  refine Met.ofW (cc := cX12_within) (maxL := 4) (ret := (some .int)) (by decide +kernel) rfl ?_
  intro p e s m args below meth c s₁ B hml hv
  obtain ⟨rfl, hsz, hP, hK, hD0, hN⟩ := hv
  have hx := B.exec
  have hb := B.bytes
  have hr := B.returns
  have hts := atoms_spec (ws := wsX12_within) B.pre
  have hown : s.vm.findClass RX12 = some m.cls := findClass_of_methodNamed B.named
  have hlocks := B.notSynchronized
  subst hsz
  have hD := hD0
  replace hP : va_P D vwCl [] s.heap := hP
  have hl := lv_entry [.long x, .int 0, .int 20] (n := 4) (Nat.le_of_ble_eq_true rfl)
  rw [lg_entry_eq]
  generalize (lg_sl [.long x, .int 0, .int 20] ++ List.replicate (4 - (lg_sl [.long x, .int 0, .int 20]).length) Slot.unset).toArray = ls at hl ⊢
  have hl : lv_has ls 4 [(0, .long x), (2, .int 0), (3, .int 20)] := hl
  generalize hQ : MQ below _ _ s _ _ _ = Q
  have hE := E_v_within_20.eq_def x
  refine lv_lload_n hx hb dX12_within_0 rfl (lv_at hl 0 rfl) ?_
  refine lv_iload_n hx hb dX12_within_1 rfl (lv_at hl 1 rfl) ?_
  refine lv_i2l (v := 0) hx hb dX12_within_2 (by decide +kernel) ?_
  refine W.lcmp hx hb dX12_within_3 ?_
  refine lv_if_ge (tgt := 11) hx hb dX12_within_4 (by decide +kernel) (fun c_67 => ?_) (fun c_67 => ?_)
  · have c_67i := l_le (x := 0) (y := x.toInt) rfl rfl ((lg_cmp_ge x 0).mp c_67)
    replace hE := hE.trans (if_pos c_67)
    refine lv_lload_n hx hb dX12_within_11 rfl (lv_at hl 0 rfl) ?_
    refine lv_iload_n hx hb dX12_within_12 rfl (lv_at hl 2 rfl) ?_
    refine lv_i2l (v := 20) hx hb dX12_within_13 (by decide +kernel) ?_
    refine W.lcmp hx hb dX12_within_14 ?_
    refine lv_if_le (tgt := 22) hx hb dX12_within_15 (by decide +kernel) (fun c_68 => ?_) (fun c_68 => ?_)
    · have c_68i := l_le (x := x.toInt) (y := 20) rfl rfl ((lg_cmp_le x 20).mp c_68)
      replace hE := hE.trans (if_pos c_68)
      refine lv_lload_n hx hb dX12_within_22 rfl (lv_at hl 0 rfl) ?_
      refine lv_l2i hx hb dX12_within_23 rfl ?_
      refine lv_topi (fun x_69 ex_69 => ?_)
      replace hE := hE.trans (Lt_in ex_69)
      have hx_69 : x_69.toInt = x.toInt := by rw [ex_69]; exact l_nar rfl (by omega)
      rw [← hQ]
      exact W.iret (v := x_69) hx hb hr (fun t ht hW => ⟨_, rfl, ⟨(show 0 ≤ x_69.toInt ∧ x_69.toInt ≤ 20 by rw [hx_69]; omega), hE.symm, trivial⟩, ht⟩) (fun q hq => by cases hq) dX12_within_24
    · have c_68i := l_nle (x := x.toInt) (y := 20) rfl rfl (fun q => c_68 ((lg_cmp_le x 20).mpr q))
      replace hE := hE.trans (if_neg c_68)
      refine lv_iload_n hx hb dX12_within_18 rfl (lv_at hl 2 rfl) ?_
      refine lv_goto (tgt := 24) hx hb dX12_within_19 (by decide +kernel) ?_
      rw [← hQ]
      exact W.iret (v := 20) hx hb hr (fun t ht hW => ⟨_, rfl, ⟨(show 0 ≤ (20 : Int32).toInt ∧ (20 : Int32).toInt ≤ 20 by decide), hE.symm, trivial⟩, ht⟩) (fun q hq => by cases hq) dX12_within_24
  · have c_67i := l_nle (x := 0) (y := x.toInt) rfl rfl (fun q => c_67 ((lg_cmp_ge x 0).mpr q))
    replace hE := hE.trans (if_neg c_67)
    refine lv_iload_n hx hb dX12_within_7 rfl (lv_at hl 1 rfl) ?_
    refine lv_goto (tgt := 24) hx hb dX12_within_8 (by decide +kernel) ?_
    rw [← hQ]
    exact W.iret (v := 0) hx hb hr (fun t ht hW => ⟨_, rfl, ⟨(show 0 ≤ (0 : Int32).toInt ∧ (0 : Int32).toInt ≤ 20 by decide), hE.symm, trivial⟩, ht⟩) (fun q hq => by cases hq) dX12_within_24
set_option maxRecDepth 100000 in
noncomputable def E_v_within_999 (x : Int64) : Int32 :=
  if 0 ≤ (lg_cmp x 0) then (if (lg_cmp x 999) ≤ 0 then (Lt ((x : Int64).toInt32 : Int32) (fun x_69 => (x_69 : Int32))) else ((999 : Int32))) else ((0 : Int32))
set_option maxHeartbeats 4000000 in
set_option maxRecDepth 100000 in
theorem v_within_999 (l : Launch) (D : va_G) (K : Nat → ClassId) (x : Int64) (sz : Nat) : Met l yX12_within wsX12_within ({ frames := 0, cells := 0, slots := 0, locals := 0 }) (va_Pc [.long x, .int 0, .int 999] (Pre D K [] sz)) (vp_Si (fun r : Int32 => (0 ≤ r.toInt ∧ r.toInt ≤ 999) ∧ (r = E_v_within_999 x) ∧ True)) 0 0 (fun _ => False) := by
  refine Met.ofW (cc := cX12_within) (maxL := 4) (ret := (some .int)) (by decide +kernel) rfl ?_
  intro p e s m args below meth c s₁ B hml hv
  obtain ⟨rfl, hsz, hP, hK, hD0, hN⟩ := hv
  have hx := B.exec
  have hb := B.bytes
  have hr := B.returns
  have hts := atoms_spec (ws := wsX12_within) B.pre
  have hown : s.vm.findClass RX12 = some m.cls := findClass_of_methodNamed B.named
  have hlocks := B.notSynchronized
  subst hsz
  have hD := hD0
  replace hP : va_P D vwCl [] s.heap := hP
  have hl := lv_entry [.long x, .int 0, .int 999] (n := 4) (Nat.le_of_ble_eq_true rfl)
  rw [lg_entry_eq]
  generalize (lg_sl [.long x, .int 0, .int 999] ++ List.replicate (4 - (lg_sl [.long x, .int 0, .int 999]).length) Slot.unset).toArray = ls at hl ⊢
  have hl : lv_has ls 4 [(0, .long x), (2, .int 0), (3, .int 999)] := hl
  generalize hQ : MQ below _ _ s _ _ _ = Q
  have hE := E_v_within_999.eq_def x
  refine lv_lload_n hx hb dX12_within_0 rfl (lv_at hl 0 rfl) ?_
  refine lv_iload_n hx hb dX12_within_1 rfl (lv_at hl 1 rfl) ?_
  refine lv_i2l (v := 0) hx hb dX12_within_2 (by decide +kernel) ?_
  refine W.lcmp hx hb dX12_within_3 ?_
  refine lv_if_ge (tgt := 11) hx hb dX12_within_4 (by decide +kernel) (fun c_67 => ?_) (fun c_67 => ?_)
  · have c_67i := l_le (x := 0) (y := x.toInt) rfl rfl ((lg_cmp_ge x 0).mp c_67)
    replace hE := hE.trans (if_pos c_67)
    refine lv_lload_n hx hb dX12_within_11 rfl (lv_at hl 0 rfl) ?_
    refine lv_iload_n hx hb dX12_within_12 rfl (lv_at hl 2 rfl) ?_
    refine lv_i2l (v := 999) hx hb dX12_within_13 (by decide +kernel) ?_
    refine W.lcmp hx hb dX12_within_14 ?_
    refine lv_if_le (tgt := 22) hx hb dX12_within_15 (by decide +kernel) (fun c_68 => ?_) (fun c_68 => ?_)
    · have c_68i := l_le (x := x.toInt) (y := 999) rfl rfl ((lg_cmp_le x 999).mp c_68)
      replace hE := hE.trans (if_pos c_68)
      refine lv_lload_n hx hb dX12_within_22 rfl (lv_at hl 0 rfl) ?_
      refine lv_l2i hx hb dX12_within_23 rfl ?_
      refine lv_topi (fun x_69 ex_69 => ?_)
      replace hE := hE.trans (Lt_in ex_69)
      have hx_69 : x_69.toInt = x.toInt := by rw [ex_69]; exact l_nar rfl (by omega)
      rw [← hQ]
      exact W.iret (v := x_69) hx hb hr (fun t ht hW => ⟨_, rfl, ⟨(show 0 ≤ x_69.toInt ∧ x_69.toInt ≤ 999 by rw [hx_69]; omega), hE.symm, trivial⟩, ht⟩) (fun q hq => by cases hq) dX12_within_24
    · have c_68i := l_nle (x := x.toInt) (y := 999) rfl rfl (fun q => c_68 ((lg_cmp_le x 999).mpr q))
      replace hE := hE.trans (if_neg c_68)
      refine lv_iload_n hx hb dX12_within_18 rfl (lv_at hl 2 rfl) ?_
      refine lv_goto (tgt := 24) hx hb dX12_within_19 (by decide +kernel) ?_
      rw [← hQ]
      exact W.iret (v := 999) hx hb hr (fun t ht hW => ⟨_, rfl, ⟨(show 0 ≤ (999 : Int32).toInt ∧ (999 : Int32).toInt ≤ 999 by decide), hE.symm, trivial⟩, ht⟩) (fun q hq => by cases hq) dX12_within_24
  · have c_67i := l_nle (x := 0) (y := x.toInt) rfl rfl (fun q => c_67 ((lg_cmp_ge x 0).mpr q))
    replace hE := hE.trans (if_neg c_67)
    refine lv_iload_n hx hb dX12_within_7 rfl (lv_at hl 1 rfl) ?_
    refine lv_goto (tgt := 24) hx hb dX12_within_8 (by decide +kernel) ?_
    rw [← hQ]
    exact W.iret (v := 0) hx hb hr (fun t ht hW => ⟨_, rfl, ⟨(show 0 ≤ (0 : Int32).toInt ∧ (0 : Int32).toInt ≤ 999 by decide), hE.symm, trivial⟩, ht⟩) (fun q hq => by cases hq) dX12_within_24
set_option maxRecDepth 100000 in
noncomputable def E_v_within_99999 (x : Int64) : Int32 :=
  if 0 ≤ (lg_cmp x 0) then (if (lg_cmp x 99999) ≤ 0 then (Lt ((x : Int64).toInt32 : Int32) (fun x_69 => (x_69 : Int32))) else ((99999 : Int32))) else ((0 : Int32))
set_option maxHeartbeats 4000000 in
set_option maxRecDepth 100000 in
theorem v_within_99999 (l : Launch) (D : va_G) (K : Nat → ClassId) (x : Int64) (sz : Nat) : Met l yX12_within wsX12_within ({ frames := 0, cells := 0, slots := 0, locals := 0 }) (va_Pc [.long x, .int 0, .int 99999] (Pre D K [] sz)) (vp_Si (fun r : Int32 => (0 ≤ r.toInt ∧ r.toInt ≤ 99999) ∧ (r = E_v_within_99999 x) ∧ True)) 0 0 (fun _ => False) := by
  refine Met.ofW (cc := cX12_within) (maxL := 4) (ret := (some .int)) (by decide +kernel) rfl ?_
  intro p e s m args below meth c s₁ B hml hv
  obtain ⟨rfl, hsz, hP, hK, hD0, hN⟩ := hv
  have hx := B.exec
  have hb := B.bytes
  have hr := B.returns
  have hts := atoms_spec (ws := wsX12_within) B.pre
  have hown : s.vm.findClass RX12 = some m.cls := findClass_of_methodNamed B.named
  have hlocks := B.notSynchronized
  subst hsz
  have hD := hD0
  replace hP : va_P D vwCl [] s.heap := hP
  have hl := lv_entry [.long x, .int 0, .int 99999] (n := 4) (Nat.le_of_ble_eq_true rfl)
  rw [lg_entry_eq]
  generalize (lg_sl [.long x, .int 0, .int 99999] ++ List.replicate (4 - (lg_sl [.long x, .int 0, .int 99999]).length) Slot.unset).toArray = ls at hl ⊢
  have hl : lv_has ls 4 [(0, .long x), (2, .int 0), (3, .int 99999)] := hl
  generalize hQ : MQ below _ _ s _ _ _ = Q
  have hE := E_v_within_99999.eq_def x
  refine lv_lload_n hx hb dX12_within_0 rfl (lv_at hl 0 rfl) ?_
  refine lv_iload_n hx hb dX12_within_1 rfl (lv_at hl 1 rfl) ?_
  refine lv_i2l (v := 0) hx hb dX12_within_2 (by decide +kernel) ?_
  refine W.lcmp hx hb dX12_within_3 ?_
  refine lv_if_ge (tgt := 11) hx hb dX12_within_4 (by decide +kernel) (fun c_67 => ?_) (fun c_67 => ?_)
  · have c_67i := l_le (x := 0) (y := x.toInt) rfl rfl ((lg_cmp_ge x 0).mp c_67)
    replace hE := hE.trans (if_pos c_67)
    refine lv_lload_n hx hb dX12_within_11 rfl (lv_at hl 0 rfl) ?_
    refine lv_iload_n hx hb dX12_within_12 rfl (lv_at hl 2 rfl) ?_
    refine lv_i2l (v := 99999) hx hb dX12_within_13 (by decide +kernel) ?_
    refine W.lcmp hx hb dX12_within_14 ?_
    refine lv_if_le (tgt := 22) hx hb dX12_within_15 (by decide +kernel) (fun c_68 => ?_) (fun c_68 => ?_)
    · have c_68i := l_le (x := x.toInt) (y := 99999) rfl rfl ((lg_cmp_le x 99999).mp c_68)
      replace hE := hE.trans (if_pos c_68)
      refine lv_lload_n hx hb dX12_within_22 rfl (lv_at hl 0 rfl) ?_
      refine lv_l2i hx hb dX12_within_23 rfl ?_
      refine lv_topi (fun x_69 ex_69 => ?_)
      replace hE := hE.trans (Lt_in ex_69)
      have hx_69 : x_69.toInt = x.toInt := by rw [ex_69]; exact l_nar rfl (by omega)
      rw [← hQ]
      exact W.iret (v := x_69) hx hb hr (fun t ht hW => ⟨_, rfl, ⟨(show 0 ≤ x_69.toInt ∧ x_69.toInt ≤ 99999 by rw [hx_69]; omega), hE.symm, trivial⟩, ht⟩) (fun q hq => by cases hq) dX12_within_24
    · have c_68i := l_nle (x := x.toInt) (y := 99999) rfl rfl (fun q => c_68 ((lg_cmp_le x 99999).mpr q))
      replace hE := hE.trans (if_neg c_68)
      refine lv_iload_n hx hb dX12_within_18 rfl (lv_at hl 2 rfl) ?_
      refine lv_goto (tgt := 24) hx hb dX12_within_19 (by decide +kernel) ?_
      rw [← hQ]
      exact W.iret (v := 99999) hx hb hr (fun t ht hW => ⟨_, rfl, ⟨(show 0 ≤ (99999 : Int32).toInt ∧ (99999 : Int32).toInt ≤ 99999 by decide), hE.symm, trivial⟩, ht⟩) (fun q hq => by cases hq) dX12_within_24
  · have c_67i := l_nle (x := 0) (y := x.toInt) rfl rfl (fun q => c_67 ((lg_cmp_ge x 0).mpr q))
    replace hE := hE.trans (if_neg c_67)
    refine lv_iload_n hx hb dX12_within_7 rfl (lv_at hl 1 rfl) ?_
    refine lv_goto (tgt := 24) hx hb dX12_within_8 (by decide +kernel) ?_
    rw [← hQ]
    exact W.iret (v := 0) hx hb hr (fun t ht hW => ⟨_, rfl, ⟨(show 0 ≤ (0 : Int32).toInt ∧ (0 : Int32).toInt ≤ 99999 by decide), hE.symm, trivial⟩, ht⟩) (fun q hq => by cases hq) dX12_within_24
set_option maxRecDepth 100000 in
noncomputable def E_v_within_9999 (x : Int64) : Int32 :=
  if 0 ≤ (lg_cmp x 0) then (if (lg_cmp x 9999) ≤ 0 then (Lt ((x : Int64).toInt32 : Int32) (fun x_69 => (x_69 : Int32))) else ((9999 : Int32))) else ((0 : Int32))
set_option maxHeartbeats 4000000 in
set_option maxRecDepth 100000 in
theorem v_within_9999 (l : Launch) (D : va_G) (K : Nat → ClassId) (x : Int64) (sz : Nat) : Met l yX12_within wsX12_within ({ frames := 0, cells := 0, slots := 0, locals := 0 }) (va_Pc [.long x, .int 0, .int 9999] (Pre D K [] sz)) (vp_Si (fun r : Int32 => (0 ≤ r.toInt ∧ r.toInt ≤ 9999) ∧ (r = E_v_within_9999 x) ∧ True)) 0 0 (fun _ => False) := by
  refine Met.ofW (cc := cX12_within) (maxL := 4) (ret := (some .int)) (by decide +kernel) rfl ?_
  intro p e s m args below meth c s₁ B hml hv
  obtain ⟨rfl, hsz, hP, hK, hD0, hN⟩ := hv
  have hx := B.exec
  have hb := B.bytes
  have hr := B.returns
  have hts := atoms_spec (ws := wsX12_within) B.pre
  have hown : s.vm.findClass RX12 = some m.cls := findClass_of_methodNamed B.named
  have hlocks := B.notSynchronized
  subst hsz
  have hD := hD0
  replace hP : va_P D vwCl [] s.heap := hP
  have hl := lv_entry [.long x, .int 0, .int 9999] (n := 4) (Nat.le_of_ble_eq_true rfl)
  rw [lg_entry_eq]
  generalize (lg_sl [.long x, .int 0, .int 9999] ++ List.replicate (4 - (lg_sl [.long x, .int 0, .int 9999]).length) Slot.unset).toArray = ls at hl ⊢
  have hl : lv_has ls 4 [(0, .long x), (2, .int 0), (3, .int 9999)] := hl
  generalize hQ : MQ below _ _ s _ _ _ = Q
  have hE := E_v_within_9999.eq_def x
  refine lv_lload_n hx hb dX12_within_0 rfl (lv_at hl 0 rfl) ?_
  refine lv_iload_n hx hb dX12_within_1 rfl (lv_at hl 1 rfl) ?_
  refine lv_i2l (v := 0) hx hb dX12_within_2 (by decide +kernel) ?_
  refine W.lcmp hx hb dX12_within_3 ?_
  refine lv_if_ge (tgt := 11) hx hb dX12_within_4 (by decide +kernel) (fun c_67 => ?_) (fun c_67 => ?_)
  · have c_67i := l_le (x := 0) (y := x.toInt) rfl rfl ((lg_cmp_ge x 0).mp c_67)
    replace hE := hE.trans (if_pos c_67)
    refine lv_lload_n hx hb dX12_within_11 rfl (lv_at hl 0 rfl) ?_
    refine lv_iload_n hx hb dX12_within_12 rfl (lv_at hl 2 rfl) ?_
    refine lv_i2l (v := 9999) hx hb dX12_within_13 (by decide +kernel) ?_
    refine W.lcmp hx hb dX12_within_14 ?_
    refine lv_if_le (tgt := 22) hx hb dX12_within_15 (by decide +kernel) (fun c_68 => ?_) (fun c_68 => ?_)
    · have c_68i := l_le (x := x.toInt) (y := 9999) rfl rfl ((lg_cmp_le x 9999).mp c_68)
      replace hE := hE.trans (if_pos c_68)
      refine lv_lload_n hx hb dX12_within_22 rfl (lv_at hl 0 rfl) ?_
      refine lv_l2i hx hb dX12_within_23 rfl ?_
      refine lv_topi (fun x_69 ex_69 => ?_)
      replace hE := hE.trans (Lt_in ex_69)
      have hx_69 : x_69.toInt = x.toInt := by rw [ex_69]; exact l_nar rfl (by omega)
      rw [← hQ]
      exact W.iret (v := x_69) hx hb hr (fun t ht hW => ⟨_, rfl, ⟨(show 0 ≤ x_69.toInt ∧ x_69.toInt ≤ 9999 by rw [hx_69]; omega), hE.symm, trivial⟩, ht⟩) (fun q hq => by cases hq) dX12_within_24
    · have c_68i := l_nle (x := x.toInt) (y := 9999) rfl rfl (fun q => c_68 ((lg_cmp_le x 9999).mpr q))
      replace hE := hE.trans (if_neg c_68)
      refine lv_iload_n hx hb dX12_within_18 rfl (lv_at hl 2 rfl) ?_
      refine lv_goto (tgt := 24) hx hb dX12_within_19 (by decide +kernel) ?_
      rw [← hQ]
      exact W.iret (v := 9999) hx hb hr (fun t ht hW => ⟨_, rfl, ⟨(show 0 ≤ (9999 : Int32).toInt ∧ (9999 : Int32).toInt ≤ 9999 by decide), hE.symm, trivial⟩, ht⟩) (fun q hq => by cases hq) dX12_within_24
  · have c_67i := l_nle (x := 0) (y := x.toInt) rfl rfl (fun q => c_67 ((lg_cmp_ge x 0).mpr q))
    replace hE := hE.trans (if_neg c_67)
    refine lv_iload_n hx hb dX12_within_7 rfl (lv_at hl 1 rfl) ?_
    refine lv_goto (tgt := 24) hx hb dX12_within_8 (by decide +kernel) ?_
    rw [← hQ]
    exact W.iret (v := 0) hx hb hr (fun t ht hW => ⟨_, rfl, ⟨(show 0 ≤ (0 : Int32).toInt ∧ (0 : Int32).toInt ≤ 9999 by decide), hE.symm, trivial⟩, ht⟩) (fun q hq => by cases hq) dX12_within_24
set_option maxRecDepth 100000 in
noncomputable def E_v_within_100000000 (x : Int64) : Int32 :=
  if 0 ≤ (lg_cmp x 0) then (if (lg_cmp x 100000000) ≤ 0 then (Lt ((x : Int64).toInt32 : Int32) (fun x_69 => (x_69 : Int32))) else ((100000000 : Int32))) else ((0 : Int32))
set_option maxHeartbeats 4000000 in
set_option maxRecDepth 100000 in
theorem v_within_100000000 (l : Launch) (D : va_G) (K : Nat → ClassId) (x : Int64) (sz : Nat) : Met l yX12_within wsX12_within ({ frames := 0, cells := 0, slots := 0, locals := 0 }) (va_Pc [.long x, .int 0, .int 100000000] (Pre D K [] sz)) (vp_Si (fun r : Int32 => (0 ≤ r.toInt ∧ r.toInt ≤ 100000000) ∧ (r = E_v_within_100000000 x) ∧ True)) 0 0 (fun _ => False) := by
  refine Met.ofW (cc := cX12_within) (maxL := 4) (ret := (some .int)) (by decide +kernel) rfl ?_
  intro p e s m args below meth c s₁ B hml hv
  obtain ⟨rfl, hsz, hP, hK, hD0, hN⟩ := hv
  have hx := B.exec
  have hb := B.bytes
  have hr := B.returns
  have hts := atoms_spec (ws := wsX12_within) B.pre
  have hown : s.vm.findClass RX12 = some m.cls := findClass_of_methodNamed B.named
  have hlocks := B.notSynchronized
  subst hsz
  have hD := hD0
  replace hP : va_P D vwCl [] s.heap := hP
  have hl := lv_entry [.long x, .int 0, .int 100000000] (n := 4) (Nat.le_of_ble_eq_true rfl)
  rw [lg_entry_eq]
  generalize (lg_sl [.long x, .int 0, .int 100000000] ++ List.replicate (4 - (lg_sl [.long x, .int 0, .int 100000000]).length) Slot.unset).toArray = ls at hl ⊢
  have hl : lv_has ls 4 [(0, .long x), (2, .int 0), (3, .int 100000000)] := hl
  generalize hQ : MQ below _ _ s _ _ _ = Q
  have hE := E_v_within_100000000.eq_def x
  refine lv_lload_n hx hb dX12_within_0 rfl (lv_at hl 0 rfl) ?_
  refine lv_iload_n hx hb dX12_within_1 rfl (lv_at hl 1 rfl) ?_
  refine lv_i2l (v := 0) hx hb dX12_within_2 (by decide +kernel) ?_
  refine W.lcmp hx hb dX12_within_3 ?_
  refine lv_if_ge (tgt := 11) hx hb dX12_within_4 (by decide +kernel) (fun c_67 => ?_) (fun c_67 => ?_)
  · have c_67i := l_le (x := 0) (y := x.toInt) rfl rfl ((lg_cmp_ge x 0).mp c_67)
    replace hE := hE.trans (if_pos c_67)
    refine lv_lload_n hx hb dX12_within_11 rfl (lv_at hl 0 rfl) ?_
    refine lv_iload_n hx hb dX12_within_12 rfl (lv_at hl 2 rfl) ?_
    refine lv_i2l (v := 100000000) hx hb dX12_within_13 (by decide +kernel) ?_
    refine W.lcmp hx hb dX12_within_14 ?_
    refine lv_if_le (tgt := 22) hx hb dX12_within_15 (by decide +kernel) (fun c_68 => ?_) (fun c_68 => ?_)
    · have c_68i := l_le (x := x.toInt) (y := 100000000) rfl rfl ((lg_cmp_le x 100000000).mp c_68)
      replace hE := hE.trans (if_pos c_68)
      refine lv_lload_n hx hb dX12_within_22 rfl (lv_at hl 0 rfl) ?_
      refine lv_l2i hx hb dX12_within_23 rfl ?_
      refine lv_topi (fun x_69 ex_69 => ?_)
      replace hE := hE.trans (Lt_in ex_69)
      have hx_69 : x_69.toInt = x.toInt := by rw [ex_69]; exact l_nar rfl (by omega)
      rw [← hQ]
      exact W.iret (v := x_69) hx hb hr (fun t ht hW => ⟨_, rfl, ⟨(show 0 ≤ x_69.toInt ∧ x_69.toInt ≤ 100000000 by rw [hx_69]; omega), hE.symm, trivial⟩, ht⟩) (fun q hq => by cases hq) dX12_within_24
    · have c_68i := l_nle (x := x.toInt) (y := 100000000) rfl rfl (fun q => c_68 ((lg_cmp_le x 100000000).mpr q))
      replace hE := hE.trans (if_neg c_68)
      refine lv_iload_n hx hb dX12_within_18 rfl (lv_at hl 2 rfl) ?_
      refine lv_goto (tgt := 24) hx hb dX12_within_19 (by decide +kernel) ?_
      rw [← hQ]
      exact W.iret (v := 100000000) hx hb hr (fun t ht hW => ⟨_, rfl, ⟨(show 0 ≤ (100000000 : Int32).toInt ∧ (100000000 : Int32).toInt ≤ 100000000 by decide), hE.symm, trivial⟩, ht⟩) (fun q hq => by cases hq) dX12_within_24
  · have c_67i := l_nle (x := 0) (y := x.toInt) rfl rfl (fun q => c_67 ((lg_cmp_ge x 0).mpr q))
    replace hE := hE.trans (if_neg c_67)
    refine lv_iload_n hx hb dX12_within_7 rfl (lv_at hl 1 rfl) ?_
    refine lv_goto (tgt := 24) hx hb dX12_within_8 (by decide +kernel) ?_
    rw [← hQ]
    exact W.iret (v := 0) hx hb hr (fun t ht hW => ⟨_, rfl, ⟨(show 0 ≤ (0 : Int32).toInt ∧ (0 : Int32).toInt ≤ 100000000 by decide), hE.symm, trivial⟩, ht⟩) (fun q hq => by cases hq) dX12_within_24
set_option maxRecDepth 100000 in
noncomputable def E_v_tell_j28 (x : Int32) (v_102 : Int32) (f_103 : Nat → Int32) : Int32 × Int32 × (Nat → Int32) :=
  ((x, v_102, f_103) : Int32 × Int32 × (Nat → Int32))
set_option maxRecDepth 100000 in
noncomputable def E_v_tell (x : Int32) (sta : Int32) (frf : Nat → Int32) : Int32 × Int32 × (Nat → Int32) :=
  if 0 ≤ x then (if 0 ≤ x then (E_v_tell_j28 x 0 frf) else (((0, 0, fun _ => 0) : Int32 × Int32 × (Nat → Int32)))) else (if 0 ≤ x then (((0, 0, fun _ => 0) : Int32 × Int32 × (Nat → Int32))) else (Lt (- x : Int32) (fun x_108 => Lt (frf (x_108 : Int32).toNatClampNeg : Int32) (fun x_109 => Lt (x_109 + 1 : Int32) (fun x_110 => Lt (upd frf (x_108 : Int32).toNatClampNeg x_110 : Nat → Int32) (fun f_111 => E_v_tell_j28 x x f_111))))))
set_option maxHeartbeats 4000000 in
set_option maxRecDepth 100000 in
theorem v_tell (l : Launch) (D : va_G) (K : Nat → ClassId) (m0 : Nat) (x : Int32) (m_0 : Value) (sta : Int32) (r0 : Nat) (m_3 : Value) (m_4 : Value) (m_5 : Value) (m_6 : Value) (m_7 : Value) (m_8 : Value) (m_9 : Value) (m_10 : Value) (m_11 : Value) (m_12 : Value) (m_13 : Value) (m_14 : Value) (m_15 : Value) (m_16 : Value) (m_17 : Value) (m_18 : Value) (m_19 : Value) (m_20 : Value) (m_21 : Value) (m_22 : Value) (m_23 : Value) (m_24 : Value) (m_25 : Value) (m_26 : Value) (m_27 : Value) (m_28 : Value) (m_29 : Value) (m_30 : Value) (m_31 : Value) (m_32 : Value) (m_33 : Value) (m_34 : Value) (m_35 : Value) (m_36 : Value) (m_37 : Value) (m_38 : Value) (m_39 : Value) (m_40 : Value) (m_41 : Value) (m_42 : Value) (m_43 : Value) (m_44 : Value) (m_45 : Value) (m_46 : Value) (m_47 : Value) (m_48 : Value) (m_49 : Value) (m_50 : Value) (m_51 : Value) (m_52 : Value) (m_53 : Value) (m_54 : Value) (m_55 : Value) (m_56 : Value) (m_57 : Value) (m_58 : Value) (m_59 : Value) (frf : Nat → Int32) (sz : Nat) (zx : (-6) ≤ x.toInt ∧ x.toInt ≤ 2147483647) : Met l yX12_tell wsX12_tell ({ frames := 0, cells := 0, slots := 0, locals := 0 }) (va_Pc [.ref m0, .int x] (Pre D K [(m0, .inr (12, [m_0, .int sta, .ref r0, m_3, m_4, m_5, m_6, m_7, m_8, m_9, m_10, m_11, m_12, m_13, m_14, m_15, m_16, m_17, m_18, m_19, m_20, m_21, m_22, m_23, m_24, m_25, m_26, m_27, m_28, m_29, m_30, m_31, m_32, m_33, m_34, m_35, m_36, m_37, m_38, m_39, m_40, m_41, m_42, m_43, m_44, m_45, m_46, m_47, m_48, m_49, m_50, m_51, m_52, m_53, m_54, m_55, m_56, m_57, m_58, m_59])), (r0, .inl (K 0, 7, .inl frf))] sz)) (va_Qi (S := Su) (fun (r : Int32) (u : Su) => ((-6) ≤ r.toInt) ∧ ((-6) ≤ (u.2.2.2.1 0).toInt ∧ (u.2.2.2.1 0).toInt ≤ 0) ∧ ((r, (u.2.2.2.1 0), (u.2.1 0)) = E_v_tell x sta frf) ∧ True) (fun u t => Wd D (va_A [(m0, .inr (12, [m_0, .int sta, .ref r0, m_3, m_4, m_5, m_6, m_7, m_8, m_9, m_10, m_11, m_12, m_13, m_14, m_15, m_16, m_17, m_18, m_19, m_20, m_21, m_22, m_23, m_24, m_25, m_26, m_27, m_28, m_29, m_30, m_31, m_32, m_33, m_34, m_35, m_36, m_37, m_38, m_39, m_40, m_41, m_42, m_43, m_44, m_45, m_46, m_47, m_48, m_49, m_50, m_51, m_52, m_53, m_54, m_55, m_56, m_57, m_58, m_59])), (r0, .inl (K 0, 7, .inl frf))] sz) ((fun u => [(m0, .inr (12, [m_0, .int (u.2.2.2.1 0), .ref r0, m_3, m_4, m_5, m_6, m_7, m_8, m_9, m_10, m_11, m_12, m_13, m_14, m_15, m_16, m_17, m_18, m_19, m_20, m_21, m_22, m_23, m_24, m_25, m_26, m_27, m_28, m_29, m_30, m_31, m_32, m_33, m_34, m_35, m_36, m_37, m_38, m_39, m_40, m_41, m_42, m_43, m_44, m_45, m_46, m_47, m_48, m_49, m_50, m_51, m_52, m_53, m_54, m_55, m_56, m_57, m_58, m_59])), (r0, .inl (K 0, 7, .inl (u.2.1 0)))]) u) t) (va_A [(m0, .inr (12, [m_0, .int sta, .ref r0, m_3, m_4, m_5, m_6, m_7, m_8, m_9, m_10, m_11, m_12, m_13, m_14, m_15, m_16, m_17, m_18, m_19, m_20, m_21, m_22, m_23, m_24, m_25, m_26, m_27, m_28, m_29, m_30, m_31, m_32, m_33, m_34, m_35, m_36, m_37, m_38, m_39, m_40, m_41, m_42, m_43, m_44, m_45, m_46, m_47, m_48, m_49, m_50, m_51, m_52, m_53, m_54, m_55, m_56, m_57, m_58, m_59])), (r0, .inl (K 0, 7, .inl frf))] sz)) 0 0 (va_A [(m0, .inr (12, [m_0, .int sta, .ref r0, m_3, m_4, m_5, m_6, m_7, m_8, m_9, m_10, m_11, m_12, m_13, m_14, m_15, m_16, m_17, m_18, m_19, m_20, m_21, m_22, m_23, m_24, m_25, m_26, m_27, m_28, m_29, m_30, m_31, m_32, m_33, m_34, m_35, m_36, m_37, m_38, m_39, m_40, m_41, m_42, m_43, m_44, m_45, m_46, m_47, m_48, m_49, m_50, m_51, m_52, m_53, m_54, m_55, m_56, m_57, m_58, m_59])), (r0, .inl (K 0, 7, .inl frf))] sz) := by
  refine Met.ofW (cc := cX12_tell) (maxL := 2) (ret := (some .int)) (by decide +kernel) rfl ?_
  intro p e s m args below meth c s₁ B hml hv
  obtain ⟨rfl, hsz, hP, hK, hD0, hN⟩ := hv
  have hx := B.exec
  have hb := B.bytes
  have hr := B.returns
  have hts := atoms_spec (ws := wsX12_tell) B.pre
  have hown : s.vm.findClass RX12 = some m.cls := findClass_of_methodNamed B.named
  have hlocks := B.notSynchronized
  subst hsz
  have hD := hD0.self (sz := s.heap.size)
  generalize hAe : va_A [(m0, .inr (12, [m_0, .int sta, .ref r0, m_3, m_4, m_5, m_6, m_7, m_8, m_9, m_10, m_11, m_12, m_13, m_14, m_15, m_16, m_17, m_18, m_19, m_20, m_21, m_22, m_23, m_24, m_25, m_26, m_27, m_28, m_29, m_30, m_31, m_32, m_33, m_34, m_35, m_36, m_37, m_38, m_39, m_40, m_41, m_42, m_43, m_44, m_45, m_46, m_47, m_48, m_49, m_50, m_51, m_52, m_53, m_54, m_55, m_56, m_57, m_58, m_59])), (r0, .inl (K 0, 7, .inl frf))] s.heap.size = A at hD ⊢
  have hA : ∀ q : Nat, s.heap.size ≤ q → A q := fun q h => by rw [← hAe]; exact Or.inr h
  clear hAe
  have hS : va_S A s.heap s.heap [] := va_S.rf
  replace hP : va_P D vwCl [(m0, .inr (12, [m_0, .int sta, .ref r0, m_3, m_4, m_5, m_6, m_7, m_8, m_9, m_10, m_11, m_12, m_13, m_14, m_15, m_16, m_17, m_18, m_19, m_20, m_21, m_22, m_23, m_24, m_25, m_26, m_27, m_28, m_29, m_30, m_31, m_32, m_33, m_34, m_35, m_36, m_37, m_38, m_39, m_40, m_41, m_42, m_43, m_44, m_45, m_46, m_47, m_48, m_49, m_50, m_51, m_52, m_53, m_54, m_55, m_56, m_57, m_58, m_59])), (r0, .inl (K 0, 7, .inl frf))] s.heap := hP
  have hl := lv_entry [.ref m0, .int x] (n := 2) (Nat.le_of_ble_eq_true rfl)
  rw [lg_entry_eq]
  generalize (lg_sl [.ref m0, .int x] ++ List.replicate (2 - (lg_sl [.ref m0, .int x]).length) Slot.unset).toArray = ls at hl ⊢
  have hl : lv_has ls 2 [(0, .ref m0), (1, .int x)] := hl
  have hw12 : ∀ w ∈ wsX120, w ∈ wsX12_tell := fun w h => (List.mem_cons_of_mem _ (List.mem_append_right _ h))
  generalize hQ : MQ below _ _ s _ _ _ = Q
  have hE := E_v_tell.eq_def x sta frf
  refine lv_aload_n hx hb dX12_tell_0 rfl (lv_at hl 0 rfl) ?_
  refine lv_iload_n hx hb dX12_tell_1 rfl (lv_at hl 1 rfl) ?_
  have j_104 : ∀ (v_102 : Int32) (f_103 : Nat → Int32) (hv_102 : (-6) ≤ v_102.toInt ∧ v_102.toInt ≤ 0) (hE : E_v_tell x sta frf = E_v_tell_j28 x v_102 f_103) (H : Heap) (locs : List Loc) (hP : va_P D vwCl [(m0, .inr (12, [m_0, .int v_102, .ref r0, m_3, m_4, m_5, m_6, m_7, m_8, m_9, m_10, m_11, m_12, m_13, m_14, m_15, m_16, m_17, m_18, m_19, m_20, m_21, m_22, m_23, m_24, m_25, m_26, m_27, m_28, m_29, m_30, m_31, m_32, m_33, m_34, m_35, m_36, m_37, m_38, m_39, m_40, m_41, m_42, m_43, m_44, m_45, m_46, m_47, m_48, m_49, m_50, m_51, m_52, m_53, m_54, m_55, m_56, m_57, m_58, m_59])), (r0, .inl (K 0, 7, .inl f_103))] H) (hD : va_D A [(m0, .inr (12, [m_0, .int v_102, .ref r0, m_3, m_4, m_5, m_6, m_7, m_8, m_9, m_10, m_11, m_12, m_13, m_14, m_15, m_16, m_17, m_18, m_19, m_20, m_21, m_22, m_23, m_24, m_25, m_26, m_27, m_28, m_29, m_30, m_31, m_32, m_33, m_34, m_35, m_36, m_37, m_38, m_39, m_40, m_41, m_42, m_43, m_44, m_45, m_46, m_47, m_48, m_49, m_50, m_51, m_52, m_53, m_54, m_55, m_56, m_57, m_58, m_59])), (r0, .inl (K 0, 7, .inl f_103))]) (hS : va_S A s.heap H locs) (ls : Array Slot) (hl : lv_has ls 2 [(1, .int x)]), W p l e ({ frames := 0, cells := 0, slots := 0, locals := 0 }) s m (([.ref m0, .int x] : List Value).toArray) below meth c H locs 0 0 Q (F0 m 28 ls []) := by
    clear hE hP hD hS hl
    intro v_102 f_103 hv_102 hE H locs hP hD hS ls hl
    replace hE := hE.trans (E_v_tell_j28.eq_def _ _ _)
    refine lv_iload_n hx hb dX12_tell_28 rfl (lv_at hl 0 rfl) ?_
    rw [← hQ]
    have hP9 := hP.sub (ws' := [(m0, .inr (12, [m_0, .int v_102, .ref r0, m_3, m_4, m_5, m_6, m_7, m_8, m_9, m_10, m_11, m_12, m_13, m_14, m_15, m_16, m_17, m_18, m_19, m_20, m_21, m_22, m_23, m_24, m_25, m_26, m_27, m_28, m_29, m_30, m_31, m_32, m_33, m_34, m_35, m_36, m_37, m_38, m_39, m_40, m_41, m_42, m_43, m_44, m_45, m_46, m_47, m_48, m_49, m_50, m_51, m_52, m_53, m_54, m_55, m_56, m_57, m_58, m_59])), (r0, .inl (K 0, 7, .inl f_103))]) [0, 1] rfl
    have hD9 := hD.sub (ws' := [(m0, .inr (12, [m_0, .int v_102, .ref r0, m_3, m_4, m_5, m_6, m_7, m_8, m_9, m_10, m_11, m_12, m_13, m_14, m_15, m_16, m_17, m_18, m_19, m_20, m_21, m_22, m_23, m_24, m_25, m_26, m_27, m_28, m_29, m_30, m_31, m_32, m_33, m_34, m_35, m_36, m_37, m_38, m_39, m_40, m_41, m_42, m_43, m_44, m_45, m_46, m_47, m_48, m_49, m_50, m_51, m_52, m_53, m_54, m_55, m_56, m_57, m_58, m_59])), (r0, .inl (K 0, 7, .inl f_103))]) [0, 1] (by decide +kernel) rfl
    exact W.iret (v := x) hx hb hr (fun t ht hW => ⟨⟨x, ((fun _ => 0, fun i => match i with | _ => f_103, fun _ => fun _ => 0, fun i => match i with | _ => v_102, fun _ => 0, fun _ => fun _ => none) : Su), rfl, ⟨(show (-6) ≤ x.toInt by omega), (show (-6) ≤ (v_102 : Int32).toInt ∧ (v_102 : Int32).toInt ≤ 0 by omega), hE.symm, trivial⟩, (⟨by rw [ht]; exact hP9, hD9⟩ : Wd D A _ t)⟩, hS.F ht⟩) hS.2.2 dX12_tell_29
  refine lv_if_ge (tgt := 9) hx hb dX12_tell_2 (by decide +kernel) (fun c_105 => ?_) (fun c_105 => ?_)
  · have c_105i := i_le (x := 0) (y := x.toInt) rfl rfl c_105
    replace hE := hE.trans (if_pos c_105)
    refine lv_iconst (v := 0) hx hb dX12_tell_9 (by decide +kernel) ?_
    refine va_put (ci := 12) (v := .int 0) (ty := .int) (C := RX12) (T := TX12) (N := 60) hx hb hts hw12 tyX12 tyX12_ok nmX12 hown hK hP hD hS 0 rfl rfl 1 (by decide +kernel) (hts _ mm_X12_tell_831) (fun _ h9 => h9) rfl (by decide +kernel) (by first | rfl | decide) (by first | rfl | decide) (Nat.le_of_ble_eq_true rfl) dX12_tell_10 (fun H locs hP0 hD0 hS0 => ?_)
    clear hP hD hS
    have hP := hP0
    have hD := hD0
    have hS := hS0
    clear hP0 hD0 hS0
    replace hP : va_P D vwCl [(m0, .inr (12, [m_0, .int 0, .ref r0, m_3, m_4, m_5, m_6, m_7, m_8, m_9, m_10, m_11, m_12, m_13, m_14, m_15, m_16, m_17, m_18, m_19, m_20, m_21, m_22, m_23, m_24, m_25, m_26, m_27, m_28, m_29, m_30, m_31, m_32, m_33, m_34, m_35, m_36, m_37, m_38, m_39, m_40, m_41, m_42, m_43, m_44, m_45, m_46, m_47, m_48, m_49, m_50, m_51, m_52, m_53, m_54, m_55, m_56, m_57, m_58, m_59])), (r0, .inl (K 0, 7, .inl frf))] H := hP
    replace hD : va_D A [(m0, .inr (12, [m_0, .int 0, .ref r0, m_3, m_4, m_5, m_6, m_7, m_8, m_9, m_10, m_11, m_12, m_13, m_14, m_15, m_16, m_17, m_18, m_19, m_20, m_21, m_22, m_23, m_24, m_25, m_26, m_27, m_28, m_29, m_30, m_31, m_32, m_33, m_34, m_35, m_36, m_37, m_38, m_39, m_40, m_41, m_42, m_43, m_44, m_45, m_46, m_47, m_48, m_49, m_50, m_51, m_52, m_53, m_54, m_55, m_56, m_57, m_58, m_59])), (r0, .inl (K 0, 7, .inl frf))] := hD
    refine lv_iload_n hx hb dX12_tell_13 rfl (lv_at hl 1 rfl) ?_
    refine lv_if_ge (tgt := 28) hx hb dX12_tell_14 (by decide +kernel) (fun c_106 => ?_) (fun c_106 => ?_)
    · have c_106i := i_le (x := 0) (y := x.toInt) rfl rfl c_106
      replace hE := hE.trans (if_pos c_106)
      exact j_104 0 frf (by decide +kernel) hE _ _ hP hD hS ls (lv_sub hl [1] rfl)
    · have c_106i := i_nle (x := 0) (y := x.toInt) rfl rfl c_106
      exfalso; omega
  · have c_105i := i_nle (x := 0) (y := x.toInt) rfl rfl c_105
    replace hE := hE.trans (if_neg c_105)
    refine lv_iload_n hx hb dX12_tell_5 rfl (lv_at hl 1 rfl) ?_
    refine lv_goto (tgt := 10) hx hb dX12_tell_6 (by decide +kernel) ?_
    refine va_put (ci := 12) (v := .int x) (ty := .int) (C := RX12) (T := TX12) (N := 60) hx hb hts hw12 tyX12 tyX12_ok nmX12 hown hK hP hD hS 0 rfl rfl 1 (by decide +kernel) (hts _ mm_X12_tell_831) (fun _ h9 => h9) rfl (by decide +kernel) (by first | rfl | decide) (by first | rfl | decide) (Nat.le_of_ble_eq_true rfl) dX12_tell_10 (fun H locs hP0 hD0 hS0 => ?_)
    clear hP hD hS
    have hP := hP0
    have hD := hD0
    have hS := hS0
    clear hP0 hD0 hS0
    replace hP : va_P D vwCl [(m0, .inr (12, [m_0, .int x, .ref r0, m_3, m_4, m_5, m_6, m_7, m_8, m_9, m_10, m_11, m_12, m_13, m_14, m_15, m_16, m_17, m_18, m_19, m_20, m_21, m_22, m_23, m_24, m_25, m_26, m_27, m_28, m_29, m_30, m_31, m_32, m_33, m_34, m_35, m_36, m_37, m_38, m_39, m_40, m_41, m_42, m_43, m_44, m_45, m_46, m_47, m_48, m_49, m_50, m_51, m_52, m_53, m_54, m_55, m_56, m_57, m_58, m_59])), (r0, .inl (K 0, 7, .inl frf))] H := hP
    replace hD : va_D A [(m0, .inr (12, [m_0, .int x, .ref r0, m_3, m_4, m_5, m_6, m_7, m_8, m_9, m_10, m_11, m_12, m_13, m_14, m_15, m_16, m_17, m_18, m_19, m_20, m_21, m_22, m_23, m_24, m_25, m_26, m_27, m_28, m_29, m_30, m_31, m_32, m_33, m_34, m_35, m_36, m_37, m_38, m_39, m_40, m_41, m_42, m_43, m_44, m_45, m_46, m_47, m_48, m_49, m_50, m_51, m_52, m_53, m_54, m_55, m_56, m_57, m_58, m_59])), (r0, .inl (K 0, 7, .inl frf))] := hD
    refine lv_iload_n hx hb dX12_tell_13 rfl (lv_at hl 1 rfl) ?_
    refine lv_if_ge (tgt := 28) hx hb dX12_tell_14 (by decide +kernel) (fun c_107 => ?_) (fun c_107 => ?_)
    · have c_107i := i_le (x := 0) (y := x.toInt) rfl rfl c_107
      exfalso; omega
    · have c_107i := i_nle (x := 0) (y := x.toInt) rfl rfl c_107
      replace hE := hE.trans (if_neg c_107)
      refine lv_aload_n hx hb dX12_tell_17 rfl (lv_at hl 0 rfl) ?_
      refine va_get (ci := 12) (v := .ref r0) (C := RX12) (T := TX12) (N := 60) hx hb hts hw12 hown hK hP 0 rfl rfl 2 (by decide +kernel) (hts _ mm_X12_tell_832) (fun _ h9 => h9) rfl dX12_tell_18 ?_
      refine lv_iload_n hx hb dX12_tell_21 rfl (lv_at hl 1 rfl) ?_
      refine lv_ineg hx hb dX12_tell_22 ?_
      refine lv_topi (fun x_108 ex_108 => ?_)
      replace hE := hE.trans (Lt_in ex_108)
      have hx_108 : x_108.toInt = (- x.toInt) := by rw [ex_108]; exact i_neg rfl (by omega)
      refine lv_dup2_11 hx hb dX12_tell_23 rfl rfl ?_
      refine va_iald hx hb hK hP 1 0 rfl rfl (i_in hx_108 (by omega)) dX12_tell_24 ?_
      refine lv_topi (fun x_109 ex_109 => ?_)
      replace hE := hE.trans (Lt_in ex_109)
      refine lv_iconst (v := 1) hx hb dX12_tell_25 (by decide +kernel) ?_
      refine lv_iadd hx hb dX12_tell_26 ?_
      refine lv_topi (fun x_110 ex_110 => ?_)
      replace hE := hE.trans (Lt_in ex_110)
      refine va_iast hx hb hK hP hD hS 1 0 rfl rfl (i_in hx_108 (by omega)) dX12_tell_27 (fun H locs hP0 hD0 hS0 => ?_)
      clear hP hD hS
      have hP := hP0
      have hD := hD0
      have hS := hS0
      clear hP0 hD0 hS0
      generalize hf_111 : (upd frf (x_108 : Int32).toNatClampNeg x_110) = f_111 at hP hD
      replace hE := hE.trans (Lt_in hf_111.symm)
      replace hP : va_P D vwCl [(m0, .inr (12, [m_0, .int x, .ref r0, m_3, m_4, m_5, m_6, m_7, m_8, m_9, m_10, m_11, m_12, m_13, m_14, m_15, m_16, m_17, m_18, m_19, m_20, m_21, m_22, m_23, m_24, m_25, m_26, m_27, m_28, m_29, m_30, m_31, m_32, m_33, m_34, m_35, m_36, m_37, m_38, m_39, m_40, m_41, m_42, m_43, m_44, m_45, m_46, m_47, m_48, m_49, m_50, m_51, m_52, m_53, m_54, m_55, m_56, m_57, m_58, m_59])), (r0, .inl (K 0, 7, .inl f_111))] H := hP
      replace hD : va_D A [(m0, .inr (12, [m_0, .int x, .ref r0, m_3, m_4, m_5, m_6, m_7, m_8, m_9, m_10, m_11, m_12, m_13, m_14, m_15, m_16, m_17, m_18, m_19, m_20, m_21, m_22, m_23, m_24, m_25, m_26, m_27, m_28, m_29, m_30, m_31, m_32, m_33, m_34, m_35, m_36, m_37, m_38, m_39, m_40, m_41, m_42, m_43, m_44, m_45, m_46, m_47, m_48, m_49, m_50, m_51, m_52, m_53, m_54, m_55, m_56, m_57, m_58, m_59])), (r0, .inl (K 0, 7, .inl f_111))] := hD
      exact j_104 x f_111 (by omega) hE _ _ hP hD hS ls (lv_sub hl [1] rfl)
set_option maxRecDepth 100000 in
noncomputable def E_v_change (x : Int32) (y : Int32) (sta : Int32) (fw : Nat → Int32) : Int32 × (Nat → Int32) :=
  Lt (fw (x : Int32).toNatClampNeg : Int32) (fun x_65 => Lt (upd fw (x : Int32).toNatClampNeg y : Nat → Int32) (fun f_66 => ((x_65, f_66) : Int32 × (Nat → Int32))))
set_option maxHeartbeats 4000000 in
set_option maxRecDepth 100000 in
theorem v_change (l : Launch) (D : va_G) (K : Nat → ClassId) (m0 : Nat) (x : Int32) (y : Int32) (m_0 : Value) (sta : Int32) (m_2 : Value) (w0 : Nat) (m_4 : Value) (m_5 : Value) (m_6 : Value) (m_7 : Value) (m_8 : Value) (m_9 : Value) (m_10 : Value) (m_11 : Value) (m_12 : Value) (m_13 : Value) (m_14 : Value) (m_15 : Value) (m_16 : Value) (m_17 : Value) (m_18 : Value) (m_19 : Value) (m_20 : Value) (m_21 : Value) (m_22 : Value) (m_23 : Value) (m_24 : Value) (m_25 : Value) (m_26 : Value) (m_27 : Value) (m_28 : Value) (m_29 : Value) (m_30 : Value) (m_31 : Value) (m_32 : Value) (m_33 : Value) (m_34 : Value) (m_35 : Value) (m_36 : Value) (m_37 : Value) (m_38 : Value) (m_39 : Value) (m_40 : Value) (m_41 : Value) (m_42 : Value) (m_43 : Value) (m_44 : Value) (m_45 : Value) (m_46 : Value) (m_47 : Value) (m_48 : Value) (m_49 : Value) (m_50 : Value) (m_51 : Value) (m_52 : Value) (m_53 : Value) (m_54 : Value) (m_55 : Value) (m_56 : Value) (m_57 : Value) (m_58 : Value) (m_59 : Value) (fw : Nat → Int32) (sz : Nat) (zx : 0 ≤ x.toInt ∧ x.toInt ≤ 99) (hpr : PR x.toInt.toNat y.toInt) (zfw : RwOK fw) : Met l yX12_change wsX12_change ({ frames := 0, cells := 0, slots := 0, locals := 0 }) (va_Pc [.ref m0, .int x, .int y] (Pre D K [(m0, .inr (12, [m_0, .int sta, m_2, .ref w0, m_4, m_5, m_6, m_7, m_8, m_9, m_10, m_11, m_12, m_13, m_14, m_15, m_16, m_17, m_18, m_19, m_20, m_21, m_22, m_23, m_24, m_25, m_26, m_27, m_28, m_29, m_30, m_31, m_32, m_33, m_34, m_35, m_36, m_37, m_38, m_39, m_40, m_41, m_42, m_43, m_44, m_45, m_46, m_47, m_48, m_49, m_50, m_51, m_52, m_53, m_54, m_55, m_56, m_57, m_58, m_59])), (w0, .inl (K 0, 5500, .inl fw))] sz)) (va_Qi (S := Su) (fun (r : Int32) (u : Su) => (RwOK (u.2.1 0)) ∧ ((r, (u.2.1 0)) = E_v_change x y sta fw) ∧ True) (fun u t => Wd D (va_A [(m0, .inr (12, [m_0, .int sta, m_2, .ref w0, m_4, m_5, m_6, m_7, m_8, m_9, m_10, m_11, m_12, m_13, m_14, m_15, m_16, m_17, m_18, m_19, m_20, m_21, m_22, m_23, m_24, m_25, m_26, m_27, m_28, m_29, m_30, m_31, m_32, m_33, m_34, m_35, m_36, m_37, m_38, m_39, m_40, m_41, m_42, m_43, m_44, m_45, m_46, m_47, m_48, m_49, m_50, m_51, m_52, m_53, m_54, m_55, m_56, m_57, m_58, m_59])), (w0, .inl (K 0, 5500, .inl fw))] sz) ((fun u => [(m0, .inr (12, [m_0, .int 0, m_2, .ref w0, m_4, m_5, m_6, m_7, m_8, m_9, m_10, m_11, m_12, m_13, m_14, m_15, m_16, m_17, m_18, m_19, m_20, m_21, m_22, m_23, m_24, m_25, m_26, m_27, m_28, m_29, m_30, m_31, m_32, m_33, m_34, m_35, m_36, m_37, m_38, m_39, m_40, m_41, m_42, m_43, m_44, m_45, m_46, m_47, m_48, m_49, m_50, m_51, m_52, m_53, m_54, m_55, m_56, m_57, m_58, m_59])), (w0, .inl (K 0, 5500, .inl (u.2.1 0)))]) u) t) (va_A [(m0, .inr (12, [m_0, .int sta, m_2, .ref w0, m_4, m_5, m_6, m_7, m_8, m_9, m_10, m_11, m_12, m_13, m_14, m_15, m_16, m_17, m_18, m_19, m_20, m_21, m_22, m_23, m_24, m_25, m_26, m_27, m_28, m_29, m_30, m_31, m_32, m_33, m_34, m_35, m_36, m_37, m_38, m_39, m_40, m_41, m_42, m_43, m_44, m_45, m_46, m_47, m_48, m_49, m_50, m_51, m_52, m_53, m_54, m_55, m_56, m_57, m_58, m_59])), (w0, .inl (K 0, 5500, .inl fw))] sz)) 0 0 (va_A [(m0, .inr (12, [m_0, .int sta, m_2, .ref w0, m_4, m_5, m_6, m_7, m_8, m_9, m_10, m_11, m_12, m_13, m_14, m_15, m_16, m_17, m_18, m_19, m_20, m_21, m_22, m_23, m_24, m_25, m_26, m_27, m_28, m_29, m_30, m_31, m_32, m_33, m_34, m_35, m_36, m_37, m_38, m_39, m_40, m_41, m_42, m_43, m_44, m_45, m_46, m_47, m_48, m_49, m_50, m_51, m_52, m_53, m_54, m_55, m_56, m_57, m_58, m_59])), (w0, .inl (K 0, 5500, .inl fw))] sz) := by
  refine Met.ofW (cc := cX12_change) (maxL := 4) (ret := (some .int)) (by decide +kernel) rfl ?_
  intro p e s m args below meth c s₁ B hml hv
  obtain ⟨rfl, hsz, hP, hK, hD0, hN⟩ := hv
  have hx := B.exec
  have hb := B.bytes
  have hr := B.returns
  have hts := atoms_spec (ws := wsX12_change) B.pre
  have hown : s.vm.findClass RX12 = some m.cls := findClass_of_methodNamed B.named
  have hlocks := B.notSynchronized
  subst hsz
  have hD := hD0.self (sz := s.heap.size)
  generalize hAe : va_A [(m0, .inr (12, [m_0, .int sta, m_2, .ref w0, m_4, m_5, m_6, m_7, m_8, m_9, m_10, m_11, m_12, m_13, m_14, m_15, m_16, m_17, m_18, m_19, m_20, m_21, m_22, m_23, m_24, m_25, m_26, m_27, m_28, m_29, m_30, m_31, m_32, m_33, m_34, m_35, m_36, m_37, m_38, m_39, m_40, m_41, m_42, m_43, m_44, m_45, m_46, m_47, m_48, m_49, m_50, m_51, m_52, m_53, m_54, m_55, m_56, m_57, m_58, m_59])), (w0, .inl (K 0, 5500, .inl fw))] s.heap.size = A at hD ⊢
  have hA : ∀ q : Nat, s.heap.size ≤ q → A q := fun q h => by rw [← hAe]; exact Or.inr h
  clear hAe
  have hS : va_S A s.heap s.heap [] := va_S.rf
  replace hP : va_P D vwCl [(m0, .inr (12, [m_0, .int sta, m_2, .ref w0, m_4, m_5, m_6, m_7, m_8, m_9, m_10, m_11, m_12, m_13, m_14, m_15, m_16, m_17, m_18, m_19, m_20, m_21, m_22, m_23, m_24, m_25, m_26, m_27, m_28, m_29, m_30, m_31, m_32, m_33, m_34, m_35, m_36, m_37, m_38, m_39, m_40, m_41, m_42, m_43, m_44, m_45, m_46, m_47, m_48, m_49, m_50, m_51, m_52, m_53, m_54, m_55, m_56, m_57, m_58, m_59])), (w0, .inl (K 0, 5500, .inl fw))] s.heap := hP
  have hl := lv_entry [.ref m0, .int x, .int y] (n := 4) (Nat.le_of_ble_eq_true rfl)
  rw [lg_entry_eq]
  generalize (lg_sl [.ref m0, .int x, .int y] ++ List.replicate (4 - (lg_sl [.ref m0, .int x, .int y]).length) Slot.unset).toArray = ls at hl ⊢
  have hl : lv_has ls 4 [(0, .ref m0), (1, .int x), (2, .int y)] := hl
  have hw12 : ∀ w ∈ wsX120, w ∈ wsX12_change := fun w h => (List.mem_cons_of_mem _ (List.mem_append_right _ h))
  generalize hQ : MQ below _ _ s _ _ _ = Q
  have hE := E_v_change.eq_def x y sta fw
  refine lv_aload_n hx hb dX12_change_0 rfl (lv_at hl 0 rfl) ?_
  refine va_get (ci := 12) (v := .ref w0) (C := RX12) (T := TX12) (N := 60) hx hb hts hw12 hown hK hP 0 rfl rfl 3 (by decide +kernel) (hts _ mm_X12_change_833) (fun _ h9 => h9) rfl dX12_change_1 ?_
  refine lv_iload_n hx hb dX12_change_4 rfl (lv_at hl 1 rfl) ?_
  refine va_iald hx hb hK hP 1 0 rfl rfl (i_in rfl (by omega)) dX12_change_5 ?_
  refine lv_topi (fun x_65 ex_65 => ?_)
  replace hE := hE.trans (Lt_in ex_65)
  have px_65 := RwOK.at zfw rfl (show 0 ≤ x.toInt ∧ x.toInt < 100 by omega)
  rw [← ex_65] at px_65
  refine lv_istore_n (lv' := [(3, .int x_65), (0, .ref m0), (1, .int x), (2, .int y)]) hx hb dX12_change_6 rfl hl (by decide +kernel) rfl (fun ls hl => ?_)
  refine lv_aload_n hx hb dX12_change_7 rfl (lv_at hl 1 rfl) ?_
  refine va_get (ci := 12) (v := .ref w0) (C := RX12) (T := TX12) (N := 60) hx hb hts hw12 hown hK hP 0 rfl rfl 3 (by decide +kernel) (hts _ mm_X12_change_833) (fun _ h9 => h9) rfl dX12_change_8 ?_
  refine lv_iload_n hx hb dX12_change_11 rfl (lv_at hl 2 rfl) ?_
  refine lv_iload_n hx hb dX12_change_12 rfl (lv_at hl 3 rfl) ?_
  refine va_iast hx hb hK hP hD hS 1 0 rfl rfl (i_in rfl (by omega)) dX12_change_13 (fun H locs hP0 hD0 hS0 => ?_)
  clear hP hD hS
  have hP := hP0
  have hD := hD0
  have hS := hS0
  clear hP0 hD0 hS0
  generalize hf_66 : (upd fw (x : Int32).toNatClampNeg y) = f_66 at hP hD
  replace hE := hE.trans (Lt_in hf_66.symm)
  have hf_66_0 : RwOK f_66 := by rw [← hf_66]; exact RwOK.upd zfw rfl (by omega) rfl (PR.eqi hpr (by omega) rfl)
  replace hP : va_P D vwCl [(m0, .inr (12, [m_0, .int sta, m_2, .ref w0, m_4, m_5, m_6, m_7, m_8, m_9, m_10, m_11, m_12, m_13, m_14, m_15, m_16, m_17, m_18, m_19, m_20, m_21, m_22, m_23, m_24, m_25, m_26, m_27, m_28, m_29, m_30, m_31, m_32, m_33, m_34, m_35, m_36, m_37, m_38, m_39, m_40, m_41, m_42, m_43, m_44, m_45, m_46, m_47, m_48, m_49, m_50, m_51, m_52, m_53, m_54, m_55, m_56, m_57, m_58, m_59])), (w0, .inl (K 0, 5500, .inl f_66))] H := hP
  replace hD : va_D A [(m0, .inr (12, [m_0, .int sta, m_2, .ref w0, m_4, m_5, m_6, m_7, m_8, m_9, m_10, m_11, m_12, m_13, m_14, m_15, m_16, m_17, m_18, m_19, m_20, m_21, m_22, m_23, m_24, m_25, m_26, m_27, m_28, m_29, m_30, m_31, m_32, m_33, m_34, m_35, m_36, m_37, m_38, m_39, m_40, m_41, m_42, m_43, m_44, m_45, m_46, m_47, m_48, m_49, m_50, m_51, m_52, m_53, m_54, m_55, m_56, m_57, m_58, m_59])), (w0, .inl (K 0, 5500, .inl f_66))] := hD
  refine lv_aload_n hx hb dX12_change_14 rfl (lv_at hl 1 rfl) ?_
  refine lv_iconst (v := 0) hx hb dX12_change_15 (by decide +kernel) ?_
  refine va_put (ci := 12) (v := .int 0) (ty := .int) (C := RX12) (T := TX12) (N := 60) hx hb hts hw12 tyX12 tyX12_ok nmX12 hown hK hP hD hS 0 rfl rfl 1 (by decide +kernel) (hts _ mm_X12_change_831) (fun _ h9 => h9) rfl (by decide +kernel) (by first | rfl | decide) (by first | rfl | decide) (Nat.le_of_ble_eq_true rfl) dX12_change_16 (fun H locs hP0 hD0 hS0 => ?_)
  clear hP hD hS
  have hP := hP0
  have hD := hD0
  have hS := hS0
  clear hP0 hD0 hS0
  replace hP : va_P D vwCl [(m0, .inr (12, [m_0, .int 0, m_2, .ref w0, m_4, m_5, m_6, m_7, m_8, m_9, m_10, m_11, m_12, m_13, m_14, m_15, m_16, m_17, m_18, m_19, m_20, m_21, m_22, m_23, m_24, m_25, m_26, m_27, m_28, m_29, m_30, m_31, m_32, m_33, m_34, m_35, m_36, m_37, m_38, m_39, m_40, m_41, m_42, m_43, m_44, m_45, m_46, m_47, m_48, m_49, m_50, m_51, m_52, m_53, m_54, m_55, m_56, m_57, m_58, m_59])), (w0, .inl (K 0, 5500, .inl f_66))] H := hP
  replace hD : va_D A [(m0, .inr (12, [m_0, .int 0, m_2, .ref w0, m_4, m_5, m_6, m_7, m_8, m_9, m_10, m_11, m_12, m_13, m_14, m_15, m_16, m_17, m_18, m_19, m_20, m_21, m_22, m_23, m_24, m_25, m_26, m_27, m_28, m_29, m_30, m_31, m_32, m_33, m_34, m_35, m_36, m_37, m_38, m_39, m_40, m_41, m_42, m_43, m_44, m_45, m_46, m_47, m_48, m_49, m_50, m_51, m_52, m_53, m_54, m_55, m_56, m_57, m_58, m_59])), (w0, .inl (K 0, 5500, .inl f_66))] := hD
  refine lv_iload_n hx hb dX12_change_19 rfl (lv_at hl 0 rfl) ?_
  rw [← hQ]
  have hP9 := hP.sub (ws' := [(m0, .inr (12, [m_0, .int 0, m_2, .ref w0, m_4, m_5, m_6, m_7, m_8, m_9, m_10, m_11, m_12, m_13, m_14, m_15, m_16, m_17, m_18, m_19, m_20, m_21, m_22, m_23, m_24, m_25, m_26, m_27, m_28, m_29, m_30, m_31, m_32, m_33, m_34, m_35, m_36, m_37, m_38, m_39, m_40, m_41, m_42, m_43, m_44, m_45, m_46, m_47, m_48, m_49, m_50, m_51, m_52, m_53, m_54, m_55, m_56, m_57, m_58, m_59])), (w0, .inl (K 0, 5500, .inl f_66))]) [0, 1] rfl
  have hD9 := hD.sub (ws' := [(m0, .inr (12, [m_0, .int 0, m_2, .ref w0, m_4, m_5, m_6, m_7, m_8, m_9, m_10, m_11, m_12, m_13, m_14, m_15, m_16, m_17, m_18, m_19, m_20, m_21, m_22, m_23, m_24, m_25, m_26, m_27, m_28, m_29, m_30, m_31, m_32, m_33, m_34, m_35, m_36, m_37, m_38, m_39, m_40, m_41, m_42, m_43, m_44, m_45, m_46, m_47, m_48, m_49, m_50, m_51, m_52, m_53, m_54, m_55, m_56, m_57, m_58, m_59])), (w0, .inl (K 0, 5500, .inl f_66))]) [0, 1] (by decide +kernel) rfl
  exact W.iret (v := x_65) hx hb hr (fun t ht hW => ⟨⟨x_65, ((fun _ => 0, fun i => match i with | _ => f_66, fun _ => fun _ => 0, fun _ => 0, fun _ => 0, fun _ => fun _ => none) : Su), rfl, ⟨hf_66_0, hE.symm, trivial⟩, (⟨by rw [ht]; exact hP9, hD9⟩ : Wd D A _ t)⟩, hS.F ht⟩) hS.2.2 dX12_change_20
set_option maxRecDepth 100000 in
noncomputable def E_v_changeF (x : Int32) (y : Int32) (sta : Int32) (fw : Nat → Int32) : Int32 × (Nat → Int32) :=
  Lt (fw (x : Int32).toNatClampNeg : Int32) (fun x_65 => Lt (upd fw (x : Int32).toNatClampNeg y : Nat → Int32) (fun f_66 => ((x_65, f_66) : Int32 × (Nat → Int32))))
set_option maxHeartbeats 4000000 in
set_option maxRecDepth 100000 in
theorem v_changeF (l : Launch) (D : va_G) (K : Nat → ClassId) (m0 : Nat) (x : Int32) (y : Int32) (m_0 : Value) (sta : Int32) (m_2 : Value) (w0 : Nat) (m_4 : Value) (m_5 : Value) (m_6 : Value) (m_7 : Value) (m_8 : Value) (m_9 : Value) (m_10 : Value) (m_11 : Value) (m_12 : Value) (m_13 : Value) (m_14 : Value) (m_15 : Value) (m_16 : Value) (m_17 : Value) (m_18 : Value) (m_19 : Value) (m_20 : Value) (m_21 : Value) (m_22 : Value) (m_23 : Value) (m_24 : Value) (m_25 : Value) (m_26 : Value) (m_27 : Value) (m_28 : Value) (m_29 : Value) (m_30 : Value) (m_31 : Value) (m_32 : Value) (m_33 : Value) (m_34 : Value) (m_35 : Value) (m_36 : Value) (m_37 : Value) (m_38 : Value) (m_39 : Value) (m_40 : Value) (m_41 : Value) (m_42 : Value) (m_43 : Value) (m_44 : Value) (m_45 : Value) (m_46 : Value) (m_47 : Value) (m_48 : Value) (m_49 : Value) (m_50 : Value) (m_51 : Value) (m_52 : Value) (m_53 : Value) (m_54 : Value) (m_55 : Value) (m_56 : Value) (m_57 : Value) (m_58 : Value) (m_59 : Value) (fw : Nat → Int32) (gr : Nat → Int32) (sz : Nat) (zx : 2 ≤ x.toInt ∧ x.toInt ≤ 34) (hpr : PR x.toInt.toNat y.toInt) (zfw : RwOK fw) (zgr : FzM gr fw) : Met l yX12_change wsX12_change ({ frames := 0, cells := 0, slots := 0, locals := 0 }) (va_Pc [.ref m0, .int x, .int y] (Pre D K [(m0, .inr (12, [m_0, .int sta, m_2, .ref w0, m_4, m_5, m_6, m_7, m_8, m_9, m_10, m_11, m_12, m_13, m_14, m_15, m_16, m_17, m_18, m_19, m_20, m_21, m_22, m_23, m_24, m_25, m_26, m_27, m_28, m_29, m_30, m_31, m_32, m_33, m_34, m_35, m_36, m_37, m_38, m_39, m_40, m_41, m_42, m_43, m_44, m_45, m_46, m_47, m_48, m_49, m_50, m_51, m_52, m_53, m_54, m_55, m_56, m_57, m_58, m_59])), (w0, .inl (K 0, 5500, .inl fw))] sz)) (va_Qi (S := Su) (fun (r : Int32) (u : Su) => (RwOK (u.2.1 0)) ∧ (FzM gr (u.2.1 0)) ∧ ((r, (u.2.1 0)) = E_v_changeF x y sta fw) ∧ True) (fun u t => Wd D (va_A [(m0, .inr (12, [m_0, .int sta, m_2, .ref w0, m_4, m_5, m_6, m_7, m_8, m_9, m_10, m_11, m_12, m_13, m_14, m_15, m_16, m_17, m_18, m_19, m_20, m_21, m_22, m_23, m_24, m_25, m_26, m_27, m_28, m_29, m_30, m_31, m_32, m_33, m_34, m_35, m_36, m_37, m_38, m_39, m_40, m_41, m_42, m_43, m_44, m_45, m_46, m_47, m_48, m_49, m_50, m_51, m_52, m_53, m_54, m_55, m_56, m_57, m_58, m_59])), (w0, .inl (K 0, 5500, .inl fw))] sz) ((fun u => [(m0, .inr (12, [m_0, .int 0, m_2, .ref w0, m_4, m_5, m_6, m_7, m_8, m_9, m_10, m_11, m_12, m_13, m_14, m_15, m_16, m_17, m_18, m_19, m_20, m_21, m_22, m_23, m_24, m_25, m_26, m_27, m_28, m_29, m_30, m_31, m_32, m_33, m_34, m_35, m_36, m_37, m_38, m_39, m_40, m_41, m_42, m_43, m_44, m_45, m_46, m_47, m_48, m_49, m_50, m_51, m_52, m_53, m_54, m_55, m_56, m_57, m_58, m_59])), (w0, .inl (K 0, 5500, .inl (u.2.1 0)))]) u) t) (va_A [(m0, .inr (12, [m_0, .int sta, m_2, .ref w0, m_4, m_5, m_6, m_7, m_8, m_9, m_10, m_11, m_12, m_13, m_14, m_15, m_16, m_17, m_18, m_19, m_20, m_21, m_22, m_23, m_24, m_25, m_26, m_27, m_28, m_29, m_30, m_31, m_32, m_33, m_34, m_35, m_36, m_37, m_38, m_39, m_40, m_41, m_42, m_43, m_44, m_45, m_46, m_47, m_48, m_49, m_50, m_51, m_52, m_53, m_54, m_55, m_56, m_57, m_58, m_59])), (w0, .inl (K 0, 5500, .inl fw))] sz)) 0 0 (va_A [(m0, .inr (12, [m_0, .int sta, m_2, .ref w0, m_4, m_5, m_6, m_7, m_8, m_9, m_10, m_11, m_12, m_13, m_14, m_15, m_16, m_17, m_18, m_19, m_20, m_21, m_22, m_23, m_24, m_25, m_26, m_27, m_28, m_29, m_30, m_31, m_32, m_33, m_34, m_35, m_36, m_37, m_38, m_39, m_40, m_41, m_42, m_43, m_44, m_45, m_46, m_47, m_48, m_49, m_50, m_51, m_52, m_53, m_54, m_55, m_56, m_57, m_58, m_59])), (w0, .inl (K 0, 5500, .inl fw))] sz) := by
  refine Met.ofW (cc := cX12_change) (maxL := 4) (ret := (some .int)) (by decide +kernel) rfl ?_
  intro p e s m args below meth c s₁ B hml hv
  obtain ⟨rfl, hsz, hP, hK, hD0, hN⟩ := hv
  have hx := B.exec
  have hb := B.bytes
  have hr := B.returns
  have hts := atoms_spec (ws := wsX12_change) B.pre
  have hown : s.vm.findClass RX12 = some m.cls := findClass_of_methodNamed B.named
  have hlocks := B.notSynchronized
  subst hsz
  have hD := hD0.self (sz := s.heap.size)
  generalize hAe : va_A [(m0, .inr (12, [m_0, .int sta, m_2, .ref w0, m_4, m_5, m_6, m_7, m_8, m_9, m_10, m_11, m_12, m_13, m_14, m_15, m_16, m_17, m_18, m_19, m_20, m_21, m_22, m_23, m_24, m_25, m_26, m_27, m_28, m_29, m_30, m_31, m_32, m_33, m_34, m_35, m_36, m_37, m_38, m_39, m_40, m_41, m_42, m_43, m_44, m_45, m_46, m_47, m_48, m_49, m_50, m_51, m_52, m_53, m_54, m_55, m_56, m_57, m_58, m_59])), (w0, .inl (K 0, 5500, .inl fw))] s.heap.size = A at hD ⊢
  have hA : ∀ q : Nat, s.heap.size ≤ q → A q := fun q h => by rw [← hAe]; exact Or.inr h
  clear hAe
  have hS : va_S A s.heap s.heap [] := va_S.rf
  replace hP : va_P D vwCl [(m0, .inr (12, [m_0, .int sta, m_2, .ref w0, m_4, m_5, m_6, m_7, m_8, m_9, m_10, m_11, m_12, m_13, m_14, m_15, m_16, m_17, m_18, m_19, m_20, m_21, m_22, m_23, m_24, m_25, m_26, m_27, m_28, m_29, m_30, m_31, m_32, m_33, m_34, m_35, m_36, m_37, m_38, m_39, m_40, m_41, m_42, m_43, m_44, m_45, m_46, m_47, m_48, m_49, m_50, m_51, m_52, m_53, m_54, m_55, m_56, m_57, m_58, m_59])), (w0, .inl (K 0, 5500, .inl fw))] s.heap := hP
  have hl := lv_entry [.ref m0, .int x, .int y] (n := 4) (Nat.le_of_ble_eq_true rfl)
  rw [lg_entry_eq]
  generalize (lg_sl [.ref m0, .int x, .int y] ++ List.replicate (4 - (lg_sl [.ref m0, .int x, .int y]).length) Slot.unset).toArray = ls at hl ⊢
  have hl : lv_has ls 4 [(0, .ref m0), (1, .int x), (2, .int y)] := hl
  have hw12 : ∀ w ∈ wsX120, w ∈ wsX12_change := fun w h => (List.mem_cons_of_mem _ (List.mem_append_right _ h))
  generalize hQ : MQ below _ _ s _ _ _ = Q
  have hE := E_v_changeF.eq_def x y sta fw
  refine lv_aload_n hx hb dX12_change_0 rfl (lv_at hl 0 rfl) ?_
  refine va_get (ci := 12) (v := .ref w0) (C := RX12) (T := TX12) (N := 60) hx hb hts hw12 hown hK hP 0 rfl rfl 3 (by decide +kernel) (hts _ mm_X12_change_833) (fun _ h9 => h9) rfl dX12_change_1 ?_
  refine lv_iload_n hx hb dX12_change_4 rfl (lv_at hl 1 rfl) ?_
  refine va_iald hx hb hK hP 1 0 rfl rfl (i_in rfl (by omega)) dX12_change_5 ?_
  refine lv_topi (fun x_65 ex_65 => ?_)
  replace hE := hE.trans (Lt_in ex_65)
  have px_65 := RwOK.at zfw rfl (show 0 ≤ x.toInt ∧ x.toInt < 100 by omega)
  rw [← ex_65] at px_65
  refine lv_istore_n (lv' := [(3, .int x_65), (0, .ref m0), (1, .int x), (2, .int y)]) hx hb dX12_change_6 rfl hl (by decide +kernel) rfl (fun ls hl => ?_)
  refine lv_aload_n hx hb dX12_change_7 rfl (lv_at hl 1 rfl) ?_
  refine va_get (ci := 12) (v := .ref w0) (C := RX12) (T := TX12) (N := 60) hx hb hts hw12 hown hK hP 0 rfl rfl 3 (by decide +kernel) (hts _ mm_X12_change_833) (fun _ h9 => h9) rfl dX12_change_8 ?_
  refine lv_iload_n hx hb dX12_change_11 rfl (lv_at hl 2 rfl) ?_
  refine lv_iload_n hx hb dX12_change_12 rfl (lv_at hl 3 rfl) ?_
  refine va_iast hx hb hK hP hD hS 1 0 rfl rfl (i_in rfl (by omega)) dX12_change_13 (fun H locs hP0 hD0 hS0 => ?_)
  clear hP hD hS
  have hP := hP0
  have hD := hD0
  have hS := hS0
  clear hP0 hD0 hS0
  generalize hf_66 : (upd fw (x : Int32).toNatClampNeg y) = f_66 at hP hD
  replace hE := hE.trans (Lt_in hf_66.symm)
  have hf_66_0 : RwOK f_66 := by rw [← hf_66]; exact RwOK.upd zfw rfl (by omega) rfl (PR.eqi hpr (by omega) rfl)
  have hf_66_1 : FzM gr f_66 := by rw [← hf_66]; exact FzM.put zgr rfl (by omega)
  replace hP : va_P D vwCl [(m0, .inr (12, [m_0, .int sta, m_2, .ref w0, m_4, m_5, m_6, m_7, m_8, m_9, m_10, m_11, m_12, m_13, m_14, m_15, m_16, m_17, m_18, m_19, m_20, m_21, m_22, m_23, m_24, m_25, m_26, m_27, m_28, m_29, m_30, m_31, m_32, m_33, m_34, m_35, m_36, m_37, m_38, m_39, m_40, m_41, m_42, m_43, m_44, m_45, m_46, m_47, m_48, m_49, m_50, m_51, m_52, m_53, m_54, m_55, m_56, m_57, m_58, m_59])), (w0, .inl (K 0, 5500, .inl f_66))] H := hP
  replace hD : va_D A [(m0, .inr (12, [m_0, .int sta, m_2, .ref w0, m_4, m_5, m_6, m_7, m_8, m_9, m_10, m_11, m_12, m_13, m_14, m_15, m_16, m_17, m_18, m_19, m_20, m_21, m_22, m_23, m_24, m_25, m_26, m_27, m_28, m_29, m_30, m_31, m_32, m_33, m_34, m_35, m_36, m_37, m_38, m_39, m_40, m_41, m_42, m_43, m_44, m_45, m_46, m_47, m_48, m_49, m_50, m_51, m_52, m_53, m_54, m_55, m_56, m_57, m_58, m_59])), (w0, .inl (K 0, 5500, .inl f_66))] := hD
  refine lv_aload_n hx hb dX12_change_14 rfl (lv_at hl 1 rfl) ?_
  refine lv_iconst (v := 0) hx hb dX12_change_15 (by decide +kernel) ?_
  refine va_put (ci := 12) (v := .int 0) (ty := .int) (C := RX12) (T := TX12) (N := 60) hx hb hts hw12 tyX12 tyX12_ok nmX12 hown hK hP hD hS 0 rfl rfl 1 (by decide +kernel) (hts _ mm_X12_change_831) (fun _ h9 => h9) rfl (by decide +kernel) (by first | rfl | decide) (by first | rfl | decide) (Nat.le_of_ble_eq_true rfl) dX12_change_16 (fun H locs hP0 hD0 hS0 => ?_)
  clear hP hD hS
  have hP := hP0
  have hD := hD0
  have hS := hS0
  clear hP0 hD0 hS0
  replace hP : va_P D vwCl [(m0, .inr (12, [m_0, .int 0, m_2, .ref w0, m_4, m_5, m_6, m_7, m_8, m_9, m_10, m_11, m_12, m_13, m_14, m_15, m_16, m_17, m_18, m_19, m_20, m_21, m_22, m_23, m_24, m_25, m_26, m_27, m_28, m_29, m_30, m_31, m_32, m_33, m_34, m_35, m_36, m_37, m_38, m_39, m_40, m_41, m_42, m_43, m_44, m_45, m_46, m_47, m_48, m_49, m_50, m_51, m_52, m_53, m_54, m_55, m_56, m_57, m_58, m_59])), (w0, .inl (K 0, 5500, .inl f_66))] H := hP
  replace hD : va_D A [(m0, .inr (12, [m_0, .int 0, m_2, .ref w0, m_4, m_5, m_6, m_7, m_8, m_9, m_10, m_11, m_12, m_13, m_14, m_15, m_16, m_17, m_18, m_19, m_20, m_21, m_22, m_23, m_24, m_25, m_26, m_27, m_28, m_29, m_30, m_31, m_32, m_33, m_34, m_35, m_36, m_37, m_38, m_39, m_40, m_41, m_42, m_43, m_44, m_45, m_46, m_47, m_48, m_49, m_50, m_51, m_52, m_53, m_54, m_55, m_56, m_57, m_58, m_59])), (w0, .inl (K 0, 5500, .inl f_66))] := hD
  refine lv_iload_n hx hb dX12_change_19 rfl (lv_at hl 0 rfl) ?_
  rw [← hQ]
  have hP9 := hP.sub (ws' := [(m0, .inr (12, [m_0, .int 0, m_2, .ref w0, m_4, m_5, m_6, m_7, m_8, m_9, m_10, m_11, m_12, m_13, m_14, m_15, m_16, m_17, m_18, m_19, m_20, m_21, m_22, m_23, m_24, m_25, m_26, m_27, m_28, m_29, m_30, m_31, m_32, m_33, m_34, m_35, m_36, m_37, m_38, m_39, m_40, m_41, m_42, m_43, m_44, m_45, m_46, m_47, m_48, m_49, m_50, m_51, m_52, m_53, m_54, m_55, m_56, m_57, m_58, m_59])), (w0, .inl (K 0, 5500, .inl f_66))]) [0, 1] rfl
  have hD9 := hD.sub (ws' := [(m0, .inr (12, [m_0, .int 0, m_2, .ref w0, m_4, m_5, m_6, m_7, m_8, m_9, m_10, m_11, m_12, m_13, m_14, m_15, m_16, m_17, m_18, m_19, m_20, m_21, m_22, m_23, m_24, m_25, m_26, m_27, m_28, m_29, m_30, m_31, m_32, m_33, m_34, m_35, m_36, m_37, m_38, m_39, m_40, m_41, m_42, m_43, m_44, m_45, m_46, m_47, m_48, m_49, m_50, m_51, m_52, m_53, m_54, m_55, m_56, m_57, m_58, m_59])), (w0, .inl (K 0, 5500, .inl f_66))]) [0, 1] (by decide +kernel) rfl
  exact W.iret (v := x_65) hx hb hr (fun t ht hW => ⟨⟨x_65, ((fun _ => 0, fun i => match i with | _ => f_66, fun _ => fun _ => 0, fun _ => 0, fun _ => 0, fun _ => fun _ => none) : Su), rfl, ⟨hf_66_0, hf_66_1, hE.symm, trivial⟩, (⟨by rw [ht]; exact hP9, hD9⟩ : Wd D A _ t)⟩, hS.F ht⟩) hS.2.2 dX12_change_20
set_option maxRecDepth 100000 in
noncomputable def E_v_keepAll_l2 (x : Int32) (fw : Nat → Int32) (rec_232 : Int32 → (Nat → Int32) → ((Nat → Int32))) (v_214 : Int32) (f_215 : Nat → Int32) : (Nat → Int32) :=
  if 31 ≤ v_214 then ((f_215 : (Nat → Int32))) else (Lt (31 * x : Int32) (fun x_235 => Lt (x_235 + v_214 : Int32) (fun x_236 => Lt (4 + v_214 : Int32) (fun x_237 => Lt (fw (x_237 : Int32).toNatClampNeg : Int32) (fun x_238 => Lt (upd f_215 (x_236 : Int32).toNatClampNeg x_238 : Nat → Int32) (fun f_239 => Lt (v_214 + Int32.ofInt 1 : Int32) (fun x_240 => rec_232 x_240 f_239)))))))
set_option maxRecDepth 100000 in
noncomputable def E_v_keepAll (x : Int32) (fw : Nat → Int32) (fu : Nat → Int32) : (Nat → Int32) :=
  Lp (α := Int32 → (Nat → Int32) → ((Nat → Int32))) (E_v_keepAll_l2 x fw) (fun _ _ => ((fun _ => 0) : Nat → Int32)) ((32 - (0 : Int32).toInt : Int).toNat + 1) 0 fu
set_option maxHeartbeats 4000000 in
set_option maxRecDepth 100000 in
theorem v_keepAll (l : Launch) (D : va_G) (K : Nat → ClassId) (m0 : Nat) (x : Int32) (m_0 : Value) (m_1 : Value) (m_2 : Value) (w0 : Nat) (m_4 : Value) (m_5 : Value) (u0 : Nat) (m_7 : Value) (m_8 : Value) (m_9 : Value) (m_10 : Value) (m_11 : Value) (m_12 : Value) (m_13 : Value) (m_14 : Value) (m_15 : Value) (m_16 : Value) (m_17 : Value) (m_18 : Value) (m_19 : Value) (m_20 : Value) (m_21 : Value) (m_22 : Value) (m_23 : Value) (m_24 : Value) (m_25 : Value) (m_26 : Value) (m_27 : Value) (m_28 : Value) (m_29 : Value) (m_30 : Value) (m_31 : Value) (m_32 : Value) (m_33 : Value) (m_34 : Value) (m_35 : Value) (m_36 : Value) (m_37 : Value) (m_38 : Value) (m_39 : Value) (m_40 : Value) (m_41 : Value) (m_42 : Value) (m_43 : Value) (m_44 : Value) (m_45 : Value) (m_46 : Value) (m_47 : Value) (m_48 : Value) (m_49 : Value) (m_50 : Value) (m_51 : Value) (m_52 : Value) (m_53 : Value) (m_54 : Value) (m_55 : Value) (m_56 : Value) (m_57 : Value) (m_58 : Value) (m_59 : Value) (fw : Nat → Int32) (gr : Nat → Int32) (fu : Nat → Int32) (sz : Nat) (zx : 0 ≤ x.toInt ∧ x.toInt ≤ 17) (zfw : RwOK fw) (zgr : FzM gr fw) (zfu : Pu 558 fu) : Met l yX12_keepAll wsX12_keepAll ({ frames := 0, cells := 0, slots := 0, locals := 0 }) (va_Pc [.ref m0, .int x] (Pre D K [(m0, .inr (12, [m_0, m_1, m_2, .ref w0, m_4, m_5, .ref u0, m_7, m_8, m_9, m_10, m_11, m_12, m_13, m_14, m_15, m_16, m_17, m_18, m_19, m_20, m_21, m_22, m_23, m_24, m_25, m_26, m_27, m_28, m_29, m_30, m_31, m_32, m_33, m_34, m_35, m_36, m_37, m_38, m_39, m_40, m_41, m_42, m_43, m_44, m_45, m_46, m_47, m_48, m_49, m_50, m_51, m_52, m_53, m_54, m_55, m_56, m_57, m_58, m_59])), (w0, .inl (K 0, 5500, .inl fw)), (u0, .inl (K 0, 558, .inl fu))] sz)) (va_Qv (S := Su) (fun (u : Su) => (Pu 558 (u.2.1 0)) ∧ ((u.2.1 0) = E_v_keepAll x fw fu) ∧ True) (fun u t => Wd D (va_A [(m0, .inr (12, [m_0, m_1, m_2, .ref w0, m_4, m_5, .ref u0, m_7, m_8, m_9, m_10, m_11, m_12, m_13, m_14, m_15, m_16, m_17, m_18, m_19, m_20, m_21, m_22, m_23, m_24, m_25, m_26, m_27, m_28, m_29, m_30, m_31, m_32, m_33, m_34, m_35, m_36, m_37, m_38, m_39, m_40, m_41, m_42, m_43, m_44, m_45, m_46, m_47, m_48, m_49, m_50, m_51, m_52, m_53, m_54, m_55, m_56, m_57, m_58, m_59])), (w0, .inl (K 0, 5500, .inl fw)), (u0, .inl (K 0, 558, .inl fu))] sz) ((fun u => [(m0, .inr (12, [m_0, m_1, m_2, .ref w0, m_4, m_5, .ref u0, m_7, m_8, m_9, m_10, m_11, m_12, m_13, m_14, m_15, m_16, m_17, m_18, m_19, m_20, m_21, m_22, m_23, m_24, m_25, m_26, m_27, m_28, m_29, m_30, m_31, m_32, m_33, m_34, m_35, m_36, m_37, m_38, m_39, m_40, m_41, m_42, m_43, m_44, m_45, m_46, m_47, m_48, m_49, m_50, m_51, m_52, m_53, m_54, m_55, m_56, m_57, m_58, m_59])), (w0, .inl (K 0, 5500, .inl fw)), (u0, .inl (K 0, 558, .inl (u.2.1 0)))]) u) t) (va_A [(m0, .inr (12, [m_0, m_1, m_2, .ref w0, m_4, m_5, .ref u0, m_7, m_8, m_9, m_10, m_11, m_12, m_13, m_14, m_15, m_16, m_17, m_18, m_19, m_20, m_21, m_22, m_23, m_24, m_25, m_26, m_27, m_28, m_29, m_30, m_31, m_32, m_33, m_34, m_35, m_36, m_37, m_38, m_39, m_40, m_41, m_42, m_43, m_44, m_45, m_46, m_47, m_48, m_49, m_50, m_51, m_52, m_53, m_54, m_55, m_56, m_57, m_58, m_59])), (w0, .inl (K 0, 5500, .inl fw)), (u0, .inl (K 0, 558, .inl fu))] sz)) 0 0 (va_A [(m0, .inr (12, [m_0, m_1, m_2, .ref w0, m_4, m_5, .ref u0, m_7, m_8, m_9, m_10, m_11, m_12, m_13, m_14, m_15, m_16, m_17, m_18, m_19, m_20, m_21, m_22, m_23, m_24, m_25, m_26, m_27, m_28, m_29, m_30, m_31, m_32, m_33, m_34, m_35, m_36, m_37, m_38, m_39, m_40, m_41, m_42, m_43, m_44, m_45, m_46, m_47, m_48, m_49, m_50, m_51, m_52, m_53, m_54, m_55, m_56, m_57, m_58, m_59])), (w0, .inl (K 0, 5500, .inl fw)), (u0, .inl (K 0, 558, .inl fu))] sz) := by
  refine Met.ofW (cc := cX12_keepAll) (maxL := 3) (ret := none) (by decide +kernel) rfl ?_
  intro p e s m args below meth c s₁ B hml hv
  obtain ⟨rfl, hsz, hP, hK, hD0, hN⟩ := hv
  have hx := B.exec
  have hb := B.bytes
  have hr := B.returns
  have hts := atoms_spec (ws := wsX12_keepAll) B.pre
  have hown : s.vm.findClass RX12 = some m.cls := findClass_of_methodNamed B.named
  have hlocks := B.notSynchronized
  subst hsz
  have hD := hD0.self (sz := s.heap.size)
  generalize hAe : va_A [(m0, .inr (12, [m_0, m_1, m_2, .ref w0, m_4, m_5, .ref u0, m_7, m_8, m_9, m_10, m_11, m_12, m_13, m_14, m_15, m_16, m_17, m_18, m_19, m_20, m_21, m_22, m_23, m_24, m_25, m_26, m_27, m_28, m_29, m_30, m_31, m_32, m_33, m_34, m_35, m_36, m_37, m_38, m_39, m_40, m_41, m_42, m_43, m_44, m_45, m_46, m_47, m_48, m_49, m_50, m_51, m_52, m_53, m_54, m_55, m_56, m_57, m_58, m_59])), (w0, .inl (K 0, 5500, .inl fw)), (u0, .inl (K 0, 558, .inl fu))] s.heap.size = A at hD ⊢
  have hA : ∀ q : Nat, s.heap.size ≤ q → A q := fun q h => by rw [← hAe]; exact Or.inr h
  clear hAe
  have hS : va_S A s.heap s.heap [] := va_S.rf
  replace hP : va_P D vwCl [(m0, .inr (12, [m_0, m_1, m_2, .ref w0, m_4, m_5, .ref u0, m_7, m_8, m_9, m_10, m_11, m_12, m_13, m_14, m_15, m_16, m_17, m_18, m_19, m_20, m_21, m_22, m_23, m_24, m_25, m_26, m_27, m_28, m_29, m_30, m_31, m_32, m_33, m_34, m_35, m_36, m_37, m_38, m_39, m_40, m_41, m_42, m_43, m_44, m_45, m_46, m_47, m_48, m_49, m_50, m_51, m_52, m_53, m_54, m_55, m_56, m_57, m_58, m_59])), (w0, .inl (K 0, 5500, .inl fw)), (u0, .inl (K 0, 558, .inl fu))] s.heap := hP
  have hl := lv_entry [.ref m0, .int x] (n := 3) (Nat.le_of_ble_eq_true rfl)
  rw [lg_entry_eq]
  generalize (lg_sl [.ref m0, .int x] ++ List.replicate (3 - (lg_sl [.ref m0, .int x]).length) Slot.unset).toArray = ls at hl ⊢
  have hl : lv_has ls 3 [(0, .ref m0), (1, .int x)] := hl
  have hw12 : ∀ w ∈ wsX120, w ∈ wsX12_keepAll := fun w h => (List.mem_cons_of_mem _ (List.mem_append_right _ h))
  generalize hQ : MQ below _ _ s _ _ _ = Q
  have hE := E_v_keepAll.eq_def x fw fu
  refine lv_iconst (v := 0) hx hb dX12_keepAll_0 (by decide +kernel) ?_
  refine lv_istore_n (lv' := [(2, .int 0), (0, .ref m0), (1, .int x)]) hx hb dX12_keepAll_1 rfl hl (by decide +kernel) rfl (fun ls hl => ?_)
  have lp_232 : ∀ (nn_ : Nat) (v_214 : Int32) (f_215 : Nat → Int32) (hv_214 : 0 ≤ v_214.toInt ∧ v_214.toInt ≤ 31) (hf_215_0 : Pu 558 f_215) (hn : (32 - v_214.toInt : Int).toNat < nn_) (hE : E_v_keepAll x fw fu = Lp (α := Int32 → (Nat → Int32) → ((Nat → Int32))) (E_v_keepAll_l2 x fw) (fun _ _ => ((fun _ => 0) : Nat → Int32)) nn_ v_214 f_215) (H : Heap) (locs : List Loc) (hP : va_P D vwCl [(m0, .inr (12, [m_0, m_1, m_2, .ref w0, m_4, m_5, .ref u0, m_7, m_8, m_9, m_10, m_11, m_12, m_13, m_14, m_15, m_16, m_17, m_18, m_19, m_20, m_21, m_22, m_23, m_24, m_25, m_26, m_27, m_28, m_29, m_30, m_31, m_32, m_33, m_34, m_35, m_36, m_37, m_38, m_39, m_40, m_41, m_42, m_43, m_44, m_45, m_46, m_47, m_48, m_49, m_50, m_51, m_52, m_53, m_54, m_55, m_56, m_57, m_58, m_59])), (w0, .inl (K 0, 5500, .inl fw)), (u0, .inl (K 0, 558, .inl f_215))] H) (hD : va_D A [(m0, .inr (12, [m_0, m_1, m_2, .ref w0, m_4, m_5, .ref u0, m_7, m_8, m_9, m_10, m_11, m_12, m_13, m_14, m_15, m_16, m_17, m_18, m_19, m_20, m_21, m_22, m_23, m_24, m_25, m_26, m_27, m_28, m_29, m_30, m_31, m_32, m_33, m_34, m_35, m_36, m_37, m_38, m_39, m_40, m_41, m_42, m_43, m_44, m_45, m_46, m_47, m_48, m_49, m_50, m_51, m_52, m_53, m_54, m_55, m_56, m_57, m_58, m_59])), (w0, .inl (K 0, 5500, .inl fw)), (u0, .inl (K 0, 558, .inl f_215))]) (hS : va_S A s.heap H locs) (ls : Array Slot) (hl : lv_has ls 3 [(2, .int v_214), (0, .ref m0), (1, .int x)]), W p l e ({ frames := 0, cells := 0, slots := 0, locals := 0 }) s m (([.ref m0, .int x] : List Value).toArray) below meth c H locs 0 0 Q (F0 m 2 ls []) := by
    clear hE hP hD hS hl
    intro nn_
    induction nn_ with
    | zero =>
      intro v_214 f_215 hv_214 hf_215_0 hn hE H locs hP hD hS ls hl
      exact absurd hn (Nat.not_lt_zero _)
    | succ nn_ ih_233 =>
      intro v_214 f_215 hv_214 hf_215_0 hn hE H locs hP hD hS ls hl
      replace hE : E_v_keepAll x fw fu = E_v_keepAll_l2 x fw (Lp (α := Int32 → (Nat → Int32) → ((Nat → Int32))) (E_v_keepAll_l2 x fw) (fun _ _ => ((fun _ => 0) : Nat → Int32)) nn_) v_214 f_215 := hE
      obtain ⟨rec_232, hrec_232⟩ : ∃ z9, z9 = Lp (α := Int32 → (Nat → Int32) → ((Nat → Int32))) (E_v_keepAll_l2 x fw) (fun _ _ => ((fun _ => 0) : Nat → Int32)) nn_ := ⟨_, rfl⟩
      rw [← hrec_232] at hE
      replace hE := hE.trans (E_v_keepAll_l2.eq_def _ _ _ _ _)
      refine lv_iload_n hx hb dX12_keepAll_2 rfl (lv_at hl 0 rfl) ?_
      refine lv_bipush (v := 31) hx hb dX12_keepAll_3 (by decide +kernel) ?_
      refine lv_icmp_ge (tgt := 33) hx hb dX12_keepAll_5 (by decide +kernel) (fun c_234 => ?_) (fun c_234 => ?_)
      · have c_234i := i_le (x := 31) (y := v_214.toInt) rfl rfl c_234
        replace hE := hE.trans (if_pos c_234)
        rw [← hQ]
        have hP9 := hP.sub (ws' := [(m0, .inr (12, [m_0, m_1, m_2, .ref w0, m_4, m_5, .ref u0, m_7, m_8, m_9, m_10, m_11, m_12, m_13, m_14, m_15, m_16, m_17, m_18, m_19, m_20, m_21, m_22, m_23, m_24, m_25, m_26, m_27, m_28, m_29, m_30, m_31, m_32, m_33, m_34, m_35, m_36, m_37, m_38, m_39, m_40, m_41, m_42, m_43, m_44, m_45, m_46, m_47, m_48, m_49, m_50, m_51, m_52, m_53, m_54, m_55, m_56, m_57, m_58, m_59])), (w0, .inl (K 0, 5500, .inl fw)), (u0, .inl (K 0, 558, .inl f_215))]) [0, 1, 2] rfl
        have hD9 := hD.sub (ws' := [(m0, .inr (12, [m_0, m_1, m_2, .ref w0, m_4, m_5, .ref u0, m_7, m_8, m_9, m_10, m_11, m_12, m_13, m_14, m_15, m_16, m_17, m_18, m_19, m_20, m_21, m_22, m_23, m_24, m_25, m_26, m_27, m_28, m_29, m_30, m_31, m_32, m_33, m_34, m_35, m_36, m_37, m_38, m_39, m_40, m_41, m_42, m_43, m_44, m_45, m_46, m_47, m_48, m_49, m_50, m_51, m_52, m_53, m_54, m_55, m_56, m_57, m_58, m_59])), (w0, .inl (K 0, 5500, .inl fw)), (u0, .inl (K 0, 558, .inl f_215))]) [0, 1, 2] (by decide +kernel) rfl
        exact W.vret hx hb hr (fun t ht hW => ⟨⟨((fun _ => 0, fun i => match i with | _ => f_215, fun _ => fun _ => 0, fun _ => 0, fun _ => 0, fun _ => fun _ => none) : Su), rfl, ⟨hf_215_0, hE.symm, trivial⟩, (⟨by rw [ht]; exact hP9, hD9⟩ : Wd D A _ t)⟩, hS.F ht⟩) hS.2.2 dX12_keepAll_33
      · have c_234i := i_nle (x := 31) (y := v_214.toInt) rfl rfl c_234
        replace hE := hE.trans (if_neg c_234)
        refine lv_aload_n hx hb dX12_keepAll_8 rfl (lv_at hl 1 rfl) ?_
        refine va_get (ci := 12) (v := .ref u0) (C := RX12) (T := TX12) (N := 60) hx hb hts hw12 hown hK hP 0 rfl rfl 6 (by decide +kernel) (hts _ mm_X12_keepAll_836) (fun _ h9 => h9) rfl dX12_keepAll_9 ?_
        refine lv_bipush (v := 31) hx hb dX12_keepAll_12 (by decide +kernel) ?_
        refine lv_iload_n hx hb dX12_keepAll_14 rfl (lv_at hl 2 rfl) ?_
        refine lv_imul hx hb dX12_keepAll_15 ?_
        refine lv_topi (fun x_235 ex_235 => ?_)
        replace hE := hE.trans (Lt_in ex_235)
        have hx_235 : x_235.toInt = (31 * x.toInt) := by rw [ex_235]; exact i_mul (show (31 : Int32).toInt = 31 from rfl) rfl (by omega)
        refine lv_iload_n hx hb dX12_keepAll_16 rfl (lv_at hl 0 rfl) ?_
        refine lv_iadd hx hb dX12_keepAll_17 ?_
        refine lv_topi (fun x_236 ex_236 => ?_)
        replace hE := hE.trans (Lt_in ex_236)
        have hx_236 : x_236.toInt = ((31 * x.toInt) + v_214.toInt) := by rw [ex_236]; exact i_add hx_235 rfl (by omega)
        refine lv_aload_n hx hb dX12_keepAll_18 rfl (lv_at hl 1 rfl) ?_
        refine va_get (ci := 12) (v := .ref w0) (C := RX12) (T := TX12) (N := 60) hx hb hts hw12 hown hK hP 0 rfl rfl 3 (by decide +kernel) (hts _ mm_X12_keepAll_833) (fun _ h9 => h9) rfl dX12_keepAll_19 ?_
        refine lv_iconst (v := 4) hx hb dX12_keepAll_22 (by decide +kernel) ?_
        refine lv_iload_n hx hb dX12_keepAll_23 rfl (lv_at hl 0 rfl) ?_
        refine lv_iadd hx hb dX12_keepAll_24 ?_
        refine lv_topi (fun x_237 ex_237 => ?_)
        replace hE := hE.trans (Lt_in ex_237)
        have hx_237 : x_237.toInt = (4 + v_214.toInt) := by rw [ex_237]; exact i_add (show (4 : Int32).toInt = 4 from rfl) rfl (by omega)
        refine va_iald hx hb hK hP 1 0 rfl rfl (i_in hx_237 (by omega)) dX12_keepAll_25 ?_
        refine lv_topi (fun x_238 ex_238 => ?_)
        replace hE := hE.trans (Lt_in ex_238)
        have px_238 := RwOK.at zfw hx_237 (show 0 ≤ (4 + v_214.toInt) ∧ (4 + v_214.toInt) < 100 by omega)
        rw [← ex_238] at px_238
        refine va_iast hx hb hK hP hD hS 2 0 rfl rfl (i_in hx_236 (by omega)) dX12_keepAll_26 (fun H locs hP0 hD0 hS0 => ?_)
        clear hP hD hS
        have hP := hP0
        have hD := hD0
        have hS := hS0
        clear hP0 hD0 hS0
        generalize hf_239 : (upd f_215 (x_236 : Int32).toNatClampNeg x_238) = f_239 at hP hD
        replace hE := hE.trans (Lt_in hf_239.symm)
        have hf_239_0 : Pu 558 f_239 := by rw [← hf_239]; exact Pu.upd hf_215_0 hx_236 (by omega) rfl (PR.eqi px_238 (by omega) (by omega))
        replace hP : va_P D vwCl [(m0, .inr (12, [m_0, m_1, m_2, .ref w0, m_4, m_5, .ref u0, m_7, m_8, m_9, m_10, m_11, m_12, m_13, m_14, m_15, m_16, m_17, m_18, m_19, m_20, m_21, m_22, m_23, m_24, m_25, m_26, m_27, m_28, m_29, m_30, m_31, m_32, m_33, m_34, m_35, m_36, m_37, m_38, m_39, m_40, m_41, m_42, m_43, m_44, m_45, m_46, m_47, m_48, m_49, m_50, m_51, m_52, m_53, m_54, m_55, m_56, m_57, m_58, m_59])), (w0, .inl (K 0, 5500, .inl fw)), (u0, .inl (K 0, 558, .inl f_239))] H := hP
        replace hD : va_D A [(m0, .inr (12, [m_0, m_1, m_2, .ref w0, m_4, m_5, .ref u0, m_7, m_8, m_9, m_10, m_11, m_12, m_13, m_14, m_15, m_16, m_17, m_18, m_19, m_20, m_21, m_22, m_23, m_24, m_25, m_26, m_27, m_28, m_29, m_30, m_31, m_32, m_33, m_34, m_35, m_36, m_37, m_38, m_39, m_40, m_41, m_42, m_43, m_44, m_45, m_46, m_47, m_48, m_49, m_50, m_51, m_52, m_53, m_54, m_55, m_56, m_57, m_58, m_59])), (w0, .inl (K 0, 5500, .inl fw)), (u0, .inl (K 0, 558, .inl f_239))] := hD
        obtain ⟨x_240, ex_240⟩ : ∃ y : Int32, y = v_214 + Int32.ofInt 1 := ⟨_, rfl⟩
        replace hE := hE.trans (Lt_in ex_240)
        have hx_240 : x_240.toInt = (v_214.toInt + 1) := by rw [ex_240]; exact i_add rfl (show (Int32.ofInt 1).toInt = 1 from rfl) (by omega)
        refine lv_iinc (v := x_240) (lv' := [(2, .int x_240), (0, .ref m0), (1, .int x)]) hx hb dX12_keepAll_27 hl (k := 0) rfl (by rw [ex_240]) (by decide +kernel) rfl (fun ls hl => ?_)
        refine lv_goto (tgt := 2) hx hb dX12_keepAll_30 (by decide +kernel) ?_
        exact ih_233 x_240 f_239 (by rw [hx_240]; omega) hf_239_0 (by omega) (hE.trans (by rw [hrec_232])) _ _ hP hD hS ls (lv_sub hl [0, 1, 2] rfl)
  exact lp_232 ((32 - (0 : Int32).toInt : Int).toNat + 1) 0 fu (by decide +kernel) zfu (Nat.lt_succ_self _) hE _ _ hP hD hS ls (lv_sub hl [0, 1, 2] rfl)
set_option maxRecDepth 100000 in
noncomputable def E_v_putBack_l2 (x : Int32) (fu : Nat → Int32) (rec_232 : Int32 → (Nat → Int32) → ((Nat → Int32))) (v_214 : Int32) (f_215 : Nat → Int32) : (Nat → Int32) :=
  if 31 ≤ v_214 then ((f_215 : (Nat → Int32))) else (Lt (4 + v_214 : Int32) (fun x_235 => Lt (31 * x : Int32) (fun x_236 => Lt (x_236 + v_214 : Int32) (fun x_237 => Lt (fu (x_237 : Int32).toNatClampNeg : Int32) (fun x_238 => Lt (upd f_215 (x_235 : Int32).toNatClampNeg x_238 : Nat → Int32) (fun f_239 => Lt (v_214 + Int32.ofInt 1 : Int32) (fun x_240 => rec_232 x_240 f_239)))))))
set_option maxRecDepth 100000 in
noncomputable def E_v_putBack (x : Int32) (fw : Nat → Int32) (fu : Nat → Int32) : (Nat → Int32) :=
  Lp (α := Int32 → (Nat → Int32) → ((Nat → Int32))) (E_v_putBack_l2 x fu) (fun _ _ => ((fun _ => 0) : Nat → Int32)) ((32 - (0 : Int32).toInt : Int).toNat + 1) 0 fw
set_option maxHeartbeats 4000000 in
set_option maxRecDepth 100000 in
theorem v_putBack (l : Launch) (D : va_G) (K : Nat → ClassId) (m0 : Nat) (x : Int32) (m_0 : Value) (m_1 : Value) (m_2 : Value) (w0 : Nat) (m_4 : Value) (m_5 : Value) (u0 : Nat) (m_7 : Value) (m_8 : Value) (m_9 : Value) (m_10 : Value) (m_11 : Value) (m_12 : Value) (m_13 : Value) (m_14 : Value) (m_15 : Value) (m_16 : Value) (m_17 : Value) (m_18 : Value) (m_19 : Value) (m_20 : Value) (m_21 : Value) (m_22 : Value) (m_23 : Value) (m_24 : Value) (m_25 : Value) (m_26 : Value) (m_27 : Value) (m_28 : Value) (m_29 : Value) (m_30 : Value) (m_31 : Value) (m_32 : Value) (m_33 : Value) (m_34 : Value) (m_35 : Value) (m_36 : Value) (m_37 : Value) (m_38 : Value) (m_39 : Value) (m_40 : Value) (m_41 : Value) (m_42 : Value) (m_43 : Value) (m_44 : Value) (m_45 : Value) (m_46 : Value) (m_47 : Value) (m_48 : Value) (m_49 : Value) (m_50 : Value) (m_51 : Value) (m_52 : Value) (m_53 : Value) (m_54 : Value) (m_55 : Value) (m_56 : Value) (m_57 : Value) (m_58 : Value) (m_59 : Value) (fw : Nat → Int32) (gr : Nat → Int32) (fu : Nat → Int32) (sz : Nat) (zx : 0 ≤ x.toInt ∧ x.toInt ≤ 17) (zfw : RwOK fw) (zgr : FzM gr fw) (zfu : Pu 558 fu) : Met l yX12_putBack wsX12_putBack ({ frames := 0, cells := 0, slots := 0, locals := 0 }) (va_Pc [.ref m0, .int x] (Pre D K [(m0, .inr (12, [m_0, m_1, m_2, .ref w0, m_4, m_5, .ref u0, m_7, m_8, m_9, m_10, m_11, m_12, m_13, m_14, m_15, m_16, m_17, m_18, m_19, m_20, m_21, m_22, m_23, m_24, m_25, m_26, m_27, m_28, m_29, m_30, m_31, m_32, m_33, m_34, m_35, m_36, m_37, m_38, m_39, m_40, m_41, m_42, m_43, m_44, m_45, m_46, m_47, m_48, m_49, m_50, m_51, m_52, m_53, m_54, m_55, m_56, m_57, m_58, m_59])), (w0, .inl (K 0, 5500, .inl fw)), (u0, .inl (K 0, 558, .inl fu))] sz)) (va_Qv (S := Su) (fun (u : Su) => (RwOK (u.2.1 0)) ∧ (FzM gr (u.2.1 0)) ∧ ((u.2.1 0) = E_v_putBack x fw fu) ∧ True) (fun u t => Wd D (va_A [(m0, .inr (12, [m_0, m_1, m_2, .ref w0, m_4, m_5, .ref u0, m_7, m_8, m_9, m_10, m_11, m_12, m_13, m_14, m_15, m_16, m_17, m_18, m_19, m_20, m_21, m_22, m_23, m_24, m_25, m_26, m_27, m_28, m_29, m_30, m_31, m_32, m_33, m_34, m_35, m_36, m_37, m_38, m_39, m_40, m_41, m_42, m_43, m_44, m_45, m_46, m_47, m_48, m_49, m_50, m_51, m_52, m_53, m_54, m_55, m_56, m_57, m_58, m_59])), (w0, .inl (K 0, 5500, .inl fw)), (u0, .inl (K 0, 558, .inl fu))] sz) ((fun u => [(m0, .inr (12, [m_0, m_1, m_2, .ref w0, m_4, m_5, .ref u0, m_7, m_8, m_9, m_10, m_11, m_12, m_13, m_14, m_15, m_16, m_17, m_18, m_19, m_20, m_21, m_22, m_23, m_24, m_25, m_26, m_27, m_28, m_29, m_30, m_31, m_32, m_33, m_34, m_35, m_36, m_37, m_38, m_39, m_40, m_41, m_42, m_43, m_44, m_45, m_46, m_47, m_48, m_49, m_50, m_51, m_52, m_53, m_54, m_55, m_56, m_57, m_58, m_59])), (w0, .inl (K 0, 5500, .inl (u.2.1 0))), (u0, .inl (K 0, 558, .inl fu))]) u) t) (va_A [(m0, .inr (12, [m_0, m_1, m_2, .ref w0, m_4, m_5, .ref u0, m_7, m_8, m_9, m_10, m_11, m_12, m_13, m_14, m_15, m_16, m_17, m_18, m_19, m_20, m_21, m_22, m_23, m_24, m_25, m_26, m_27, m_28, m_29, m_30, m_31, m_32, m_33, m_34, m_35, m_36, m_37, m_38, m_39, m_40, m_41, m_42, m_43, m_44, m_45, m_46, m_47, m_48, m_49, m_50, m_51, m_52, m_53, m_54, m_55, m_56, m_57, m_58, m_59])), (w0, .inl (K 0, 5500, .inl fw)), (u0, .inl (K 0, 558, .inl fu))] sz)) 0 0 (va_A [(m0, .inr (12, [m_0, m_1, m_2, .ref w0, m_4, m_5, .ref u0, m_7, m_8, m_9, m_10, m_11, m_12, m_13, m_14, m_15, m_16, m_17, m_18, m_19, m_20, m_21, m_22, m_23, m_24, m_25, m_26, m_27, m_28, m_29, m_30, m_31, m_32, m_33, m_34, m_35, m_36, m_37, m_38, m_39, m_40, m_41, m_42, m_43, m_44, m_45, m_46, m_47, m_48, m_49, m_50, m_51, m_52, m_53, m_54, m_55, m_56, m_57, m_58, m_59])), (w0, .inl (K 0, 5500, .inl fw)), (u0, .inl (K 0, 558, .inl fu))] sz) := by
  refine Met.ofW (cc := cX12_putBack) (maxL := 3) (ret := none) (by decide +kernel) rfl ?_
  intro p e s m args below meth c s₁ B hml hv
  obtain ⟨rfl, hsz, hP, hK, hD0, hN⟩ := hv
  have hx := B.exec
  have hb := B.bytes
  have hr := B.returns
  have hts := atoms_spec (ws := wsX12_putBack) B.pre
  have hown : s.vm.findClass RX12 = some m.cls := findClass_of_methodNamed B.named
  have hlocks := B.notSynchronized
  subst hsz
  have hD := hD0.self (sz := s.heap.size)
  generalize hAe : va_A [(m0, .inr (12, [m_0, m_1, m_2, .ref w0, m_4, m_5, .ref u0, m_7, m_8, m_9, m_10, m_11, m_12, m_13, m_14, m_15, m_16, m_17, m_18, m_19, m_20, m_21, m_22, m_23, m_24, m_25, m_26, m_27, m_28, m_29, m_30, m_31, m_32, m_33, m_34, m_35, m_36, m_37, m_38, m_39, m_40, m_41, m_42, m_43, m_44, m_45, m_46, m_47, m_48, m_49, m_50, m_51, m_52, m_53, m_54, m_55, m_56, m_57, m_58, m_59])), (w0, .inl (K 0, 5500, .inl fw)), (u0, .inl (K 0, 558, .inl fu))] s.heap.size = A at hD ⊢
  have hA : ∀ q : Nat, s.heap.size ≤ q → A q := fun q h => by rw [← hAe]; exact Or.inr h
  clear hAe
  have hS : va_S A s.heap s.heap [] := va_S.rf
  replace hP : va_P D vwCl [(m0, .inr (12, [m_0, m_1, m_2, .ref w0, m_4, m_5, .ref u0, m_7, m_8, m_9, m_10, m_11, m_12, m_13, m_14, m_15, m_16, m_17, m_18, m_19, m_20, m_21, m_22, m_23, m_24, m_25, m_26, m_27, m_28, m_29, m_30, m_31, m_32, m_33, m_34, m_35, m_36, m_37, m_38, m_39, m_40, m_41, m_42, m_43, m_44, m_45, m_46, m_47, m_48, m_49, m_50, m_51, m_52, m_53, m_54, m_55, m_56, m_57, m_58, m_59])), (w0, .inl (K 0, 5500, .inl fw)), (u0, .inl (K 0, 558, .inl fu))] s.heap := hP
  have hl := lv_entry [.ref m0, .int x] (n := 3) (Nat.le_of_ble_eq_true rfl)
  rw [lg_entry_eq]
  generalize (lg_sl [.ref m0, .int x] ++ List.replicate (3 - (lg_sl [.ref m0, .int x]).length) Slot.unset).toArray = ls at hl ⊢
  have hl : lv_has ls 3 [(0, .ref m0), (1, .int x)] := hl
  have hw12 : ∀ w ∈ wsX120, w ∈ wsX12_putBack := fun w h => (List.mem_cons_of_mem _ (List.mem_append_right _ h))
  generalize hQ : MQ below _ _ s _ _ _ = Q
  have hE := E_v_putBack.eq_def x fw fu
  refine lv_iconst (v := 0) hx hb dX12_putBack_0 (by decide +kernel) ?_
  refine lv_istore_n (lv' := [(2, .int 0), (0, .ref m0), (1, .int x)]) hx hb dX12_putBack_1 rfl hl (by decide +kernel) rfl (fun ls hl => ?_)
  have lp_232 : ∀ (nn_ : Nat) (v_214 : Int32) (f_215 : Nat → Int32) (hv_214 : 0 ≤ v_214.toInt ∧ v_214.toInt ≤ 31) (hf_215_0 : RwOK f_215) (hf_215_1 : FzM gr f_215) (hn : (32 - v_214.toInt : Int).toNat < nn_) (hE : E_v_putBack x fw fu = Lp (α := Int32 → (Nat → Int32) → ((Nat → Int32))) (E_v_putBack_l2 x fu) (fun _ _ => ((fun _ => 0) : Nat → Int32)) nn_ v_214 f_215) (H : Heap) (locs : List Loc) (hP : va_P D vwCl [(m0, .inr (12, [m_0, m_1, m_2, .ref w0, m_4, m_5, .ref u0, m_7, m_8, m_9, m_10, m_11, m_12, m_13, m_14, m_15, m_16, m_17, m_18, m_19, m_20, m_21, m_22, m_23, m_24, m_25, m_26, m_27, m_28, m_29, m_30, m_31, m_32, m_33, m_34, m_35, m_36, m_37, m_38, m_39, m_40, m_41, m_42, m_43, m_44, m_45, m_46, m_47, m_48, m_49, m_50, m_51, m_52, m_53, m_54, m_55, m_56, m_57, m_58, m_59])), (w0, .inl (K 0, 5500, .inl f_215)), (u0, .inl (K 0, 558, .inl fu))] H) (hD : va_D A [(m0, .inr (12, [m_0, m_1, m_2, .ref w0, m_4, m_5, .ref u0, m_7, m_8, m_9, m_10, m_11, m_12, m_13, m_14, m_15, m_16, m_17, m_18, m_19, m_20, m_21, m_22, m_23, m_24, m_25, m_26, m_27, m_28, m_29, m_30, m_31, m_32, m_33, m_34, m_35, m_36, m_37, m_38, m_39, m_40, m_41, m_42, m_43, m_44, m_45, m_46, m_47, m_48, m_49, m_50, m_51, m_52, m_53, m_54, m_55, m_56, m_57, m_58, m_59])), (w0, .inl (K 0, 5500, .inl f_215)), (u0, .inl (K 0, 558, .inl fu))]) (hS : va_S A s.heap H locs) (ls : Array Slot) (hl : lv_has ls 3 [(2, .int v_214), (0, .ref m0), (1, .int x)]), W p l e ({ frames := 0, cells := 0, slots := 0, locals := 0 }) s m (([.ref m0, .int x] : List Value).toArray) below meth c H locs 0 0 Q (F0 m 2 ls []) := by
    clear hE hP hD hS hl
    intro nn_
    induction nn_ with
    | zero =>
      intro v_214 f_215 hv_214 hf_215_0 hf_215_1 hn hE H locs hP hD hS ls hl
      exact absurd hn (Nat.not_lt_zero _)
    | succ nn_ ih_233 =>
      intro v_214 f_215 hv_214 hf_215_0 hf_215_1 hn hE H locs hP hD hS ls hl
      replace hE : E_v_putBack x fw fu = E_v_putBack_l2 x fu (Lp (α := Int32 → (Nat → Int32) → ((Nat → Int32))) (E_v_putBack_l2 x fu) (fun _ _ => ((fun _ => 0) : Nat → Int32)) nn_) v_214 f_215 := hE
      obtain ⟨rec_232, hrec_232⟩ : ∃ z9, z9 = Lp (α := Int32 → (Nat → Int32) → ((Nat → Int32))) (E_v_putBack_l2 x fu) (fun _ _ => ((fun _ => 0) : Nat → Int32)) nn_ := ⟨_, rfl⟩
      rw [← hrec_232] at hE
      replace hE := hE.trans (E_v_putBack_l2.eq_def _ _ _ _ _)
      refine lv_iload_n hx hb dX12_putBack_2 rfl (lv_at hl 0 rfl) ?_
      refine lv_bipush (v := 31) hx hb dX12_putBack_3 (by decide +kernel) ?_
      refine lv_icmp_ge (tgt := 33) hx hb dX12_putBack_5 (by decide +kernel) (fun c_234 => ?_) (fun c_234 => ?_)
      · have c_234i := i_le (x := 31) (y := v_214.toInt) rfl rfl c_234
        replace hE := hE.trans (if_pos c_234)
        rw [← hQ]
        have hP9 := hP.sub (ws' := [(m0, .inr (12, [m_0, m_1, m_2, .ref w0, m_4, m_5, .ref u0, m_7, m_8, m_9, m_10, m_11, m_12, m_13, m_14, m_15, m_16, m_17, m_18, m_19, m_20, m_21, m_22, m_23, m_24, m_25, m_26, m_27, m_28, m_29, m_30, m_31, m_32, m_33, m_34, m_35, m_36, m_37, m_38, m_39, m_40, m_41, m_42, m_43, m_44, m_45, m_46, m_47, m_48, m_49, m_50, m_51, m_52, m_53, m_54, m_55, m_56, m_57, m_58, m_59])), (w0, .inl (K 0, 5500, .inl f_215)), (u0, .inl (K 0, 558, .inl fu))]) [0, 1, 2] rfl
        have hD9 := hD.sub (ws' := [(m0, .inr (12, [m_0, m_1, m_2, .ref w0, m_4, m_5, .ref u0, m_7, m_8, m_9, m_10, m_11, m_12, m_13, m_14, m_15, m_16, m_17, m_18, m_19, m_20, m_21, m_22, m_23, m_24, m_25, m_26, m_27, m_28, m_29, m_30, m_31, m_32, m_33, m_34, m_35, m_36, m_37, m_38, m_39, m_40, m_41, m_42, m_43, m_44, m_45, m_46, m_47, m_48, m_49, m_50, m_51, m_52, m_53, m_54, m_55, m_56, m_57, m_58, m_59])), (w0, .inl (K 0, 5500, .inl f_215)), (u0, .inl (K 0, 558, .inl fu))]) [0, 1, 2] (by decide +kernel) rfl
        exact W.vret hx hb hr (fun t ht hW => ⟨⟨((fun _ => 0, fun i => match i with | _ => f_215, fun _ => fun _ => 0, fun _ => 0, fun _ => 0, fun _ => fun _ => none) : Su), rfl, ⟨hf_215_0, hf_215_1, hE.symm, trivial⟩, (⟨by rw [ht]; exact hP9, hD9⟩ : Wd D A _ t)⟩, hS.F ht⟩) hS.2.2 dX12_putBack_33
      · have c_234i := i_nle (x := 31) (y := v_214.toInt) rfl rfl c_234
        replace hE := hE.trans (if_neg c_234)
        refine lv_aload_n hx hb dX12_putBack_8 rfl (lv_at hl 1 rfl) ?_
        refine va_get (ci := 12) (v := .ref w0) (C := RX12) (T := TX12) (N := 60) hx hb hts hw12 hown hK hP 0 rfl rfl 3 (by decide +kernel) (hts _ mm_X12_putBack_833) (fun _ h9 => h9) rfl dX12_putBack_9 ?_
        refine lv_iconst (v := 4) hx hb dX12_putBack_12 (by decide +kernel) ?_
        refine lv_iload_n hx hb dX12_putBack_13 rfl (lv_at hl 0 rfl) ?_
        refine lv_iadd hx hb dX12_putBack_14 ?_
        refine lv_topi (fun x_235 ex_235 => ?_)
        replace hE := hE.trans (Lt_in ex_235)
        have hx_235 : x_235.toInt = (4 + v_214.toInt) := by rw [ex_235]; exact i_add (show (4 : Int32).toInt = 4 from rfl) rfl (by omega)
        refine lv_aload_n hx hb dX12_putBack_15 rfl (lv_at hl 1 rfl) ?_
        refine va_get (ci := 12) (v := .ref u0) (C := RX12) (T := TX12) (N := 60) hx hb hts hw12 hown hK hP 0 rfl rfl 6 (by decide +kernel) (hts _ mm_X12_putBack_836) (fun _ h9 => h9) rfl dX12_putBack_16 ?_
        refine lv_bipush (v := 31) hx hb dX12_putBack_19 (by decide +kernel) ?_
        refine lv_iload_n hx hb dX12_putBack_21 rfl (lv_at hl 2 rfl) ?_
        refine lv_imul hx hb dX12_putBack_22 ?_
        refine lv_topi (fun x_236 ex_236 => ?_)
        replace hE := hE.trans (Lt_in ex_236)
        have hx_236 : x_236.toInt = (31 * x.toInt) := by rw [ex_236]; exact i_mul (show (31 : Int32).toInt = 31 from rfl) rfl (by omega)
        refine lv_iload_n hx hb dX12_putBack_23 rfl (lv_at hl 0 rfl) ?_
        refine lv_iadd hx hb dX12_putBack_24 ?_
        refine lv_topi (fun x_237 ex_237 => ?_)
        replace hE := hE.trans (Lt_in ex_237)
        have hx_237 : x_237.toInt = ((31 * x.toInt) + v_214.toInt) := by rw [ex_237]; exact i_add hx_236 rfl (by omega)
        refine va_iald hx hb hK hP 2 0 rfl rfl (i_in hx_237 (by omega)) dX12_putBack_25 ?_
        refine lv_topi (fun x_238 ex_238 => ?_)
        replace hE := hE.trans (Lt_in ex_238)
        have px_238 := Pu.at zfu hx_237 (show 0 ≤ ((31 * x.toInt) + v_214.toInt) ∧ ((31 * x.toInt) + v_214.toInt) < _ by omega)
        rw [← ex_238] at px_238
        refine va_iast hx hb hK hP hD hS 1 0 rfl rfl (i_in hx_235 (by omega)) dX12_putBack_26 (fun H locs hP0 hD0 hS0 => ?_)
        clear hP hD hS
        have hP := hP0
        have hD := hD0
        have hS := hS0
        clear hP0 hD0 hS0
        generalize hf_239 : (upd f_215 (x_235 : Int32).toNatClampNeg x_238) = f_239 at hP hD
        replace hE := hE.trans (Lt_in hf_239.symm)
        have hf_239_0 : RwOK f_239 := by rw [← hf_239]; exact RwOK.upd hf_215_0 hx_235 (by omega) rfl (PR.eqi px_238 (by omega) rfl)
        have hf_239_1 : FzM gr f_239 := by rw [← hf_239]; exact FzM.put hf_215_1 hx_235 (by omega)
        replace hP : va_P D vwCl [(m0, .inr (12, [m_0, m_1, m_2, .ref w0, m_4, m_5, .ref u0, m_7, m_8, m_9, m_10, m_11, m_12, m_13, m_14, m_15, m_16, m_17, m_18, m_19, m_20, m_21, m_22, m_23, m_24, m_25, m_26, m_27, m_28, m_29, m_30, m_31, m_32, m_33, m_34, m_35, m_36, m_37, m_38, m_39, m_40, m_41, m_42, m_43, m_44, m_45, m_46, m_47, m_48, m_49, m_50, m_51, m_52, m_53, m_54, m_55, m_56, m_57, m_58, m_59])), (w0, .inl (K 0, 5500, .inl f_239)), (u0, .inl (K 0, 558, .inl fu))] H := hP
        replace hD : va_D A [(m0, .inr (12, [m_0, m_1, m_2, .ref w0, m_4, m_5, .ref u0, m_7, m_8, m_9, m_10, m_11, m_12, m_13, m_14, m_15, m_16, m_17, m_18, m_19, m_20, m_21, m_22, m_23, m_24, m_25, m_26, m_27, m_28, m_29, m_30, m_31, m_32, m_33, m_34, m_35, m_36, m_37, m_38, m_39, m_40, m_41, m_42, m_43, m_44, m_45, m_46, m_47, m_48, m_49, m_50, m_51, m_52, m_53, m_54, m_55, m_56, m_57, m_58, m_59])), (w0, .inl (K 0, 5500, .inl f_239)), (u0, .inl (K 0, 558, .inl fu))] := hD
        obtain ⟨x_240, ex_240⟩ : ∃ y : Int32, y = v_214 + Int32.ofInt 1 := ⟨_, rfl⟩
        replace hE := hE.trans (Lt_in ex_240)
        have hx_240 : x_240.toInt = (v_214.toInt + 1) := by rw [ex_240]; exact i_add rfl (show (Int32.ofInt 1).toInt = 1 from rfl) (by omega)
        refine lv_iinc (v := x_240) (lv' := [(2, .int x_240), (0, .ref m0), (1, .int x)]) hx hb dX12_putBack_27 hl (k := 0) rfl (by rw [ex_240]) (by decide +kernel) rfl (fun ls hl => ?_)
        refine lv_goto (tgt := 2) hx hb dX12_putBack_30 (by decide +kernel) ?_
        exact ih_233 x_240 f_239 (by rw [hx_240]; omega) hf_239_0 hf_239_1 (by omega) (hE.trans (by rw [hrec_232])) _ _ hP hD hS ls (lv_sub hl [0, 1, 2] rfl)
  exact lp_232 ((32 - (0 : Int32).toInt : Int).toNat + 1) 0 fw (by decide +kernel) zfw zgr (Nat.lt_succ_self _) hE _ _ hP hD hS ls (lv_sub hl [0, 1, 2] rfl)
set_option maxRecDepth 100000 in
noncomputable def E_v_remember_j77 (x : Int32) (fw : Nat → Int32) (v_563 : Int32) (f_564 : Nat → Int32) (f_565 : Nat → Int32) : Int32 × (Nat → Int32) × (Nat → Int32) :=
  Lt (E_v_keepAll v_563 fw f_564) (fun u_574_2_1_0 => Lt (upd f_565 (v_563 : Int32).toNatClampNeg x : Nat → Int32) (fun f_577 => Lt (v_563 + 1 : Int32) (fun x_578 => ((x_578, u_574_2_1_0, f_577) : Int32 × (Nat → Int32) × (Nat → Int32)))))
set_option maxRecDepth 100000 in
noncomputable def E_v_remember_l41 (x : Int32) (nu : Int32) (fw : Nat → Int32) (f_606 : Nat → Int32) (rec_661 : Int32 → (Nat → Int32) → (Int32 × (Nat → Int32) × (Nat → Int32))) (v_647 : Int32) (f_648 : Nat → Int32) : Int32 × (Nat → Int32) × (Nat → Int32) :=
  if 15 ≤ v_647 then (Lt (nu - 1 : Int32) (fun x_664 => E_v_remember_j77 x fw x_664 f_606 f_648)) else (Lt (v_647 + 1 : Int32) (fun x_665 => Lt (f_648 (x_665 : Int32).toNatClampNeg : Int32) (fun x_666 => Lt (upd f_648 (v_647 : Int32).toNatClampNeg x_666 : Nat → Int32) (fun f_667 => Lt (v_647 + Int32.ofInt 1 : Int32) (fun x_668 => rec_661 x_668 f_667)))))
set_option maxRecDepth 100000 in
noncomputable def E_v_remember_l11 (x : Int32) (nu : Int32) (fw : Nat → Int32) (fs : Nat → Int32) (rec_619 : Int32 → (Nat → Int32) → (Int32 × (Nat → Int32) × (Nat → Int32))) (v_605 : Int32) (f_606 : Nat → Int32) : Int32 × (Nat → Int32) × (Nat → Int32) :=
  if 465 ≤ v_605 then (Lp (α := Int32 → (Nat → Int32) → (Int32 × (Nat → Int32) × (Nat → Int32))) (E_v_remember_l41 x nu fw f_606) (fun _ _ => ((0, fun _ => 0, fun _ => 0) : Int32 × (Nat → Int32) × (Nat → Int32))) ((16 - (0 : Int32).toInt : Int).toNat + 1) 0 fs) else (Lt (v_605 + 31 : Int32) (fun x_669 => Lt (f_606 (x_669 : Int32).toNatClampNeg : Int32) (fun x_670 => Lt (upd f_606 (v_605 : Int32).toNatClampNeg x_670 : Nat → Int32) (fun f_671 => Lt (v_605 + Int32.ofInt 1 : Int32) (fun x_672 => rec_619 x_672 f_671)))))
set_option maxRecDepth 100000 in
noncomputable def E_v_remember (x : Int32) (nu : Int32) (fw : Nat → Int32) (fu : Nat → Int32) (fs : Nat → Int32) : Int32 × (Nat → Int32) × (Nat → Int32) :=
  if nu = 16 then (Lp (α := Int32 → (Nat → Int32) → (Int32 × (Nat → Int32) × (Nat → Int32))) (E_v_remember_l11 x nu fw fs) (fun _ _ => ((0, fun _ => 0, fun _ => 0) : Int32 × (Nat → Int32) × (Nat → Int32))) ((466 - (0 : Int32).toInt : Int).toNat + 1) 0 fu) else (E_v_remember_j77 x fw nu fu fs)
set_option maxHeartbeats 4000000 in
set_option maxRecDepth 100000 in
theorem v_remember (l : Launch) (D : va_G) (K : Nat → ClassId) (m0 : Nat) (x : Int32) (m_0 : Value) (m_1 : Value) (m_2 : Value) (w0 : Nat) (m_4 : Value) (m_5 : Value) (u0 : Nat) (s0 : Nat) (nu : Int32) (m_9 : Value) (m_10 : Value) (m_11 : Value) (m_12 : Value) (m_13 : Value) (m_14 : Value) (m_15 : Value) (m_16 : Value) (m_17 : Value) (m_18 : Value) (m_19 : Value) (m_20 : Value) (m_21 : Value) (m_22 : Value) (m_23 : Value) (m_24 : Value) (m_25 : Value) (m_26 : Value) (m_27 : Value) (m_28 : Value) (m_29 : Value) (m_30 : Value) (m_31 : Value) (m_32 : Value) (m_33 : Value) (m_34 : Value) (m_35 : Value) (m_36 : Value) (m_37 : Value) (m_38 : Value) (m_39 : Value) (m_40 : Value) (m_41 : Value) (m_42 : Value) (m_43 : Value) (m_44 : Value) (m_45 : Value) (m_46 : Value) (m_47 : Value) (m_48 : Value) (m_49 : Value) (m_50 : Value) (m_51 : Value) (m_52 : Value) (m_53 : Value) (m_54 : Value) (m_55 : Value) (m_56 : Value) (m_57 : Value) (m_58 : Value) (m_59 : Value) (fw : Nat → Int32) (gr : Nat → Int32) (fu : Nat → Int32) (fs : Nat → Int32) (sz : Nat) (zx : 0 ≤ x.toInt ∧ x.toInt ≤ 3) (znu : 0 ≤ nu.toInt ∧ nu.toInt ≤ 16) (zfw : RwOK fw) (zgr : FzM gr fw) (zfu : Pu 558 fu) (zfs : Rg 16 0 3 fs) : Met l yX12_remember wsX12_remember ({ frames := 1, cells := 0, slots := 0, locals := 22 }) (va_Pc [.ref m0, .int x] (Pre D K [(m0, .inr (12, [m_0, m_1, m_2, .ref w0, m_4, m_5, .ref u0, .ref s0, .int nu, m_9, m_10, m_11, m_12, m_13, m_14, m_15, m_16, m_17, m_18, m_19, m_20, m_21, m_22, m_23, m_24, m_25, m_26, m_27, m_28, m_29, m_30, m_31, m_32, m_33, m_34, m_35, m_36, m_37, m_38, m_39, m_40, m_41, m_42, m_43, m_44, m_45, m_46, m_47, m_48, m_49, m_50, m_51, m_52, m_53, m_54, m_55, m_56, m_57, m_58, m_59])), (w0, .inl (K 0, 5500, .inl fw)), (u0, .inl (K 0, 558, .inl fu)), (s0, .inl (K 0, 16, .inl fs))] sz)) (va_Qv (S := Su) (fun (u : Su) => (1 ≤ (u.2.2.2.1 0).toInt ∧ (u.2.2.2.1 0).toInt ≤ 16) ∧ (Pu 558 (u.2.1 0)) ∧ (Rg 16 0 3 (u.2.1 1)) ∧ (((u.2.2.2.1 0), (u.2.1 0), (u.2.1 1)) = E_v_remember x nu fw fu fs) ∧ True) (fun u t => Wd D (va_A [(m0, .inr (12, [m_0, m_1, m_2, .ref w0, m_4, m_5, .ref u0, .ref s0, .int nu, m_9, m_10, m_11, m_12, m_13, m_14, m_15, m_16, m_17, m_18, m_19, m_20, m_21, m_22, m_23, m_24, m_25, m_26, m_27, m_28, m_29, m_30, m_31, m_32, m_33, m_34, m_35, m_36, m_37, m_38, m_39, m_40, m_41, m_42, m_43, m_44, m_45, m_46, m_47, m_48, m_49, m_50, m_51, m_52, m_53, m_54, m_55, m_56, m_57, m_58, m_59])), (w0, .inl (K 0, 5500, .inl fw)), (u0, .inl (K 0, 558, .inl fu)), (s0, .inl (K 0, 16, .inl fs))] sz) ((fun u => [(m0, .inr (12, [m_0, m_1, m_2, .ref w0, m_4, m_5, .ref u0, .ref s0, .int (u.2.2.2.1 0), m_9, m_10, m_11, m_12, m_13, m_14, m_15, m_16, m_17, m_18, m_19, m_20, m_21, m_22, m_23, m_24, m_25, m_26, m_27, m_28, m_29, m_30, m_31, m_32, m_33, m_34, m_35, m_36, m_37, m_38, m_39, m_40, m_41, m_42, m_43, m_44, m_45, m_46, m_47, m_48, m_49, m_50, m_51, m_52, m_53, m_54, m_55, m_56, m_57, m_58, m_59])), (w0, .inl (K 0, 5500, .inl fw)), (u0, .inl (K 0, 558, .inl (u.2.1 0))), (s0, .inl (K 0, 16, .inl (u.2.1 1)))]) u) t) (va_A [(m0, .inr (12, [m_0, m_1, m_2, .ref w0, m_4, m_5, .ref u0, .ref s0, .int nu, m_9, m_10, m_11, m_12, m_13, m_14, m_15, m_16, m_17, m_18, m_19, m_20, m_21, m_22, m_23, m_24, m_25, m_26, m_27, m_28, m_29, m_30, m_31, m_32, m_33, m_34, m_35, m_36, m_37, m_38, m_39, m_40, m_41, m_42, m_43, m_44, m_45, m_46, m_47, m_48, m_49, m_50, m_51, m_52, m_53, m_54, m_55, m_56, m_57, m_58, m_59])), (w0, .inl (K 0, 5500, .inl fw)), (u0, .inl (K 0, 558, .inl fu)), (s0, .inl (K 0, 16, .inl fs))] sz)) 0 0 (va_A [(m0, .inr (12, [m_0, m_1, m_2, .ref w0, m_4, m_5, .ref u0, .ref s0, .int nu, m_9, m_10, m_11, m_12, m_13, m_14, m_15, m_16, m_17, m_18, m_19, m_20, m_21, m_22, m_23, m_24, m_25, m_26, m_27, m_28, m_29, m_30, m_31, m_32, m_33, m_34, m_35, m_36, m_37, m_38, m_39, m_40, m_41, m_42, m_43, m_44, m_45, m_46, m_47, m_48, m_49, m_50, m_51, m_52, m_53, m_54, m_55, m_56, m_57, m_58, m_59])), (w0, .inl (K 0, 5500, .inl fw)), (u0, .inl (K 0, 558, .inl fu)), (s0, .inl (K 0, 16, .inl fs))] sz) := by
  refine Met.ofW (cc := cX12_remember) (maxL := 3) (ret := none) (by decide +kernel) rfl ?_
  intro p e s m args below meth c s₁ B hml hv
  obtain ⟨rfl, hsz, hP, hK, hD0, hN⟩ := hv
  have hx := B.exec
  have hb := B.bytes
  have hr := B.returns
  have hts := atoms_spec (ws := wsX12_remember) B.pre
  have hown : s.vm.findClass RX12 = some m.cls := findClass_of_methodNamed B.named
  have hlocks := B.notSynchronized
  subst hsz
  have hD := hD0.self (sz := s.heap.size)
  generalize hAe : va_A [(m0, .inr (12, [m_0, m_1, m_2, .ref w0, m_4, m_5, .ref u0, .ref s0, .int nu, m_9, m_10, m_11, m_12, m_13, m_14, m_15, m_16, m_17, m_18, m_19, m_20, m_21, m_22, m_23, m_24, m_25, m_26, m_27, m_28, m_29, m_30, m_31, m_32, m_33, m_34, m_35, m_36, m_37, m_38, m_39, m_40, m_41, m_42, m_43, m_44, m_45, m_46, m_47, m_48, m_49, m_50, m_51, m_52, m_53, m_54, m_55, m_56, m_57, m_58, m_59])), (w0, .inl (K 0, 5500, .inl fw)), (u0, .inl (K 0, 558, .inl fu)), (s0, .inl (K 0, 16, .inl fs))] s.heap.size = A at hD ⊢
  have hA : ∀ q : Nat, s.heap.size ≤ q → A q := fun q h => by rw [← hAe]; exact Or.inr h
  clear hAe
  have hS : va_S A s.heap s.heap [] := va_S.rf
  replace hP : va_P D vwCl [(m0, .inr (12, [m_0, m_1, m_2, .ref w0, m_4, m_5, .ref u0, .ref s0, .int nu, m_9, m_10, m_11, m_12, m_13, m_14, m_15, m_16, m_17, m_18, m_19, m_20, m_21, m_22, m_23, m_24, m_25, m_26, m_27, m_28, m_29, m_30, m_31, m_32, m_33, m_34, m_35, m_36, m_37, m_38, m_39, m_40, m_41, m_42, m_43, m_44, m_45, m_46, m_47, m_48, m_49, m_50, m_51, m_52, m_53, m_54, m_55, m_56, m_57, m_58, m_59])), (w0, .inl (K 0, 5500, .inl fw)), (u0, .inl (K 0, 558, .inl fu)), (s0, .inl (K 0, 16, .inl fs))] s.heap := hP
  have hl := lv_entry [.ref m0, .int x] (n := 3) (Nat.le_of_ble_eq_true rfl)
  rw [lg_entry_eq]
  generalize (lg_sl [.ref m0, .int x] ++ List.replicate (3 - (lg_sl [.ref m0, .int x]).length) Slot.unset).toArray = ls at hl ⊢
  have hl : lv_has ls 3 [(0, .ref m0), (1, .int x)] := hl
  have hw12 : ∀ w ∈ wsX120, w ∈ wsX12_remember := fun w h => (List.mem_cons_of_mem _ (List.mem_append_right _ h))
  generalize hQ : MQ below _ _ s _ _ _ = Q
  have hE := E_v_remember.eq_def x nu fw fu fs
  refine lv_aload_n hx hb dX12_remember_0 rfl (lv_at hl 0 rfl) ?_
  refine va_get (ci := 12) (v := .int nu) (C := RX12) (T := TX12) (N := 60) hx hb hts hw12 hown hK hP 0 rfl rfl 8 (by decide +kernel) (hts _ mm_X12_remember_838) (fun _ h9 => h9) rfl dX12_remember_1 ?_
  refine lv_bipush (v := 16) hx hb dX12_remember_4 (by decide +kernel) ?_
  have j_572 : ∀ (v_563 : Int32) (f_564 : Nat → Int32) (f_565 : Nat → Int32) (hv_563 : 0 ≤ v_563.toInt ∧ v_563.toInt ≤ 15) (hf_564_0 : Pu 558 f_564) (hf_565_0 : Rg 16 0 3 f_565) (hE : E_v_remember x nu fw fu fs = E_v_remember_j77 x fw v_563 f_564 f_565) (H : Heap) (locs : List Loc) (hP : va_P D vwCl [(m0, .inr (12, [m_0, m_1, m_2, .ref w0, m_4, m_5, .ref u0, .ref s0, .int v_563, m_9, m_10, m_11, m_12, m_13, m_14, m_15, m_16, m_17, m_18, m_19, m_20, m_21, m_22, m_23, m_24, m_25, m_26, m_27, m_28, m_29, m_30, m_31, m_32, m_33, m_34, m_35, m_36, m_37, m_38, m_39, m_40, m_41, m_42, m_43, m_44, m_45, m_46, m_47, m_48, m_49, m_50, m_51, m_52, m_53, m_54, m_55, m_56, m_57, m_58, m_59])), (w0, .inl (K 0, 5500, .inl fw)), (u0, .inl (K 0, 558, .inl f_564)), (s0, .inl (K 0, 16, .inl f_565))] H) (hD : va_D A [(m0, .inr (12, [m_0, m_1, m_2, .ref w0, m_4, m_5, .ref u0, .ref s0, .int v_563, m_9, m_10, m_11, m_12, m_13, m_14, m_15, m_16, m_17, m_18, m_19, m_20, m_21, m_22, m_23, m_24, m_25, m_26, m_27, m_28, m_29, m_30, m_31, m_32, m_33, m_34, m_35, m_36, m_37, m_38, m_39, m_40, m_41, m_42, m_43, m_44, m_45, m_46, m_47, m_48, m_49, m_50, m_51, m_52, m_53, m_54, m_55, m_56, m_57, m_58, m_59])), (w0, .inl (K 0, 5500, .inl fw)), (u0, .inl (K 0, 558, .inl f_564)), (s0, .inl (K 0, 16, .inl f_565))]) (hS : va_S A s.heap H locs) (ls : Array Slot) (hl : lv_has ls 3 [(0, .ref m0), (1, .int x)]), W p l e ({ frames := 1, cells := 0, slots := 0, locals := 22 }) s m (([.ref m0, .int x] : List Value).toArray) below meth c H locs 0 0 Q (F0 m 77 ls []) := by
    clear hE hP hD hS hl
    intro v_563 f_564 f_565 hv_563 hf_564_0 hf_565_0 hE H locs hP hD hS ls hl
    replace hE := hE.trans (E_v_remember_j77.eq_def _ _ _ _ _)
    refine lv_aload_n hx hb dX12_remember_77 rfl (lv_at hl 0 rfl) ?_
    refine lv_aload_n hx hb dX12_remember_78 rfl (lv_at hl 0 rfl) ?_
    refine va_get (ci := 12) (v := .int v_563) (C := RX12) (T := TX12) (N := 60) hx hb hts hw12 hown hK hP 0 rfl rfl 8 (by decide +kernel) (hts _ mm_X12_remember_838) (fun _ h9 => h9) rfl dX12_remember_79 ?_
    refine kcv (S := Su) (wr := [(s0, .inl (K 0, 16, .inl f_565))]) (va_runV (As := [.int v_563]) (rest := []) ⟨hx, hb, hml, hown, hts⟩ (v_keepAll l D K m0 v_563 m_0 m_1 m_2 w0 m_4 m_5 u0 (.ref s0) (.int v_563) m_9 m_10 m_11 m_12 m_13 m_14 m_15 m_16 m_17 m_18 m_19 m_20 m_21 m_22 m_23 m_24 m_25 m_26 m_27 m_28 m_29 m_30 m_31 m_32 m_33 m_34 m_35 m_36 m_37 m_38 m_39 m_40 m_41 m_42 m_43 m_44 m_45 m_46 m_47 m_48 m_49 m_50 m_51 m_52 m_53 m_54 m_55 m_56 m_57 m_58 m_59 fw gr f_564 H.size (by first | omega | decide) zfw zgr hf_564_0) (cwV 1 hts gX12_remember_X12_keepAll rfl rfl rfl (by decide +kernel) ⟨Nat.le_of_ble_eq_true rfl, Nat.le_of_ble_eq_true rfl⟩) (mkV hK hN (hP.sub [0, 1, 2] rfl) (hD.sub [0, 1, 2] (by decide +kernel) rfl) (ci := 12) (q0 := 0) rfl rfl) rfl rfl hl.1 rfl (lv_room (Nat.le_of_ble_eq_true rfl)) dX12_remember_82 ⟨Nat.le_of_ble_eq_true rfl, Nat.le_of_ble_eq_true rfl⟩) hP hD hS hA [0, 1, 2] [3] rfl rfl (by decide +kernel) (by decide +kernel) (fun u_574 H locs hw hP0 hD0 hS0 => ?_)
    clear hP hD hS
    have hP := hP0
    have hD := hD0
    have hS := hS0
    clear hP0 hD0 hS0
    replace hP : va_P D vwCl [(s0, .inl (K 0, 16, .inl f_565)), (m0, .inr (12, [m_0, m_1, m_2, .ref w0, m_4, m_5, .ref u0, .ref s0, .int v_563, m_9, m_10, m_11, m_12, m_13, m_14, m_15, m_16, m_17, m_18, m_19, m_20, m_21, m_22, m_23, m_24, m_25, m_26, m_27, m_28, m_29, m_30, m_31, m_32, m_33, m_34, m_35, m_36, m_37, m_38, m_39, m_40, m_41, m_42, m_43, m_44, m_45, m_46, m_47, m_48, m_49, m_50, m_51, m_52, m_53, m_54, m_55, m_56, m_57, m_58, m_59])), (w0, .inl (K 0, 5500, .inl fw)), (u0, .inl (K 0, 558, .inl (u_574.2.1 0)))] H := hP
    replace hD : va_D A [(s0, .inl (K 0, 16, .inl f_565)), (m0, .inr (12, [m_0, m_1, m_2, .ref w0, m_4, m_5, .ref u0, .ref s0, .int v_563, m_9, m_10, m_11, m_12, m_13, m_14, m_15, m_16, m_17, m_18, m_19, m_20, m_21, m_22, m_23, m_24, m_25, m_26, m_27, m_28, m_29, m_30, m_31, m_32, m_33, m_34, m_35, m_36, m_37, m_38, m_39, m_40, m_41, m_42, m_43, m_44, m_45, m_46, m_47, m_48, m_49, m_50, m_51, m_52, m_53, m_54, m_55, m_56, m_57, m_58, m_59])), (w0, .inl (K 0, 5500, .inl fw)), (u0, .inl (K 0, 558, .inl (u_574.2.1 0)))] := hD
    obtain ⟨k_575, k_576, -⟩ := hw
    replace hE := hE.trans (Lt_in k_576)
    refine lv_aload_n hx hb dX12_remember_85 rfl (lv_at hl 0 rfl) ?_
    refine va_get (ci := 12) (v := .ref s0) (C := RX12) (T := TX12) (N := 60) hx hb hts hw12 hown hK hP 1 rfl rfl 7 (by decide +kernel) (hts _ mm_X12_remember_837) (fun _ h9 => h9) rfl dX12_remember_86 ?_
    refine lv_aload_n hx hb dX12_remember_89 rfl (lv_at hl 0 rfl) ?_
    refine va_get (ci := 12) (v := .int v_563) (C := RX12) (T := TX12) (N := 60) hx hb hts hw12 hown hK hP 1 rfl rfl 8 (by decide +kernel) (hts _ mm_X12_remember_838) (fun _ h9 => h9) rfl dX12_remember_90 ?_
    refine lv_iload_n hx hb dX12_remember_93 rfl (lv_at hl 1 rfl) ?_
    refine va_iast hx hb hK hP hD hS 0 0 rfl rfl (i_in rfl (by omega)) dX12_remember_94 (fun H locs hP0 hD0 hS0 => ?_)
    clear hP hD hS
    have hP := hP0
    have hD := hD0
    have hS := hS0
    clear hP0 hD0 hS0
    generalize hf_577 : (upd f_565 (v_563 : Int32).toNatClampNeg x) = f_577 at hP hD
    replace hE := hE.trans (Lt_in hf_577.symm)
    have hf_577_0 : Rg 16 0 3 f_577 := by rw [← hf_577]; exact Rg.upd hf_565_0 rfl (by omega)
    replace hP : va_P D vwCl [(s0, .inl (K 0, 16, .inl f_577)), (m0, .inr (12, [m_0, m_1, m_2, .ref w0, m_4, m_5, .ref u0, .ref s0, .int v_563, m_9, m_10, m_11, m_12, m_13, m_14, m_15, m_16, m_17, m_18, m_19, m_20, m_21, m_22, m_23, m_24, m_25, m_26, m_27, m_28, m_29, m_30, m_31, m_32, m_33, m_34, m_35, m_36, m_37, m_38, m_39, m_40, m_41, m_42, m_43, m_44, m_45, m_46, m_47, m_48, m_49, m_50, m_51, m_52, m_53, m_54, m_55, m_56, m_57, m_58, m_59])), (w0, .inl (K 0, 5500, .inl fw)), (u0, .inl (K 0, 558, .inl (u_574.2.1 0)))] H := hP
    replace hD : va_D A [(s0, .inl (K 0, 16, .inl f_577)), (m0, .inr (12, [m_0, m_1, m_2, .ref w0, m_4, m_5, .ref u0, .ref s0, .int v_563, m_9, m_10, m_11, m_12, m_13, m_14, m_15, m_16, m_17, m_18, m_19, m_20, m_21, m_22, m_23, m_24, m_25, m_26, m_27, m_28, m_29, m_30, m_31, m_32, m_33, m_34, m_35, m_36, m_37, m_38, m_39, m_40, m_41, m_42, m_43, m_44, m_45, m_46, m_47, m_48, m_49, m_50, m_51, m_52, m_53, m_54, m_55, m_56, m_57, m_58, m_59])), (w0, .inl (K 0, 5500, .inl fw)), (u0, .inl (K 0, 558, .inl (u_574.2.1 0)))] := hD
    refine lv_aload_n hx hb dX12_remember_95 rfl (lv_at hl 0 rfl) ?_
    refine lv_dup hx hb dX12_remember_96 rfl ?_
    refine va_get (ci := 12) (v := .int v_563) (C := RX12) (T := TX12) (N := 60) hx hb hts hw12 hown hK hP 1 rfl rfl 8 (by decide +kernel) (hts _ mm_X12_remember_838) (fun _ h9 => h9) rfl dX12_remember_97 ?_
    refine lv_iconst (v := 1) hx hb dX12_remember_100 (by decide +kernel) ?_
    refine lv_iadd hx hb dX12_remember_101 ?_
    refine lv_topi (fun x_578 ex_578 => ?_)
    replace hE := hE.trans (Lt_in ex_578)
    have hx_578 : x_578.toInt = (v_563.toInt + 1) := by rw [ex_578]; exact i_add rfl (show (1 : Int32).toInt = 1 from rfl) (by omega)
    refine va_put (ci := 12) (v := .int x_578) (ty := .int) (C := RX12) (T := TX12) (N := 60) hx hb hts hw12 tyX12 tyX12_ok nmX12 hown hK hP hD hS 1 rfl rfl 8 (by decide +kernel) (hts _ mm_X12_remember_838) (fun _ h9 => h9) rfl (by decide +kernel) (by first | rfl | decide) (by first | rfl | decide) (Nat.le_of_ble_eq_true rfl) dX12_remember_102 (fun H locs hP0 hD0 hS0 => ?_)
    clear hP hD hS
    have hP := hP0
    have hD := hD0
    have hS := hS0
    clear hP0 hD0 hS0
    replace hP : va_P D vwCl [(s0, .inl (K 0, 16, .inl f_577)), (m0, .inr (12, [m_0, m_1, m_2, .ref w0, m_4, m_5, .ref u0, .ref s0, .int x_578, m_9, m_10, m_11, m_12, m_13, m_14, m_15, m_16, m_17, m_18, m_19, m_20, m_21, m_22, m_23, m_24, m_25, m_26, m_27, m_28, m_29, m_30, m_31, m_32, m_33, m_34, m_35, m_36, m_37, m_38, m_39, m_40, m_41, m_42, m_43, m_44, m_45, m_46, m_47, m_48, m_49, m_50, m_51, m_52, m_53, m_54, m_55, m_56, m_57, m_58, m_59])), (w0, .inl (K 0, 5500, .inl fw)), (u0, .inl (K 0, 558, .inl (u_574.2.1 0)))] H := hP
    replace hD : va_D A [(s0, .inl (K 0, 16, .inl f_577)), (m0, .inr (12, [m_0, m_1, m_2, .ref w0, m_4, m_5, .ref u0, .ref s0, .int x_578, m_9, m_10, m_11, m_12, m_13, m_14, m_15, m_16, m_17, m_18, m_19, m_20, m_21, m_22, m_23, m_24, m_25, m_26, m_27, m_28, m_29, m_30, m_31, m_32, m_33, m_34, m_35, m_36, m_37, m_38, m_39, m_40, m_41, m_42, m_43, m_44, m_45, m_46, m_47, m_48, m_49, m_50, m_51, m_52, m_53, m_54, m_55, m_56, m_57, m_58, m_59])), (w0, .inl (K 0, 5500, .inl fw)), (u0, .inl (K 0, 558, .inl (u_574.2.1 0)))] := hD
    rw [← hQ]
    have hP9 := hP.sub (ws' := [(m0, .inr (12, [m_0, m_1, m_2, .ref w0, m_4, m_5, .ref u0, .ref s0, .int x_578, m_9, m_10, m_11, m_12, m_13, m_14, m_15, m_16, m_17, m_18, m_19, m_20, m_21, m_22, m_23, m_24, m_25, m_26, m_27, m_28, m_29, m_30, m_31, m_32, m_33, m_34, m_35, m_36, m_37, m_38, m_39, m_40, m_41, m_42, m_43, m_44, m_45, m_46, m_47, m_48, m_49, m_50, m_51, m_52, m_53, m_54, m_55, m_56, m_57, m_58, m_59])), (w0, .inl (K 0, 5500, .inl fw)), (u0, .inl (K 0, 558, .inl (u_574.2.1 0))), (s0, .inl (K 0, 16, .inl f_577))]) [1, 2, 3, 0] rfl
    have hD9 := hD.sub (ws' := [(m0, .inr (12, [m_0, m_1, m_2, .ref w0, m_4, m_5, .ref u0, .ref s0, .int x_578, m_9, m_10, m_11, m_12, m_13, m_14, m_15, m_16, m_17, m_18, m_19, m_20, m_21, m_22, m_23, m_24, m_25, m_26, m_27, m_28, m_29, m_30, m_31, m_32, m_33, m_34, m_35, m_36, m_37, m_38, m_39, m_40, m_41, m_42, m_43, m_44, m_45, m_46, m_47, m_48, m_49, m_50, m_51, m_52, m_53, m_54, m_55, m_56, m_57, m_58, m_59])), (w0, .inl (K 0, 5500, .inl fw)), (u0, .inl (K 0, 558, .inl (u_574.2.1 0))), (s0, .inl (K 0, 16, .inl f_577))]) [1, 2, 3, 0] (by decide +kernel) rfl
    exact W.vret hx hb hr (fun t ht hW => ⟨⟨((fun _ => 0, fun i => match i with | 0 => (u_574.2.1 0) | _ => f_577, fun _ => fun _ => 0, fun i => match i with | _ => x_578, fun _ => 0, fun _ => fun _ => none) : Su), rfl, ⟨(show 1 ≤ (x_578 : Int32).toInt ∧ (x_578 : Int32).toInt ≤ 16 by rw [hx_578]; omega), k_575, hf_577_0, hE.symm, trivial⟩, (⟨by rw [ht]; exact hP9, hD9⟩ : Wd D A _ t)⟩, hS.F ht⟩) hS.2.2 dX12_remember_105
  refine lv_icmp_ne (tgt := 77) hx hb dX12_remember_6 (by decide +kernel) (fun c_579 => ?_) (fun c_579 => ?_)
  · have c_579i := i_ne (x := nu.toInt) (y := 16) rfl rfl c_579
    replace hE := hE.trans (if_neg c_579)
    exact j_572 nu fu fs (by omega) zfu zfs hE _ _ hP hD hS ls (lv_sub hl [0, 1] rfl)
  · have c_579i := i_eq (x := nu.toInt) (y := 16) rfl rfl c_579
    replace hE := hE.trans (if_pos c_579)
    refine lv_iconst (v := 0) hx hb dX12_remember_9 (by decide +kernel) ?_
    refine lv_istore_n (lv' := [(2, .int 0), (0, .ref m0), (1, .int x)]) hx hb dX12_remember_10 rfl hl (by decide +kernel) rfl (fun ls hl => ?_)
    have lp_619 : ∀ (nn_ : Nat) (v_605 : Int32) (f_606 : Nat → Int32) (hv_605 : 0 ≤ v_605.toInt ∧ v_605.toInt ≤ 465) (hf_606_0 : Pu 558 f_606) (hn : (466 - v_605.toInt : Int).toNat < nn_) (hE : E_v_remember x nu fw fu fs = Lp (α := Int32 → (Nat → Int32) → (Int32 × (Nat → Int32) × (Nat → Int32))) (E_v_remember_l11 x nu fw fs) (fun _ _ => ((0, fun _ => 0, fun _ => 0) : Int32 × (Nat → Int32) × (Nat → Int32))) nn_ v_605 f_606) (H : Heap) (locs : List Loc) (hP : va_P D vwCl [(m0, .inr (12, [m_0, m_1, m_2, .ref w0, m_4, m_5, .ref u0, .ref s0, .int nu, m_9, m_10, m_11, m_12, m_13, m_14, m_15, m_16, m_17, m_18, m_19, m_20, m_21, m_22, m_23, m_24, m_25, m_26, m_27, m_28, m_29, m_30, m_31, m_32, m_33, m_34, m_35, m_36, m_37, m_38, m_39, m_40, m_41, m_42, m_43, m_44, m_45, m_46, m_47, m_48, m_49, m_50, m_51, m_52, m_53, m_54, m_55, m_56, m_57, m_58, m_59])), (w0, .inl (K 0, 5500, .inl fw)), (u0, .inl (K 0, 558, .inl f_606)), (s0, .inl (K 0, 16, .inl fs))] H) (hD : va_D A [(m0, .inr (12, [m_0, m_1, m_2, .ref w0, m_4, m_5, .ref u0, .ref s0, .int nu, m_9, m_10, m_11, m_12, m_13, m_14, m_15, m_16, m_17, m_18, m_19, m_20, m_21, m_22, m_23, m_24, m_25, m_26, m_27, m_28, m_29, m_30, m_31, m_32, m_33, m_34, m_35, m_36, m_37, m_38, m_39, m_40, m_41, m_42, m_43, m_44, m_45, m_46, m_47, m_48, m_49, m_50, m_51, m_52, m_53, m_54, m_55, m_56, m_57, m_58, m_59])), (w0, .inl (K 0, 5500, .inl fw)), (u0, .inl (K 0, 558, .inl f_606)), (s0, .inl (K 0, 16, .inl fs))]) (hS : va_S A s.heap H locs) (ls : Array Slot) (hl : lv_has ls 3 [(2, .int v_605), (0, .ref m0), (1, .int x)]), W p l e ({ frames := 1, cells := 0, slots := 0, locals := 22 }) s m (([.ref m0, .int x] : List Value).toArray) below meth c H locs 0 0 Q (F0 m 11 ls []) := by
      clear hE hP hD hS hl
      intro nn_
      induction nn_ with
      | zero =>
        intro v_605 f_606 hv_605 hf_606_0 hn hE H locs hP hD hS ls hl
        exact absurd hn (Nat.not_lt_zero _)
      | succ nn_ ih_620 =>
        intro v_605 f_606 hv_605 hf_606_0 hn hE H locs hP hD hS ls hl
        replace hE : E_v_remember x nu fw fu fs = E_v_remember_l11 x nu fw fs (Lp (α := Int32 → (Nat → Int32) → (Int32 × (Nat → Int32) × (Nat → Int32))) (E_v_remember_l11 x nu fw fs) (fun _ _ => ((0, fun _ => 0, fun _ => 0) : Int32 × (Nat → Int32) × (Nat → Int32))) nn_) v_605 f_606 := hE
        obtain ⟨rec_619, hrec_619⟩ : ∃ z9, z9 = Lp (α := Int32 → (Nat → Int32) → (Int32 × (Nat → Int32) × (Nat → Int32))) (E_v_remember_l11 x nu fw fs) (fun _ _ => ((0, fun _ => 0, fun _ => 0) : Int32 × (Nat → Int32) × (Nat → Int32))) nn_ := ⟨_, rfl⟩
        rw [← hrec_619] at hE
        replace hE := hE.trans (E_v_remember_l11.eq_def _ _ _ _ _ _ _)
        refine lv_iload_n hx hb dX12_remember_11 rfl (lv_at hl 0 rfl) ?_
        refine lv_sipush (v := 465) hx hb dX12_remember_12 (by decide +kernel) ?_
        refine lv_icmp_ge (tgt := 39) hx hb dX12_remember_15 (by decide +kernel) (fun c_621 => ?_) (fun c_621 => ?_)
        · have c_621i := i_le (x := 465) (y := v_605.toInt) rfl rfl c_621
          replace hE := hE.trans (if_pos c_621)
          refine lv_iconst (v := 0) hx hb dX12_remember_39 (by decide +kernel) ?_
          refine lv_istore_n (lv' := [(2, .int 0), (0, .ref m0), (1, .int x)]) hx hb dX12_remember_40 rfl hl (by decide +kernel) rfl (fun ls hl => ?_)
          have lp_661 : ∀ (nn_ : Nat) (v_647 : Int32) (f_648 : Nat → Int32) (hv_647 : 0 ≤ v_647.toInt ∧ v_647.toInt ≤ 15) (hf_648_0 : Rg 16 0 3 f_648) (hn : (16 - v_647.toInt : Int).toNat < nn_) (hE : E_v_remember x nu fw fu fs = Lp (α := Int32 → (Nat → Int32) → (Int32 × (Nat → Int32) × (Nat → Int32))) (E_v_remember_l41 x nu fw f_606) (fun _ _ => ((0, fun _ => 0, fun _ => 0) : Int32 × (Nat → Int32) × (Nat → Int32))) nn_ v_647 f_648) (H : Heap) (locs : List Loc) (hP : va_P D vwCl [(m0, .inr (12, [m_0, m_1, m_2, .ref w0, m_4, m_5, .ref u0, .ref s0, .int nu, m_9, m_10, m_11, m_12, m_13, m_14, m_15, m_16, m_17, m_18, m_19, m_20, m_21, m_22, m_23, m_24, m_25, m_26, m_27, m_28, m_29, m_30, m_31, m_32, m_33, m_34, m_35, m_36, m_37, m_38, m_39, m_40, m_41, m_42, m_43, m_44, m_45, m_46, m_47, m_48, m_49, m_50, m_51, m_52, m_53, m_54, m_55, m_56, m_57, m_58, m_59])), (w0, .inl (K 0, 5500, .inl fw)), (u0, .inl (K 0, 558, .inl f_606)), (s0, .inl (K 0, 16, .inl f_648))] H) (hD : va_D A [(m0, .inr (12, [m_0, m_1, m_2, .ref w0, m_4, m_5, .ref u0, .ref s0, .int nu, m_9, m_10, m_11, m_12, m_13, m_14, m_15, m_16, m_17, m_18, m_19, m_20, m_21, m_22, m_23, m_24, m_25, m_26, m_27, m_28, m_29, m_30, m_31, m_32, m_33, m_34, m_35, m_36, m_37, m_38, m_39, m_40, m_41, m_42, m_43, m_44, m_45, m_46, m_47, m_48, m_49, m_50, m_51, m_52, m_53, m_54, m_55, m_56, m_57, m_58, m_59])), (w0, .inl (K 0, 5500, .inl fw)), (u0, .inl (K 0, 558, .inl f_606)), (s0, .inl (K 0, 16, .inl f_648))]) (hS : va_S A s.heap H locs) (ls : Array Slot) (hl : lv_has ls 3 [(2, .int v_647), (0, .ref m0), (1, .int x)]), W p l e ({ frames := 1, cells := 0, slots := 0, locals := 22 }) s m (([.ref m0, .int x] : List Value).toArray) below meth c H locs 0 0 Q (F0 m 41 ls []) := by
            clear hE hP hD hS hl
            intro nn_
            induction nn_ with
            | zero =>
              intro v_647 f_648 hv_647 hf_648_0 hn hE H locs hP hD hS ls hl
              exact absurd hn (Nat.not_lt_zero _)
            | succ nn_ ih_662 =>
              intro v_647 f_648 hv_647 hf_648_0 hn hE H locs hP hD hS ls hl
              replace hE : E_v_remember x nu fw fu fs = E_v_remember_l41 x nu fw f_606 (Lp (α := Int32 → (Nat → Int32) → (Int32 × (Nat → Int32) × (Nat → Int32))) (E_v_remember_l41 x nu fw f_606) (fun _ _ => ((0, fun _ => 0, fun _ => 0) : Int32 × (Nat → Int32) × (Nat → Int32))) nn_) v_647 f_648 := hE
              obtain ⟨rec_661, hrec_661⟩ : ∃ z9, z9 = Lp (α := Int32 → (Nat → Int32) → (Int32 × (Nat → Int32) × (Nat → Int32))) (E_v_remember_l41 x nu fw f_606) (fun _ _ => ((0, fun _ => 0, fun _ => 0) : Int32 × (Nat → Int32) × (Nat → Int32))) nn_ := ⟨_, rfl⟩
              rw [← hrec_661] at hE
              replace hE := hE.trans (E_v_remember_l41.eq_def _ _ _ _ _ _ _)
              refine lv_iload_n hx hb dX12_remember_41 rfl (lv_at hl 0 rfl) ?_
              refine lv_bipush (v := 15) hx hb dX12_remember_42 (by decide +kernel) ?_
              refine lv_icmp_ge (tgt := 67) hx hb dX12_remember_44 (by decide +kernel) (fun c_663 => ?_) (fun c_663 => ?_)
              · have c_663i := i_le (x := 15) (y := v_647.toInt) rfl rfl c_663
                replace hE := hE.trans (if_pos c_663)
                refine lv_aload_n hx hb dX12_remember_67 rfl (lv_at hl 1 rfl) ?_
                refine lv_dup hx hb dX12_remember_68 rfl ?_
                refine va_get (ci := 12) (v := .int nu) (C := RX12) (T := TX12) (N := 60) hx hb hts hw12 hown hK hP 0 rfl rfl 8 (by decide +kernel) (hts _ mm_X12_remember_838) (fun _ h9 => h9) rfl dX12_remember_69 ?_
                refine lv_iconst (v := 1) hx hb dX12_remember_72 (by decide +kernel) ?_
                refine lv_isub hx hb dX12_remember_73 ?_
                refine lv_topi (fun x_664 ex_664 => ?_)
                replace hE := hE.trans (Lt_in ex_664)
                have hx_664 : x_664.toInt = (nu.toInt - 1) := by rw [ex_664]; exact i_sub rfl (show (1 : Int32).toInt = 1 from rfl) (by omega)
                refine va_put (ci := 12) (v := .int x_664) (ty := .int) (C := RX12) (T := TX12) (N := 60) hx hb hts hw12 tyX12 tyX12_ok nmX12 hown hK hP hD hS 0 rfl rfl 8 (by decide +kernel) (hts _ mm_X12_remember_838) (fun _ h9 => h9) rfl (by decide +kernel) (by first | rfl | decide) (by first | rfl | decide) (Nat.le_of_ble_eq_true rfl) dX12_remember_74 (fun H locs hP0 hD0 hS0 => ?_)
                clear hP hD hS
                have hP := hP0
                have hD := hD0
                have hS := hS0
                clear hP0 hD0 hS0
                replace hP : va_P D vwCl [(m0, .inr (12, [m_0, m_1, m_2, .ref w0, m_4, m_5, .ref u0, .ref s0, .int x_664, m_9, m_10, m_11, m_12, m_13, m_14, m_15, m_16, m_17, m_18, m_19, m_20, m_21, m_22, m_23, m_24, m_25, m_26, m_27, m_28, m_29, m_30, m_31, m_32, m_33, m_34, m_35, m_36, m_37, m_38, m_39, m_40, m_41, m_42, m_43, m_44, m_45, m_46, m_47, m_48, m_49, m_50, m_51, m_52, m_53, m_54, m_55, m_56, m_57, m_58, m_59])), (w0, .inl (K 0, 5500, .inl fw)), (u0, .inl (K 0, 558, .inl f_606)), (s0, .inl (K 0, 16, .inl f_648))] H := hP
                replace hD : va_D A [(m0, .inr (12, [m_0, m_1, m_2, .ref w0, m_4, m_5, .ref u0, .ref s0, .int x_664, m_9, m_10, m_11, m_12, m_13, m_14, m_15, m_16, m_17, m_18, m_19, m_20, m_21, m_22, m_23, m_24, m_25, m_26, m_27, m_28, m_29, m_30, m_31, m_32, m_33, m_34, m_35, m_36, m_37, m_38, m_39, m_40, m_41, m_42, m_43, m_44, m_45, m_46, m_47, m_48, m_49, m_50, m_51, m_52, m_53, m_54, m_55, m_56, m_57, m_58, m_59])), (w0, .inl (K 0, 5500, .inl fw)), (u0, .inl (K 0, 558, .inl f_606)), (s0, .inl (K 0, 16, .inl f_648))] := hD
                exact j_572 x_664 f_606 f_648 (by rw [hx_664]; omega) hf_606_0 hf_648_0 hE _ _ hP hD hS ls (lv_sub hl [1, 2] rfl)
              · have c_663i := i_nle (x := 15) (y := v_647.toInt) rfl rfl c_663
                replace hE := hE.trans (if_neg c_663)
                refine lv_aload_n hx hb dX12_remember_47 rfl (lv_at hl 1 rfl) ?_
                refine va_get (ci := 12) (v := .ref s0) (C := RX12) (T := TX12) (N := 60) hx hb hts hw12 hown hK hP 0 rfl rfl 7 (by decide +kernel) (hts _ mm_X12_remember_837) (fun _ h9 => h9) rfl dX12_remember_48 ?_
                refine lv_iload_n hx hb dX12_remember_51 rfl (lv_at hl 0 rfl) ?_
                refine lv_aload_n hx hb dX12_remember_52 rfl (lv_at hl 1 rfl) ?_
                refine va_get (ci := 12) (v := .ref s0) (C := RX12) (T := TX12) (N := 60) hx hb hts hw12 hown hK hP 0 rfl rfl 7 (by decide +kernel) (hts _ mm_X12_remember_837) (fun _ h9 => h9) rfl dX12_remember_53 ?_
                refine lv_iload_n hx hb dX12_remember_56 rfl (lv_at hl 0 rfl) ?_
                refine lv_iconst (v := 1) hx hb dX12_remember_57 (by decide +kernel) ?_
                refine lv_iadd hx hb dX12_remember_58 ?_
                refine lv_topi (fun x_665 ex_665 => ?_)
                replace hE := hE.trans (Lt_in ex_665)
                have hx_665 : x_665.toInt = (v_647.toInt + 1) := by rw [ex_665]; exact i_add rfl (show (1 : Int32).toInt = 1 from rfl) (by omega)
                refine va_iald hx hb hK hP 3 0 rfl rfl (i_in hx_665 (by omega)) dX12_remember_59 ?_
                refine lv_topi (fun x_666 ex_666 => ?_)
                replace hE := hE.trans (Lt_in ex_666)
                have hx_666 := Rg.at hf_648_0 hx_665 (show 0 ≤ (v_647.toInt + 1) ∧ (v_647.toInt + 1) < _ by omega)
                rw [← ex_666] at hx_666
                refine va_iast hx hb hK hP hD hS 3 0 rfl rfl (i_in rfl (by omega)) dX12_remember_60 (fun H locs hP0 hD0 hS0 => ?_)
                clear hP hD hS
                have hP := hP0
                have hD := hD0
                have hS := hS0
                clear hP0 hD0 hS0
                generalize hf_667 : (upd f_648 (v_647 : Int32).toNatClampNeg x_666) = f_667 at hP hD
                replace hE := hE.trans (Lt_in hf_667.symm)
                have hf_667_0 : Rg 16 0 3 f_667 := by rw [← hf_667]; exact Rg.upd hf_648_0 rfl (by omega)
                replace hP : va_P D vwCl [(m0, .inr (12, [m_0, m_1, m_2, .ref w0, m_4, m_5, .ref u0, .ref s0, .int nu, m_9, m_10, m_11, m_12, m_13, m_14, m_15, m_16, m_17, m_18, m_19, m_20, m_21, m_22, m_23, m_24, m_25, m_26, m_27, m_28, m_29, m_30, m_31, m_32, m_33, m_34, m_35, m_36, m_37, m_38, m_39, m_40, m_41, m_42, m_43, m_44, m_45, m_46, m_47, m_48, m_49, m_50, m_51, m_52, m_53, m_54, m_55, m_56, m_57, m_58, m_59])), (w0, .inl (K 0, 5500, .inl fw)), (u0, .inl (K 0, 558, .inl f_606)), (s0, .inl (K 0, 16, .inl f_667))] H := hP
                replace hD : va_D A [(m0, .inr (12, [m_0, m_1, m_2, .ref w0, m_4, m_5, .ref u0, .ref s0, .int nu, m_9, m_10, m_11, m_12, m_13, m_14, m_15, m_16, m_17, m_18, m_19, m_20, m_21, m_22, m_23, m_24, m_25, m_26, m_27, m_28, m_29, m_30, m_31, m_32, m_33, m_34, m_35, m_36, m_37, m_38, m_39, m_40, m_41, m_42, m_43, m_44, m_45, m_46, m_47, m_48, m_49, m_50, m_51, m_52, m_53, m_54, m_55, m_56, m_57, m_58, m_59])), (w0, .inl (K 0, 5500, .inl fw)), (u0, .inl (K 0, 558, .inl f_606)), (s0, .inl (K 0, 16, .inl f_667))] := hD
                obtain ⟨x_668, ex_668⟩ : ∃ y : Int32, y = v_647 + Int32.ofInt 1 := ⟨_, rfl⟩
                replace hE := hE.trans (Lt_in ex_668)
                have hx_668 : x_668.toInt = (v_647.toInt + 1) := by rw [ex_668]; exact i_add rfl (show (Int32.ofInt 1).toInt = 1 from rfl) (by omega)
                refine lv_iinc (v := x_668) (lv' := [(2, .int x_668), (0, .ref m0), (1, .int x)]) hx hb dX12_remember_61 hl (k := 0) rfl (by rw [ex_668]) (by decide +kernel) rfl (fun ls hl => ?_)
                refine lv_goto (tgt := 41) hx hb dX12_remember_64 (by decide +kernel) ?_
                exact ih_662 x_668 f_667 (by rw [hx_668]; omega) hf_667_0 (by omega) (hE.trans (by rw [hrec_661])) _ _ hP hD hS ls (lv_sub hl [0, 1, 2] rfl)
          exact lp_661 ((16 - (0 : Int32).toInt : Int).toNat + 1) 0 fs (by decide +kernel) zfs (Nat.lt_succ_self _) hE _ _ hP hD hS ls (lv_sub hl [0, 1, 2] rfl)
        · have c_621i := i_nle (x := 465) (y := v_605.toInt) rfl rfl c_621
          replace hE := hE.trans (if_neg c_621)
          refine lv_aload_n hx hb dX12_remember_18 rfl (lv_at hl 1 rfl) ?_
          refine va_get (ci := 12) (v := .ref u0) (C := RX12) (T := TX12) (N := 60) hx hb hts hw12 hown hK hP 0 rfl rfl 6 (by decide +kernel) (hts _ mm_X12_remember_836) (fun _ h9 => h9) rfl dX12_remember_19 ?_
          refine lv_iload_n hx hb dX12_remember_22 rfl (lv_at hl 0 rfl) ?_
          refine lv_aload_n hx hb dX12_remember_23 rfl (lv_at hl 1 rfl) ?_
          refine va_get (ci := 12) (v := .ref u0) (C := RX12) (T := TX12) (N := 60) hx hb hts hw12 hown hK hP 0 rfl rfl 6 (by decide +kernel) (hts _ mm_X12_remember_836) (fun _ h9 => h9) rfl dX12_remember_24 ?_
          refine lv_iload_n hx hb dX12_remember_27 rfl (lv_at hl 0 rfl) ?_
          refine lv_bipush (v := 31) hx hb dX12_remember_28 (by decide +kernel) ?_
          refine lv_iadd hx hb dX12_remember_30 ?_
          refine lv_topi (fun x_669 ex_669 => ?_)
          replace hE := hE.trans (Lt_in ex_669)
          have hx_669 : x_669.toInt = (v_605.toInt + 31) := by rw [ex_669]; exact i_add rfl (show (31 : Int32).toInt = 31 from rfl) (by omega)
          refine va_iald hx hb hK hP 2 0 rfl rfl (i_in hx_669 (by omega)) dX12_remember_31 ?_
          refine lv_topi (fun x_670 ex_670 => ?_)
          replace hE := hE.trans (Lt_in ex_670)
          have px_670 := Pu.at hf_606_0 hx_669 (show 0 ≤ (v_605.toInt + 31) ∧ (v_605.toInt + 31) < _ by omega)
          rw [← ex_670] at px_670
          refine va_iast hx hb hK hP hD hS 2 0 rfl rfl (i_in rfl (by omega)) dX12_remember_32 (fun H locs hP0 hD0 hS0 => ?_)
          clear hP hD hS
          have hP := hP0
          have hD := hD0
          have hS := hS0
          clear hP0 hD0 hS0
          generalize hf_671 : (upd f_606 (v_605 : Int32).toNatClampNeg x_670) = f_671 at hP hD
          replace hE := hE.trans (Lt_in hf_671.symm)
          have hf_671_0 : Pu 558 f_671 := by rw [← hf_671]; exact Pu.upd hf_606_0 rfl (by omega) rfl (PR.eqi px_670 (by omega) (by omega))
          replace hP : va_P D vwCl [(m0, .inr (12, [m_0, m_1, m_2, .ref w0, m_4, m_5, .ref u0, .ref s0, .int nu, m_9, m_10, m_11, m_12, m_13, m_14, m_15, m_16, m_17, m_18, m_19, m_20, m_21, m_22, m_23, m_24, m_25, m_26, m_27, m_28, m_29, m_30, m_31, m_32, m_33, m_34, m_35, m_36, m_37, m_38, m_39, m_40, m_41, m_42, m_43, m_44, m_45, m_46, m_47, m_48, m_49, m_50, m_51, m_52, m_53, m_54, m_55, m_56, m_57, m_58, m_59])), (w0, .inl (K 0, 5500, .inl fw)), (u0, .inl (K 0, 558, .inl f_671)), (s0, .inl (K 0, 16, .inl fs))] H := hP
          replace hD : va_D A [(m0, .inr (12, [m_0, m_1, m_2, .ref w0, m_4, m_5, .ref u0, .ref s0, .int nu, m_9, m_10, m_11, m_12, m_13, m_14, m_15, m_16, m_17, m_18, m_19, m_20, m_21, m_22, m_23, m_24, m_25, m_26, m_27, m_28, m_29, m_30, m_31, m_32, m_33, m_34, m_35, m_36, m_37, m_38, m_39, m_40, m_41, m_42, m_43, m_44, m_45, m_46, m_47, m_48, m_49, m_50, m_51, m_52, m_53, m_54, m_55, m_56, m_57, m_58, m_59])), (w0, .inl (K 0, 5500, .inl fw)), (u0, .inl (K 0, 558, .inl f_671)), (s0, .inl (K 0, 16, .inl fs))] := hD
          obtain ⟨x_672, ex_672⟩ : ∃ y : Int32, y = v_605 + Int32.ofInt 1 := ⟨_, rfl⟩
          replace hE := hE.trans (Lt_in ex_672)
          have hx_672 : x_672.toInt = (v_605.toInt + 1) := by rw [ex_672]; exact i_add rfl (show (Int32.ofInt 1).toInt = 1 from rfl) (by omega)
          refine lv_iinc (v := x_672) (lv' := [(2, .int x_672), (0, .ref m0), (1, .int x)]) hx hb dX12_remember_33 hl (k := 0) rfl (by rw [ex_672]) (by decide +kernel) rfl (fun ls hl => ?_)
          refine lv_goto (tgt := 11) hx hb dX12_remember_36 (by decide +kernel) ?_
          exact ih_620 x_672 f_671 (by rw [hx_672]; omega) hf_671_0 (by omega) (hE.trans (by rw [hrec_619])) _ _ hP hD hS ls (lv_sub hl [0, 1, 2] rfl)
    exact lp_619 ((466 - (0 : Int32).toInt : Int).toNat + 1) 0 fu (by decide +kernel) zfu (Nat.lt_succ_self _) hE _ _ hP hD hS ls (lv_sub hl [0, 1, 2] rfl)
set_option maxRecDepth 100000 in
noncomputable def E_v_undo (thr : Int32) (sta : Int32) (nu : Int32) (fw : Nat → Int32) (fu : Nat → Int32) (fs : Nat → Int32) (frf : Nat → Int32) : Int32 × Int32 × Int32 × (Nat → Int32) × (Nat → Int32) :=
  if nu = 0 then (Lt2 (E_v_tell (-3) sta frf) (fun r_110 q0_r_110 => Lt2 q0_r_110 (fun u_111_2_2_2_1_0 u_111_2_1_0 => ((r_110, u_111_2_2_2_1_0, nu, fw, u_111_2_1_0) : Int32 × Int32 × Int32 × (Nat → Int32) × (Nat → Int32))))) else (Lt (nu - 1 : Int32) (fun x_98 => Lt (E_v_putBack x_98 fw fu) (fun u_100_2_1_0 => Lt (fs (x_98 : Int32).toNatClampNeg : Int32) (fun x_104 => Lt2 (E_v_tell x_104 sta frf) (fun r_105 q0_r_105 => Lt2 q0_r_105 (fun u_106_2_2_2_1_0 u_106_2_1_0 => ((r_105, u_106_2_2_2_1_0, x_98, u_100_2_1_0, u_106_2_1_0) : Int32 × Int32 × Int32 × (Nat → Int32) × (Nat → Int32))))))))
set_option maxHeartbeats 4000000 in
set_option maxRecDepth 100000 in
theorem v_undo (l : Launch) (D : va_G) (K : Nat → ClassId) (m0 : Nat) (thr : Int32) (sta : Int32) (r0 : Nat) (w0 : Nat) (m_4 : Value) (m_5 : Value) (u0 : Nat) (s0 : Nat) (nu : Int32) (m_9 : Value) (m_10 : Value) (m_11 : Value) (m_12 : Value) (m_13 : Value) (m_14 : Value) (m_15 : Value) (m_16 : Value) (m_17 : Value) (m_18 : Value) (m_19 : Value) (m_20 : Value) (m_21 : Value) (m_22 : Value) (m_23 : Value) (m_24 : Value) (m_25 : Value) (m_26 : Value) (m_27 : Value) (m_28 : Value) (m_29 : Value) (m_30 : Value) (m_31 : Value) (m_32 : Value) (m_33 : Value) (m_34 : Value) (m_35 : Value) (m_36 : Value) (m_37 : Value) (m_38 : Value) (m_39 : Value) (m_40 : Value) (m_41 : Value) (m_42 : Value) (m_43 : Value) (m_44 : Value) (m_45 : Value) (m_46 : Value) (m_47 : Value) (m_48 : Value) (m_49 : Value) (m_50 : Value) (m_51 : Value) (m_52 : Value) (m_53 : Value) (m_54 : Value) (m_55 : Value) (m_56 : Value) (m_57 : Value) (m_58 : Value) (m_59 : Value) (fw : Nat → Int32) (gr : Nat → Int32) (fu : Nat → Int32) (fs : Nat → Int32) (frf : Nat → Int32) (sz : Nat) (znu : 0 ≤ nu.toInt ∧ nu.toInt ≤ 16) (zfw : RwOK fw) (zgr : FzM gr fw) (zfu : Pu 558 fu) (zfs : Rg 16 0 3 fs) : Met l yX12_undo wsX12_undo ({ frames := 1, cells := 0, slots := 0, locals := 22 }) (va_Pc [.ref m0] (Pre D K [(m0, .inr (12, [.int thr, .int sta, .ref r0, .ref w0, m_4, m_5, .ref u0, .ref s0, .int nu, m_9, m_10, m_11, m_12, m_13, m_14, m_15, m_16, m_17, m_18, m_19, m_20, m_21, m_22, m_23, m_24, m_25, m_26, m_27, m_28, m_29, m_30, m_31, m_32, m_33, m_34, m_35, m_36, m_37, m_38, m_39, m_40, m_41, m_42, m_43, m_44, m_45, m_46, m_47, m_48, m_49, m_50, m_51, m_52, m_53, m_54, m_55, m_56, m_57, m_58, m_59])), (w0, .inl (K 0, 5500, .inl fw)), (u0, .inl (K 0, 558, .inl fu)), (s0, .inl (K 0, 16, .inl fs)), (r0, .inl (K 0, 7, .inl frf))] sz)) (va_Qi (S := Su) (fun (r : Int32) (u : Su) => ((-6) ≤ r.toInt) ∧ ((-6) ≤ (u.2.2.2.1 0).toInt ∧ (u.2.2.2.1 0).toInt ≤ 0) ∧ (0 ≤ (u.2.2.2.1 1).toInt ∧ (u.2.2.2.1 1).toInt ≤ 15) ∧ (RwOK (u.2.1 0)) ∧ (FzM gr (u.2.1 0)) ∧ ((r, (u.2.2.2.1 0), (u.2.2.2.1 1), (u.2.1 0), (u.2.1 1)) = E_v_undo thr sta nu fw fu fs frf) ∧ True) (fun u t => Wd D (va_A [(m0, .inr (12, [.int thr, .int sta, .ref r0, .ref w0, m_4, m_5, .ref u0, .ref s0, .int nu, m_9, m_10, m_11, m_12, m_13, m_14, m_15, m_16, m_17, m_18, m_19, m_20, m_21, m_22, m_23, m_24, m_25, m_26, m_27, m_28, m_29, m_30, m_31, m_32, m_33, m_34, m_35, m_36, m_37, m_38, m_39, m_40, m_41, m_42, m_43, m_44, m_45, m_46, m_47, m_48, m_49, m_50, m_51, m_52, m_53, m_54, m_55, m_56, m_57, m_58, m_59])), (w0, .inl (K 0, 5500, .inl fw)), (u0, .inl (K 0, 558, .inl fu)), (s0, .inl (K 0, 16, .inl fs)), (r0, .inl (K 0, 7, .inl frf))] sz) ((fun u => [(m0, .inr (12, [.int 0, .int (u.2.2.2.1 0), .ref r0, .ref w0, m_4, m_5, .ref u0, .ref s0, .int (u.2.2.2.1 1), m_9, m_10, m_11, m_12, m_13, m_14, m_15, m_16, m_17, m_18, m_19, m_20, m_21, m_22, m_23, m_24, m_25, m_26, m_27, m_28, m_29, m_30, m_31, m_32, m_33, m_34, m_35, m_36, m_37, m_38, m_39, m_40, m_41, m_42, m_43, m_44, m_45, m_46, m_47, m_48, m_49, m_50, m_51, m_52, m_53, m_54, m_55, m_56, m_57, m_58, m_59])), (w0, .inl (K 0, 5500, .inl (u.2.1 0))), (u0, .inl (K 0, 558, .inl fu)), (s0, .inl (K 0, 16, .inl fs)), (r0, .inl (K 0, 7, .inl (u.2.1 1)))]) u) t) (va_A [(m0, .inr (12, [.int thr, .int sta, .ref r0, .ref w0, m_4, m_5, .ref u0, .ref s0, .int nu, m_9, m_10, m_11, m_12, m_13, m_14, m_15, m_16, m_17, m_18, m_19, m_20, m_21, m_22, m_23, m_24, m_25, m_26, m_27, m_28, m_29, m_30, m_31, m_32, m_33, m_34, m_35, m_36, m_37, m_38, m_39, m_40, m_41, m_42, m_43, m_44, m_45, m_46, m_47, m_48, m_49, m_50, m_51, m_52, m_53, m_54, m_55, m_56, m_57, m_58, m_59])), (w0, .inl (K 0, 5500, .inl fw)), (u0, .inl (K 0, 558, .inl fu)), (s0, .inl (K 0, 16, .inl fs)), (r0, .inl (K 0, 7, .inl frf))] sz)) 0 0 (va_A [(m0, .inr (12, [.int thr, .int sta, .ref r0, .ref w0, m_4, m_5, .ref u0, .ref s0, .int nu, m_9, m_10, m_11, m_12, m_13, m_14, m_15, m_16, m_17, m_18, m_19, m_20, m_21, m_22, m_23, m_24, m_25, m_26, m_27, m_28, m_29, m_30, m_31, m_32, m_33, m_34, m_35, m_36, m_37, m_38, m_39, m_40, m_41, m_42, m_43, m_44, m_45, m_46, m_47, m_48, m_49, m_50, m_51, m_52, m_53, m_54, m_55, m_56, m_57, m_58, m_59])), (w0, .inl (K 0, 5500, .inl fw)), (u0, .inl (K 0, 558, .inl fu)), (s0, .inl (K 0, 16, .inl fs)), (r0, .inl (K 0, 7, .inl frf))] sz) := by
  refine Met.ofW (cc := cX12_undo) (maxL := 1) (ret := (some .int)) (by decide +kernel) rfl ?_
  intro p e s m args below meth c s₁ B hml hv
  obtain ⟨rfl, hsz, hP, hK, hD0, hN⟩ := hv
  have hx := B.exec
  have hb := B.bytes
  have hr := B.returns
  have hts := atoms_spec (ws := wsX12_undo) B.pre
  have hown : s.vm.findClass RX12 = some m.cls := findClass_of_methodNamed B.named
  have hlocks := B.notSynchronized
  subst hsz
  have hD := hD0.self (sz := s.heap.size)
  generalize hAe : va_A [(m0, .inr (12, [.int thr, .int sta, .ref r0, .ref w0, m_4, m_5, .ref u0, .ref s0, .int nu, m_9, m_10, m_11, m_12, m_13, m_14, m_15, m_16, m_17, m_18, m_19, m_20, m_21, m_22, m_23, m_24, m_25, m_26, m_27, m_28, m_29, m_30, m_31, m_32, m_33, m_34, m_35, m_36, m_37, m_38, m_39, m_40, m_41, m_42, m_43, m_44, m_45, m_46, m_47, m_48, m_49, m_50, m_51, m_52, m_53, m_54, m_55, m_56, m_57, m_58, m_59])), (w0, .inl (K 0, 5500, .inl fw)), (u0, .inl (K 0, 558, .inl fu)), (s0, .inl (K 0, 16, .inl fs)), (r0, .inl (K 0, 7, .inl frf))] s.heap.size = A at hD ⊢
  have hA : ∀ q : Nat, s.heap.size ≤ q → A q := fun q h => by rw [← hAe]; exact Or.inr h
  clear hAe
  have hS : va_S A s.heap s.heap [] := va_S.rf
  replace hP : va_P D vwCl [(m0, .inr (12, [.int thr, .int sta, .ref r0, .ref w0, m_4, m_5, .ref u0, .ref s0, .int nu, m_9, m_10, m_11, m_12, m_13, m_14, m_15, m_16, m_17, m_18, m_19, m_20, m_21, m_22, m_23, m_24, m_25, m_26, m_27, m_28, m_29, m_30, m_31, m_32, m_33, m_34, m_35, m_36, m_37, m_38, m_39, m_40, m_41, m_42, m_43, m_44, m_45, m_46, m_47, m_48, m_49, m_50, m_51, m_52, m_53, m_54, m_55, m_56, m_57, m_58, m_59])), (w0, .inl (K 0, 5500, .inl fw)), (u0, .inl (K 0, 558, .inl fu)), (s0, .inl (K 0, 16, .inl fs)), (r0, .inl (K 0, 7, .inl frf))] s.heap := hP
  have hl := lv_entry [.ref m0] (n := 1) (Nat.le_of_ble_eq_true rfl)
  rw [lg_entry_eq]
  generalize (lg_sl [.ref m0] ++ List.replicate (1 - (lg_sl [.ref m0]).length) Slot.unset).toArray = ls at hl ⊢
  have hl : lv_has ls 1 [(0, .ref m0)] := hl
  have hw12 : ∀ w ∈ wsX120, w ∈ wsX12_undo := fun w h => (List.mem_cons_of_mem _ (List.mem_append_right _ h))
  generalize hQ : MQ below _ _ s _ _ _ = Q
  have hE := E_v_undo.eq_def thr sta nu fw fu fs frf
  refine lv_aload_n hx hb dX12_undo_0 rfl (lv_at hl 0 rfl) ?_
  refine lv_iconst (v := 0) hx hb dX12_undo_1 (by decide +kernel) ?_
  refine va_put (ci := 12) (v := .int 0) (ty := .int) (C := RX12) (T := TX12) (N := 60) hx hb hts hw12 tyX12 tyX12_ok nmX12 hown hK hP hD hS 0 rfl rfl 0 (by decide +kernel) (hts _ mm_X12_undo_830) (fun _ h9 => h9) rfl (by decide +kernel) (by first | rfl | decide) (by first | rfl | decide) (Nat.le_of_ble_eq_true rfl) dX12_undo_2 (fun H locs hP0 hD0 hS0 => ?_)
  clear hP hD hS
  have hP := hP0
  have hD := hD0
  have hS := hS0
  clear hP0 hD0 hS0
  replace hP : va_P D vwCl [(m0, .inr (12, [.int 0, .int sta, .ref r0, .ref w0, m_4, m_5, .ref u0, .ref s0, .int nu, m_9, m_10, m_11, m_12, m_13, m_14, m_15, m_16, m_17, m_18, m_19, m_20, m_21, m_22, m_23, m_24, m_25, m_26, m_27, m_28, m_29, m_30, m_31, m_32, m_33, m_34, m_35, m_36, m_37, m_38, m_39, m_40, m_41, m_42, m_43, m_44, m_45, m_46, m_47, m_48, m_49, m_50, m_51, m_52, m_53, m_54, m_55, m_56, m_57, m_58, m_59])), (w0, .inl (K 0, 5500, .inl fw)), (u0, .inl (K 0, 558, .inl fu)), (s0, .inl (K 0, 16, .inl fs)), (r0, .inl (K 0, 7, .inl frf))] H := hP
  replace hD : va_D A [(m0, .inr (12, [.int 0, .int sta, .ref r0, .ref w0, m_4, m_5, .ref u0, .ref s0, .int nu, m_9, m_10, m_11, m_12, m_13, m_14, m_15, m_16, m_17, m_18, m_19, m_20, m_21, m_22, m_23, m_24, m_25, m_26, m_27, m_28, m_29, m_30, m_31, m_32, m_33, m_34, m_35, m_36, m_37, m_38, m_39, m_40, m_41, m_42, m_43, m_44, m_45, m_46, m_47, m_48, m_49, m_50, m_51, m_52, m_53, m_54, m_55, m_56, m_57, m_58, m_59])), (w0, .inl (K 0, 5500, .inl fw)), (u0, .inl (K 0, 558, .inl fu)), (s0, .inl (K 0, 16, .inl fs)), (r0, .inl (K 0, 7, .inl frf))] := hD
  refine lv_aload_n hx hb dX12_undo_5 rfl (lv_at hl 0 rfl) ?_
  refine va_get (ci := 12) (v := .int nu) (C := RX12) (T := TX12) (N := 60) hx hb hts hw12 hown hK hP 0 rfl rfl 8 (by decide +kernel) (hts _ mm_X12_undo_838) (fun _ h9 => h9) rfl dX12_undo_6 ?_
  refine lv_if_ne (tgt := 19) hx hb dX12_undo_9 (by decide +kernel) (fun c_97 => ?_) (fun c_97 => ?_)
  · have c_97i := i_ne (x := nu.toInt) (y := 0) rfl rfl c_97
    replace hE := hE.trans (if_neg c_97)
    refine lv_aload_n hx hb dX12_undo_19 rfl (lv_at hl 0 rfl) ?_
    refine lv_dup hx hb dX12_undo_20 rfl ?_
    refine va_get (ci := 12) (v := .int nu) (C := RX12) (T := TX12) (N := 60) hx hb hts hw12 hown hK hP 0 rfl rfl 8 (by decide +kernel) (hts _ mm_X12_undo_838) (fun _ h9 => h9) rfl dX12_undo_21 ?_
    refine lv_iconst (v := 1) hx hb dX12_undo_24 (by decide +kernel) ?_
    refine lv_isub hx hb dX12_undo_25 ?_
    refine lv_topi (fun x_98 ex_98 => ?_)
    replace hE := hE.trans (Lt_in ex_98)
    have hx_98 : x_98.toInt = (nu.toInt - 1) := by rw [ex_98]; exact i_sub rfl (show (1 : Int32).toInt = 1 from rfl) (by omega)
    refine va_put (ci := 12) (v := .int x_98) (ty := .int) (C := RX12) (T := TX12) (N := 60) hx hb hts hw12 tyX12 tyX12_ok nmX12 hown hK hP hD hS 0 rfl rfl 8 (by decide +kernel) (hts _ mm_X12_undo_838) (fun _ h9 => h9) rfl (by decide +kernel) (by first | rfl | decide) (by first | rfl | decide) (Nat.le_of_ble_eq_true rfl) dX12_undo_26 (fun H locs hP0 hD0 hS0 => ?_)
    clear hP hD hS
    have hP := hP0
    have hD := hD0
    have hS := hS0
    clear hP0 hD0 hS0
    replace hP : va_P D vwCl [(m0, .inr (12, [.int 0, .int sta, .ref r0, .ref w0, m_4, m_5, .ref u0, .ref s0, .int x_98, m_9, m_10, m_11, m_12, m_13, m_14, m_15, m_16, m_17, m_18, m_19, m_20, m_21, m_22, m_23, m_24, m_25, m_26, m_27, m_28, m_29, m_30, m_31, m_32, m_33, m_34, m_35, m_36, m_37, m_38, m_39, m_40, m_41, m_42, m_43, m_44, m_45, m_46, m_47, m_48, m_49, m_50, m_51, m_52, m_53, m_54, m_55, m_56, m_57, m_58, m_59])), (w0, .inl (K 0, 5500, .inl fw)), (u0, .inl (K 0, 558, .inl fu)), (s0, .inl (K 0, 16, .inl fs)), (r0, .inl (K 0, 7, .inl frf))] H := hP
    replace hD : va_D A [(m0, .inr (12, [.int 0, .int sta, .ref r0, .ref w0, m_4, m_5, .ref u0, .ref s0, .int x_98, m_9, m_10, m_11, m_12, m_13, m_14, m_15, m_16, m_17, m_18, m_19, m_20, m_21, m_22, m_23, m_24, m_25, m_26, m_27, m_28, m_29, m_30, m_31, m_32, m_33, m_34, m_35, m_36, m_37, m_38, m_39, m_40, m_41, m_42, m_43, m_44, m_45, m_46, m_47, m_48, m_49, m_50, m_51, m_52, m_53, m_54, m_55, m_56, m_57, m_58, m_59])), (w0, .inl (K 0, 5500, .inl fw)), (u0, .inl (K 0, 558, .inl fu)), (s0, .inl (K 0, 16, .inl fs)), (r0, .inl (K 0, 7, .inl frf))] := hD
    refine lv_aload_n hx hb dX12_undo_29 rfl (lv_at hl 0 rfl) ?_
    refine lv_aload_n hx hb dX12_undo_30 rfl (lv_at hl 0 rfl) ?_
    refine va_get (ci := 12) (v := .int x_98) (C := RX12) (T := TX12) (N := 60) hx hb hts hw12 hown hK hP 0 rfl rfl 8 (by decide +kernel) (hts _ mm_X12_undo_838) (fun _ h9 => h9) rfl dX12_undo_31 ?_
    refine kcv (S := Su) (wr := [(s0, .inl (K 0, 16, .inl fs)), (r0, .inl (K 0, 7, .inl frf))]) (va_runV (As := [.int x_98]) (rest := []) ⟨hx, hb, hml, hown, hts⟩ (v_putBack l D K m0 x_98 (.int 0) (.int sta) (.ref r0) w0 m_4 m_5 u0 (.ref s0) (.int x_98) m_9 m_10 m_11 m_12 m_13 m_14 m_15 m_16 m_17 m_18 m_19 m_20 m_21 m_22 m_23 m_24 m_25 m_26 m_27 m_28 m_29 m_30 m_31 m_32 m_33 m_34 m_35 m_36 m_37 m_38 m_39 m_40 m_41 m_42 m_43 m_44 m_45 m_46 m_47 m_48 m_49 m_50 m_51 m_52 m_53 m_54 m_55 m_56 m_57 m_58 m_59 fw gr fu H.size (by first | omega | decide) zfw zgr zfu) (cwV 1 hts gX12_undo_X12_putBack rfl rfl rfl (by decide +kernel) ⟨Nat.le_of_ble_eq_true rfl, Nat.le_of_ble_eq_true rfl⟩) (mkV hK hN (hP.sub [0, 1, 2] rfl) (hD.sub [0, 1, 2] (by decide +kernel) rfl) (ci := 12) (q0 := 0) rfl rfl) rfl rfl hl.1 rfl (lv_room (Nat.le_of_ble_eq_true rfl)) dX12_undo_34 ⟨Nat.le_of_ble_eq_true rfl, Nat.le_of_ble_eq_true rfl⟩) hP hD hS hA [0, 1, 2] [3, 4] rfl rfl (by decide +kernel) (by decide +kernel) (fun u_100 H locs hw hP0 hD0 hS0 => ?_)
    clear hP hD hS
    have hP := hP0
    have hD := hD0
    have hS := hS0
    clear hP0 hD0 hS0
    replace hP : va_P D vwCl [(s0, .inl (K 0, 16, .inl fs)), (r0, .inl (K 0, 7, .inl frf)), (m0, .inr (12, [.int 0, .int sta, .ref r0, .ref w0, m_4, m_5, .ref u0, .ref s0, .int x_98, m_9, m_10, m_11, m_12, m_13, m_14, m_15, m_16, m_17, m_18, m_19, m_20, m_21, m_22, m_23, m_24, m_25, m_26, m_27, m_28, m_29, m_30, m_31, m_32, m_33, m_34, m_35, m_36, m_37, m_38, m_39, m_40, m_41, m_42, m_43, m_44, m_45, m_46, m_47, m_48, m_49, m_50, m_51, m_52, m_53, m_54, m_55, m_56, m_57, m_58, m_59])), (w0, .inl (K 0, 5500, .inl (u_100.2.1 0))), (u0, .inl (K 0, 558, .inl fu))] H := hP
    replace hD : va_D A [(s0, .inl (K 0, 16, .inl fs)), (r0, .inl (K 0, 7, .inl frf)), (m0, .inr (12, [.int 0, .int sta, .ref r0, .ref w0, m_4, m_5, .ref u0, .ref s0, .int x_98, m_9, m_10, m_11, m_12, m_13, m_14, m_15, m_16, m_17, m_18, m_19, m_20, m_21, m_22, m_23, m_24, m_25, m_26, m_27, m_28, m_29, m_30, m_31, m_32, m_33, m_34, m_35, m_36, m_37, m_38, m_39, m_40, m_41, m_42, m_43, m_44, m_45, m_46, m_47, m_48, m_49, m_50, m_51, m_52, m_53, m_54, m_55, m_56, m_57, m_58, m_59])), (w0, .inl (K 0, 5500, .inl (u_100.2.1 0))), (u0, .inl (K 0, 558, .inl fu))] := hD
    obtain ⟨k_101, k_102, k_103, -⟩ := hw
    replace hE := hE.trans (Lt_in k_103)
    refine lv_aload_n hx hb dX12_undo_37 rfl (lv_at hl 0 rfl) ?_
    refine lv_aload_n hx hb dX12_undo_38 rfl (lv_at hl 0 rfl) ?_
    refine va_get (ci := 12) (v := .ref s0) (C := RX12) (T := TX12) (N := 60) hx hb hts hw12 hown hK hP 2 rfl rfl 7 (by decide +kernel) (hts _ mm_X12_undo_837) (fun _ h9 => h9) rfl dX12_undo_39 ?_
    refine lv_aload_n hx hb dX12_undo_42 rfl (lv_at hl 0 rfl) ?_
    refine va_get (ci := 12) (v := .int x_98) (C := RX12) (T := TX12) (N := 60) hx hb hts hw12 hown hK hP 2 rfl rfl 8 (by decide +kernel) (hts _ mm_X12_undo_838) (fun _ h9 => h9) rfl dX12_undo_43 ?_
    refine va_iald hx hb hK hP 0 0 rfl rfl (i_in hx_98 (by omega)) dX12_undo_46 ?_
    refine lv_topi (fun x_104 ex_104 => ?_)
    replace hE := hE.trans (Lt_in ex_104)
    have hx_104 := Rg.at zfs hx_98 (show 0 ≤ (nu.toInt - 1) ∧ (nu.toInt - 1) < _ by omega)
    rw [← ex_104] at hx_104
    refine kci (S := Su) (wr := [(s0, .inl (K 0, 16, .inl fs)), (w0, .inl (K 0, 5500, .inl (u_100.2.1 0))), (u0, .inl (K 0, 558, .inl fu))]) (va_runV (As := [.int x_104]) (rest := []) ⟨hx, hb, hml, hown, hts⟩ (v_tell l D K m0 x_104 (.int 0) sta r0 (.ref w0) m_4 m_5 (.ref u0) (.ref s0) (.int x_98) m_9 m_10 m_11 m_12 m_13 m_14 m_15 m_16 m_17 m_18 m_19 m_20 m_21 m_22 m_23 m_24 m_25 m_26 m_27 m_28 m_29 m_30 m_31 m_32 m_33 m_34 m_35 m_36 m_37 m_38 m_39 m_40 m_41 m_42 m_43 m_44 m_45 m_46 m_47 m_48 m_49 m_50 m_51 m_52 m_53 m_54 m_55 m_56 m_57 m_58 m_59 frf H.size (by first | omega | decide)) (cwV 1 hts gX12_undo_X12_tell rfl rfl rfl (by decide +kernel) ⟨Nat.le_of_ble_eq_true rfl, Nat.le_of_ble_eq_true rfl⟩) (mkV hK hN (hP.sub [2, 1] rfl) (hD.sub [2, 1] (by decide +kernel) rfl) (ci := 12) (q0 := 0) rfl rfl) rfl rfl hl.1 rfl (lv_room (Nat.le_of_ble_eq_true rfl)) dX12_undo_47 ⟨Nat.le_of_ble_eq_true rfl, Nat.le_of_ble_eq_true rfl⟩) hP hD hS hA [2, 1] [0, 3, 4] rfl rfl (by decide +kernel) (by decide +kernel) (fun r_105 u_106 H locs hw hP0 hD0 hS0 => ?_)
    clear hP hD hS
    have hP := hP0
    have hD := hD0
    have hS := hS0
    clear hP0 hD0 hS0
    replace hP : va_P D vwCl [(s0, .inl (K 0, 16, .inl fs)), (w0, .inl (K 0, 5500, .inl (u_100.2.1 0))), (u0, .inl (K 0, 558, .inl fu)), (m0, .inr (12, [.int 0, .int (u_106.2.2.2.1 0), .ref r0, .ref w0, m_4, m_5, .ref u0, .ref s0, .int x_98, m_9, m_10, m_11, m_12, m_13, m_14, m_15, m_16, m_17, m_18, m_19, m_20, m_21, m_22, m_23, m_24, m_25, m_26, m_27, m_28, m_29, m_30, m_31, m_32, m_33, m_34, m_35, m_36, m_37, m_38, m_39, m_40, m_41, m_42, m_43, m_44, m_45, m_46, m_47, m_48, m_49, m_50, m_51, m_52, m_53, m_54, m_55, m_56, m_57, m_58, m_59])), (r0, .inl (K 0, 7, .inl (u_106.2.1 0)))] H := hP
    replace hD : va_D A [(s0, .inl (K 0, 16, .inl fs)), (w0, .inl (K 0, 5500, .inl (u_100.2.1 0))), (u0, .inl (K 0, 558, .inl fu)), (m0, .inr (12, [.int 0, .int (u_106.2.2.2.1 0), .ref r0, .ref w0, m_4, m_5, .ref u0, .ref s0, .int x_98, m_9, m_10, m_11, m_12, m_13, m_14, m_15, m_16, m_17, m_18, m_19, m_20, m_21, m_22, m_23, m_24, m_25, m_26, m_27, m_28, m_29, m_30, m_31, m_32, m_33, m_34, m_35, m_36, m_37, m_38, m_39, m_40, m_41, m_42, m_43, m_44, m_45, m_46, m_47, m_48, m_49, m_50, m_51, m_52, m_53, m_54, m_55, m_56, m_57, m_58, m_59])), (r0, .inl (K 0, 7, .inl (u_106.2.1 0)))] := hD
    obtain ⟨h_109, k_107, k_108, -⟩ := hw
    replace hE := (hE.trans (Lt2_in k_108)).trans (Lt2_in rfl)
    rw [← hQ]
    have hP9 := hP.sub (ws' := [(m0, .inr (12, [.int 0, .int (u_106.2.2.2.1 0), .ref r0, .ref w0, m_4, m_5, .ref u0, .ref s0, .int x_98, m_9, m_10, m_11, m_12, m_13, m_14, m_15, m_16, m_17, m_18, m_19, m_20, m_21, m_22, m_23, m_24, m_25, m_26, m_27, m_28, m_29, m_30, m_31, m_32, m_33, m_34, m_35, m_36, m_37, m_38, m_39, m_40, m_41, m_42, m_43, m_44, m_45, m_46, m_47, m_48, m_49, m_50, m_51, m_52, m_53, m_54, m_55, m_56, m_57, m_58, m_59])), (w0, .inl (K 0, 5500, .inl (u_100.2.1 0))), (u0, .inl (K 0, 558, .inl fu)), (s0, .inl (K 0, 16, .inl fs)), (r0, .inl (K 0, 7, .inl (u_106.2.1 0)))]) [3, 1, 2, 0, 4] rfl
    have hD9 := hD.sub (ws' := [(m0, .inr (12, [.int 0, .int (u_106.2.2.2.1 0), .ref r0, .ref w0, m_4, m_5, .ref u0, .ref s0, .int x_98, m_9, m_10, m_11, m_12, m_13, m_14, m_15, m_16, m_17, m_18, m_19, m_20, m_21, m_22, m_23, m_24, m_25, m_26, m_27, m_28, m_29, m_30, m_31, m_32, m_33, m_34, m_35, m_36, m_37, m_38, m_39, m_40, m_41, m_42, m_43, m_44, m_45, m_46, m_47, m_48, m_49, m_50, m_51, m_52, m_53, m_54, m_55, m_56, m_57, m_58, m_59])), (w0, .inl (K 0, 5500, .inl (u_100.2.1 0))), (u0, .inl (K 0, 558, .inl fu)), (s0, .inl (K 0, 16, .inl fs)), (r0, .inl (K 0, 7, .inl (u_106.2.1 0)))]) [3, 1, 2, 0, 4] (by decide +kernel) rfl
    exact W.iret (v := r_105) hx hb hr (fun t ht hW => ⟨⟨r_105, ((fun _ => 0, fun i => match i with | 0 => (u_100.2.1 0) | _ => (u_106.2.1 0), fun _ => fun _ => 0, fun i => match i with | 0 => (u_106.2.2.2.1 0) | _ => x_98, fun _ => 0, fun _ => fun _ => none) : Su), rfl, ⟨(show (-6) ≤ r_105.toInt by omega), (show (-6) ≤ ((u_106.2.2.2.1 0) : Int32).toInt ∧ ((u_106.2.2.2.1 0) : Int32).toInt ≤ 0 by omega), (show 0 ≤ (x_98 : Int32).toInt ∧ (x_98 : Int32).toInt ≤ 15 by rw [hx_98]; omega), k_101, k_102, hE.symm, trivial⟩, (⟨by rw [ht]; exact hP9, hD9⟩ : Wd D A _ t)⟩, hS.F ht⟩) hS.2.2 dX12_undo_50
  · have c_97i := i_eq (x := nu.toInt) (y := 0) rfl rfl c_97
    replace hE := hE.trans (if_pos c_97)
    refine lv_aload_n hx hb dX12_undo_12 rfl (lv_at hl 0 rfl) ?_
    refine lv_bipush (v := (-3)) hx hb dX12_undo_13 (by decide +kernel) ?_
    refine kci (S := Su) (wr := [(w0, .inl (K 0, 5500, .inl fw)), (u0, .inl (K 0, 558, .inl fu)), (s0, .inl (K 0, 16, .inl fs))]) (va_runV (As := [.int (-3)]) (rest := []) ⟨hx, hb, hml, hown, hts⟩ (v_tell l D K m0 (-3) (.int 0) sta r0 (.ref w0) m_4 m_5 (.ref u0) (.ref s0) (.int nu) m_9 m_10 m_11 m_12 m_13 m_14 m_15 m_16 m_17 m_18 m_19 m_20 m_21 m_22 m_23 m_24 m_25 m_26 m_27 m_28 m_29 m_30 m_31 m_32 m_33 m_34 m_35 m_36 m_37 m_38 m_39 m_40 m_41 m_42 m_43 m_44 m_45 m_46 m_47 m_48 m_49 m_50 m_51 m_52 m_53 m_54 m_55 m_56 m_57 m_58 m_59 frf H.size (by first | omega | decide)) (cwV 1 hts gX12_undo_X12_tell rfl rfl rfl (by decide +kernel) ⟨Nat.le_of_ble_eq_true rfl, Nat.le_of_ble_eq_true rfl⟩) (mkV hK hN (hP.sub [0, 4] rfl) (hD.sub [0, 4] (by decide +kernel) rfl) (ci := 12) (q0 := 0) rfl rfl) rfl rfl hl.1 rfl (lv_room (Nat.le_of_ble_eq_true rfl)) dX12_undo_15 ⟨Nat.le_of_ble_eq_true rfl, Nat.le_of_ble_eq_true rfl⟩) hP hD hS hA [0, 4] [1, 2, 3] rfl rfl (by decide +kernel) (by decide +kernel) (fun r_110 u_111 H locs hw hP0 hD0 hS0 => ?_)
    clear hP hD hS
    have hP := hP0
    have hD := hD0
    have hS := hS0
    clear hP0 hD0 hS0
    replace hP : va_P D vwCl [(w0, .inl (K 0, 5500, .inl fw)), (u0, .inl (K 0, 558, .inl fu)), (s0, .inl (K 0, 16, .inl fs)), (m0, .inr (12, [.int 0, .int (u_111.2.2.2.1 0), .ref r0, .ref w0, m_4, m_5, .ref u0, .ref s0, .int nu, m_9, m_10, m_11, m_12, m_13, m_14, m_15, m_16, m_17, m_18, m_19, m_20, m_21, m_22, m_23, m_24, m_25, m_26, m_27, m_28, m_29, m_30, m_31, m_32, m_33, m_34, m_35, m_36, m_37, m_38, m_39, m_40, m_41, m_42, m_43, m_44, m_45, m_46, m_47, m_48, m_49, m_50, m_51, m_52, m_53, m_54, m_55, m_56, m_57, m_58, m_59])), (r0, .inl (K 0, 7, .inl (u_111.2.1 0)))] H := hP
    replace hD : va_D A [(w0, .inl (K 0, 5500, .inl fw)), (u0, .inl (K 0, 558, .inl fu)), (s0, .inl (K 0, 16, .inl fs)), (m0, .inr (12, [.int 0, .int (u_111.2.2.2.1 0), .ref r0, .ref w0, m_4, m_5, .ref u0, .ref s0, .int nu, m_9, m_10, m_11, m_12, m_13, m_14, m_15, m_16, m_17, m_18, m_19, m_20, m_21, m_22, m_23, m_24, m_25, m_26, m_27, m_28, m_29, m_30, m_31, m_32, m_33, m_34, m_35, m_36, m_37, m_38, m_39, m_40, m_41, m_42, m_43, m_44, m_45, m_46, m_47, m_48, m_49, m_50, m_51, m_52, m_53, m_54, m_55, m_56, m_57, m_58, m_59])), (r0, .inl (K 0, 7, .inl (u_111.2.1 0)))] := hD
    obtain ⟨h_114, k_112, k_113, -⟩ := hw
    replace hE := (hE.trans (Lt2_in k_113)).trans (Lt2_in rfl)
    rw [← hQ]
    have hP9 := hP.sub (ws' := [(m0, .inr (12, [.int 0, .int (u_111.2.2.2.1 0), .ref r0, .ref w0, m_4, m_5, .ref u0, .ref s0, .int nu, m_9, m_10, m_11, m_12, m_13, m_14, m_15, m_16, m_17, m_18, m_19, m_20, m_21, m_22, m_23, m_24, m_25, m_26, m_27, m_28, m_29, m_30, m_31, m_32, m_33, m_34, m_35, m_36, m_37, m_38, m_39, m_40, m_41, m_42, m_43, m_44, m_45, m_46, m_47, m_48, m_49, m_50, m_51, m_52, m_53, m_54, m_55, m_56, m_57, m_58, m_59])), (w0, .inl (K 0, 5500, .inl fw)), (u0, .inl (K 0, 558, .inl fu)), (s0, .inl (K 0, 16, .inl fs)), (r0, .inl (K 0, 7, .inl (u_111.2.1 0)))]) [3, 0, 1, 2, 4] rfl
    have hD9 := hD.sub (ws' := [(m0, .inr (12, [.int 0, .int (u_111.2.2.2.1 0), .ref r0, .ref w0, m_4, m_5, .ref u0, .ref s0, .int nu, m_9, m_10, m_11, m_12, m_13, m_14, m_15, m_16, m_17, m_18, m_19, m_20, m_21, m_22, m_23, m_24, m_25, m_26, m_27, m_28, m_29, m_30, m_31, m_32, m_33, m_34, m_35, m_36, m_37, m_38, m_39, m_40, m_41, m_42, m_43, m_44, m_45, m_46, m_47, m_48, m_49, m_50, m_51, m_52, m_53, m_54, m_55, m_56, m_57, m_58, m_59])), (w0, .inl (K 0, 5500, .inl fw)), (u0, .inl (K 0, 558, .inl fu)), (s0, .inl (K 0, 16, .inl fs)), (r0, .inl (K 0, 7, .inl (u_111.2.1 0)))]) [3, 0, 1, 2, 4] (by decide +kernel) rfl
    exact W.iret (v := r_110) hx hb hr (fun t ht hW => ⟨⟨r_110, ((fun _ => 0, fun i => match i with | 0 => fw | _ => (u_111.2.1 0), fun _ => fun _ => 0, fun i => match i with | 0 => (u_111.2.2.2.1 0) | _ => nu, fun _ => 0, fun _ => fun _ => none) : Su), rfl, ⟨(show (-6) ≤ r_110.toInt by omega), (show (-6) ≤ ((u_111.2.2.2.1 0) : Int32).toInt ∧ ((u_111.2.2.2.1 0) : Int32).toInt ≤ 0 by omega), (show 0 ≤ (nu : Int32).toInt ∧ (nu : Int32).toInt ≤ 15 by omega), zfw, zgr, hE.symm, trivial⟩, (⟨by rw [ht]; exact hP9, hD9⟩ : Wd D A _ t)⟩, hS.F ht⟩) hS.2.2 dX12_undo_18
set_option maxRecDepth 100000 in
noncomputable def E_v_term_0 (fw : Nat → Int32) : Int32 :=
  Lt (fw (4 : Int32).toNatClampNeg : Int32) (fun x_66 => (x_66 : Int32))
set_option maxHeartbeats 4000000 in
set_option maxRecDepth 100000 in
theorem v_term_0 (l : Launch) (D : va_G) (K : Nat → ClassId) (m0 : Nat) (m_0 : Value) (m_1 : Value) (m_2 : Value) (w0 : Nat) (m_4 : Value) (m_5 : Value) (m_6 : Value) (m_7 : Value) (m_8 : Value) (m_9 : Value) (m_10 : Value) (m_11 : Value) (m_12 : Value) (m_13 : Value) (m_14 : Value) (m_15 : Value) (m_16 : Value) (m_17 : Value) (m_18 : Value) (m_19 : Value) (m_20 : Value) (m_21 : Value) (m_22 : Value) (m_23 : Value) (m_24 : Value) (m_25 : Value) (m_26 : Value) (m_27 : Value) (m_28 : Value) (m_29 : Value) (m_30 : Value) (m_31 : Value) (m_32 : Value) (m_33 : Value) (m_34 : Value) (m_35 : Value) (m_36 : Value) (m_37 : Value) (m_38 : Value) (m_39 : Value) (m_40 : Value) (m_41 : Value) (m_42 : Value) (m_43 : Value) (m_44 : Value) (m_45 : Value) (m_46 : Value) (m_47 : Value) (m_48 : Value) (m_49 : Value) (m_50 : Value) (m_51 : Value) (m_52 : Value) (m_53 : Value) (m_54 : Value) (m_55 : Value) (m_56 : Value) (m_57 : Value) (m_58 : Value) (m_59 : Value) (fw : Nat → Int32) (sz : Nat) (zfw : RwOK fw) : Met l yX12_term wsX12_term ({ frames := 0, cells := 0, slots := 0, locals := 0 }) (va_Pc [.ref m0, .int 0] (Pre D K [(m0, .inr (12, [m_0, m_1, m_2, .ref w0, m_4, m_5, m_6, m_7, m_8, m_9, m_10, m_11, m_12, m_13, m_14, m_15, m_16, m_17, m_18, m_19, m_20, m_21, m_22, m_23, m_24, m_25, m_26, m_27, m_28, m_29, m_30, m_31, m_32, m_33, m_34, m_35, m_36, m_37, m_38, m_39, m_40, m_41, m_42, m_43, m_44, m_45, m_46, m_47, m_48, m_49, m_50, m_51, m_52, m_53, m_54, m_55, m_56, m_57, m_58, m_59])), (w0, .inl (K 0, 5500, .inl fw))] sz)) (vp_Si (fun r : Int32 => (0 ≤ r.toInt ∧ r.toInt ≤ 23) ∧ (r = E_v_term_0 fw) ∧ True)) 0 0 (fun _ => False) := by
  refine Met.ofW (cc := cX12_term) (maxL := 2) (ret := (some .int)) (by decide +kernel) rfl ?_
  intro p e s m args below meth c s₁ B hml hv
  obtain ⟨rfl, hsz, hP, hK, hD0, hN⟩ := hv
  have hx := B.exec
  have hb := B.bytes
  have hr := B.returns
  have hts := atoms_spec (ws := wsX12_term) B.pre
  have hown : s.vm.findClass RX12 = some m.cls := findClass_of_methodNamed B.named
  have hlocks := B.notSynchronized
  subst hsz
  have hD := hD0
  replace hP : va_P D vwCl [(m0, .inr (12, [m_0, m_1, m_2, .ref w0, m_4, m_5, m_6, m_7, m_8, m_9, m_10, m_11, m_12, m_13, m_14, m_15, m_16, m_17, m_18, m_19, m_20, m_21, m_22, m_23, m_24, m_25, m_26, m_27, m_28, m_29, m_30, m_31, m_32, m_33, m_34, m_35, m_36, m_37, m_38, m_39, m_40, m_41, m_42, m_43, m_44, m_45, m_46, m_47, m_48, m_49, m_50, m_51, m_52, m_53, m_54, m_55, m_56, m_57, m_58, m_59])), (w0, .inl (K 0, 5500, .inl fw))] s.heap := hP
  have hl := lv_entry [.ref m0, .int 0] (n := 2) (Nat.le_of_ble_eq_true rfl)
  rw [lg_entry_eq]
  generalize (lg_sl [.ref m0, .int 0] ++ List.replicate (2 - (lg_sl [.ref m0, .int 0]).length) Slot.unset).toArray = ls at hl ⊢
  have hl : lv_has ls 2 [(0, .ref m0), (1, .int 0)] := hl
  have hw12 : ∀ w ∈ wsX120, w ∈ wsX12_term := fun w h => (List.mem_cons_of_mem _ (List.mem_append_right _ h))
  generalize hQ : MQ below _ _ s _ _ _ = Q
  have hE := E_v_term_0.eq_def fw
  refine lv_aload_n hx hb dX12_term_0 rfl (lv_at hl 0 rfl) ?_
  refine va_get (ci := 12) (v := .ref w0) (C := RX12) (T := TX12) (N := 60) hx hb hts hw12 hown hK hP 0 rfl rfl 3 (by decide +kernel) (hts _ mm_X12_term_833) (fun _ h9 => h9) rfl dX12_term_1 ?_
  refine lv_iconst (v := 4) hx hb dX12_term_4 (by decide +kernel) ?_
  refine lv_iload_n hx hb dX12_term_5 rfl (lv_at hl 1 rfl) ?_
  refine lv_iadd hx hb dX12_term_6 ?_
  refine lv_topi (fun x_65 ex_65 => ?_)
  obtain rfl : x_65 = 4 := ex_65.trans (by first | rfl | decide)
  refine va_iald hx hb hK hP 1 0 rfl rfl (i_in (x := 4) rfl (by omega)) dX12_term_7 ?_
  refine lv_topi (fun x_66 ex_66 => ?_)
  replace hE := hE.trans (Lt_in ex_66)
  have px_66 := RwOK.at zfw (show (4 : Int32).toInt = 4 from rfl) (show 0 ≤ 4 ∧ 4 < 100 by omega)
  rw [← ex_66] at px_66
  have hx_66 := PR.r_4 px_66 (by omega)
  rw [← hQ]
  exact W.iret (v := x_66) hx hb hr (fun t ht hW => ⟨_, rfl, ⟨(show 0 ≤ x_66.toInt ∧ x_66.toInt ≤ 23 by omega), hE.symm, trivial⟩, ht⟩) (fun q hq => by cases hq) dX12_term_8
set_option maxRecDepth 100000 in
noncomputable def E_v_term (x : Int32) (fw : Nat → Int32) : Int32 :=
  Lt (4 + x : Int32) (fun x_65 => Lt (fw (x_65 : Int32).toNatClampNeg : Int32) (fun x_66 => (x_66 : Int32)))
set_option maxHeartbeats 4000000 in
set_option maxRecDepth 100000 in
theorem v_term (l : Launch) (D : va_G) (K : Nat → ClassId) (m0 : Nat) (x : Int32) (m_0 : Value) (m_1 : Value) (m_2 : Value) (w0 : Nat) (m_4 : Value) (m_5 : Value) (m_6 : Value) (m_7 : Value) (m_8 : Value) (m_9 : Value) (m_10 : Value) (m_11 : Value) (m_12 : Value) (m_13 : Value) (m_14 : Value) (m_15 : Value) (m_16 : Value) (m_17 : Value) (m_18 : Value) (m_19 : Value) (m_20 : Value) (m_21 : Value) (m_22 : Value) (m_23 : Value) (m_24 : Value) (m_25 : Value) (m_26 : Value) (m_27 : Value) (m_28 : Value) (m_29 : Value) (m_30 : Value) (m_31 : Value) (m_32 : Value) (m_33 : Value) (m_34 : Value) (m_35 : Value) (m_36 : Value) (m_37 : Value) (m_38 : Value) (m_39 : Value) (m_40 : Value) (m_41 : Value) (m_42 : Value) (m_43 : Value) (m_44 : Value) (m_45 : Value) (m_46 : Value) (m_47 : Value) (m_48 : Value) (m_49 : Value) (m_50 : Value) (m_51 : Value) (m_52 : Value) (m_53 : Value) (m_54 : Value) (m_55 : Value) (m_56 : Value) (m_57 : Value) (m_58 : Value) (m_59 : Value) (fw : Nat → Int32) (sz : Nat) (zx : 0 ≤ x.toInt ∧ x.toInt ≤ 5) (zfw : RwOK fw) : Met l yX12_term wsX12_term ({ frames := 0, cells := 0, slots := 0, locals := 0 }) (va_Pc [.ref m0, .int x] (Pre D K [(m0, .inr (12, [m_0, m_1, m_2, .ref w0, m_4, m_5, m_6, m_7, m_8, m_9, m_10, m_11, m_12, m_13, m_14, m_15, m_16, m_17, m_18, m_19, m_20, m_21, m_22, m_23, m_24, m_25, m_26, m_27, m_28, m_29, m_30, m_31, m_32, m_33, m_34, m_35, m_36, m_37, m_38, m_39, m_40, m_41, m_42, m_43, m_44, m_45, m_46, m_47, m_48, m_49, m_50, m_51, m_52, m_53, m_54, m_55, m_56, m_57, m_58, m_59])), (w0, .inl (K 0, 5500, .inl fw))] sz)) (vp_Si (fun r : Int32 => (r = E_v_term x fw) ∧ True)) 0 0 (fun _ => False) := by
  refine Met.ofW (cc := cX12_term) (maxL := 2) (ret := (some .int)) (by decide +kernel) rfl ?_
  intro p e s m args below meth c s₁ B hml hv
  obtain ⟨rfl, hsz, hP, hK, hD0, hN⟩ := hv
  have hx := B.exec
  have hb := B.bytes
  have hr := B.returns
  have hts := atoms_spec (ws := wsX12_term) B.pre
  have hown : s.vm.findClass RX12 = some m.cls := findClass_of_methodNamed B.named
  have hlocks := B.notSynchronized
  subst hsz
  have hD := hD0
  replace hP : va_P D vwCl [(m0, .inr (12, [m_0, m_1, m_2, .ref w0, m_4, m_5, m_6, m_7, m_8, m_9, m_10, m_11, m_12, m_13, m_14, m_15, m_16, m_17, m_18, m_19, m_20, m_21, m_22, m_23, m_24, m_25, m_26, m_27, m_28, m_29, m_30, m_31, m_32, m_33, m_34, m_35, m_36, m_37, m_38, m_39, m_40, m_41, m_42, m_43, m_44, m_45, m_46, m_47, m_48, m_49, m_50, m_51, m_52, m_53, m_54, m_55, m_56, m_57, m_58, m_59])), (w0, .inl (K 0, 5500, .inl fw))] s.heap := hP
  have hl := lv_entry [.ref m0, .int x] (n := 2) (Nat.le_of_ble_eq_true rfl)
  rw [lg_entry_eq]
  generalize (lg_sl [.ref m0, .int x] ++ List.replicate (2 - (lg_sl [.ref m0, .int x]).length) Slot.unset).toArray = ls at hl ⊢
  have hl : lv_has ls 2 [(0, .ref m0), (1, .int x)] := hl
  have hw12 : ∀ w ∈ wsX120, w ∈ wsX12_term := fun w h => (List.mem_cons_of_mem _ (List.mem_append_right _ h))
  generalize hQ : MQ below _ _ s _ _ _ = Q
  have hE := E_v_term.eq_def x fw
  refine lv_aload_n hx hb dX12_term_0 rfl (lv_at hl 0 rfl) ?_
  refine va_get (ci := 12) (v := .ref w0) (C := RX12) (T := TX12) (N := 60) hx hb hts hw12 hown hK hP 0 rfl rfl 3 (by decide +kernel) (hts _ mm_X12_term_833) (fun _ h9 => h9) rfl dX12_term_1 ?_
  refine lv_iconst (v := 4) hx hb dX12_term_4 (by decide +kernel) ?_
  refine lv_iload_n hx hb dX12_term_5 rfl (lv_at hl 1 rfl) ?_
  refine lv_iadd hx hb dX12_term_6 ?_
  refine lv_topi (fun x_65 ex_65 => ?_)
  replace hE := hE.trans (Lt_in ex_65)
  have hx_65 : x_65.toInt = (4 + x.toInt) := by rw [ex_65]; exact i_add (show (4 : Int32).toInt = 4 from rfl) rfl (by omega)
  refine va_iald hx hb hK hP 1 0 rfl rfl (i_in hx_65 (by omega)) dX12_term_7 ?_
  refine lv_topi (fun x_66 ex_66 => ?_)
  replace hE := hE.trans (Lt_in ex_66)
  have px_66 := RwOK.at zfw hx_65 (show 0 ≤ (4 + x.toInt) ∧ (4 + x.toInt) < 100 by omega)
  rw [← ex_66] at px_66
  rw [← hQ]
  exact W.iret (v := x_66) hx hb hr (fun t ht hW => ⟨_, rfl, ⟨hE.symm, trivial⟩, ht⟩) (fun q hq => by cases hq) dX12_term_8
set_option maxRecDepth 100000 in
noncomputable def E_v_isHouse (x : Int32) (fw : Nat → Int32) : Int32 :=
  Lt ((x : Int32).toInt64 : Int64) (fun x_79 => Lt (fw (0 : Int32).toNatClampNeg : Int32) (fun x_80 => Lt ((x_80 : Int32).toInt64 : Int64) (fun x_81 => Lt (x_81 - 1 : Int64) (fun x_82 => Lt (E_v_in x_79 0 x_82) (fun r_83 => if r_83 = 1 then ((1 : Int32)) else ((0 : Int32)))))))
set_option maxHeartbeats 4000000 in
set_option maxRecDepth 100000 in
theorem v_isHouse (l : Launch) (D : va_G) (K : Nat → ClassId) (X : Int) (m0 : Nat) (x : Int32) (m_0 : Value) (m_1 : Value) (m_2 : Value) (w0 : Nat) (m_4 : Value) (m_5 : Value) (m_6 : Value) (m_7 : Value) (m_8 : Value) (m_9 : Value) (m_10 : Value) (m_11 : Value) (m_12 : Value) (m_13 : Value) (m_14 : Value) (m_15 : Value) (m_16 : Value) (m_17 : Value) (m_18 : Value) (m_19 : Value) (m_20 : Value) (m_21 : Value) (m_22 : Value) (m_23 : Value) (m_24 : Value) (m_25 : Value) (m_26 : Value) (m_27 : Value) (m_28 : Value) (m_29 : Value) (m_30 : Value) (m_31 : Value) (m_32 : Value) (m_33 : Value) (m_34 : Value) (m_35 : Value) (m_36 : Value) (m_37 : Value) (m_38 : Value) (m_39 : Value) (m_40 : Value) (m_41 : Value) (m_42 : Value) (m_43 : Value) (m_44 : Value) (m_45 : Value) (m_46 : Value) (m_47 : Value) (m_48 : Value) (m_49 : Value) (m_50 : Value) (m_51 : Value) (m_52 : Value) (m_53 : Value) (m_54 : Value) (m_55 : Value) (m_56 : Value) (m_57 : Value) (m_58 : Value) (m_59 : Value) (fw : Nat → Int32) (sz : Nat) (qx : x.toInt = X) (zfw : RwOK fw) : Met l yX12_isHouse wsX12_isHouse ({ frames := 1, cells := 0, slots := 0, locals := 25 }) (va_Pc [.ref m0, .int x] (Pre D K [(m0, .inr (12, [m_0, m_1, m_2, .ref w0, m_4, m_5, m_6, m_7, m_8, m_9, m_10, m_11, m_12, m_13, m_14, m_15, m_16, m_17, m_18, m_19, m_20, m_21, m_22, m_23, m_24, m_25, m_26, m_27, m_28, m_29, m_30, m_31, m_32, m_33, m_34, m_35, m_36, m_37, m_38, m_39, m_40, m_41, m_42, m_43, m_44, m_45, m_46, m_47, m_48, m_49, m_50, m_51, m_52, m_53, m_54, m_55, m_56, m_57, m_58, m_59])), (w0, .inl (K 0, 5500, .inl fw))] sz)) (vp_Si (fun r : Int32 => ((r = 1 ∧ 0 ≤ X ∧ X ≤ 7) ∨ (r = 0)) ∧ (r = E_v_isHouse x fw) ∧ True)) 0 0 (fun _ => False) := by
  refine Met.ofW (cc := cX12_isHouse) (maxL := 2) (ret := (some .boolean)) (by decide +kernel) rfl ?_
  intro p e s m args below meth c s₁ B hml hv
  obtain ⟨rfl, hsz, hP, hK, hD0, hN⟩ := hv
  have hx := B.exec
  have hb := B.bytes
  have hr := B.returns
  have hts := atoms_spec (ws := wsX12_isHouse) B.pre
  have hown : s.vm.findClass RX12 = some m.cls := findClass_of_methodNamed B.named
  have hlocks := B.notSynchronized
  subst hsz
  have hD := hD0
  replace hP : va_P D vwCl [(m0, .inr (12, [m_0, m_1, m_2, .ref w0, m_4, m_5, m_6, m_7, m_8, m_9, m_10, m_11, m_12, m_13, m_14, m_15, m_16, m_17, m_18, m_19, m_20, m_21, m_22, m_23, m_24, m_25, m_26, m_27, m_28, m_29, m_30, m_31, m_32, m_33, m_34, m_35, m_36, m_37, m_38, m_39, m_40, m_41, m_42, m_43, m_44, m_45, m_46, m_47, m_48, m_49, m_50, m_51, m_52, m_53, m_54, m_55, m_56, m_57, m_58, m_59])), (w0, .inl (K 0, 5500, .inl fw))] s.heap := hP
  have hl := lv_entry [.ref m0, .int x] (n := 2) (Nat.le_of_ble_eq_true rfl)
  rw [lg_entry_eq]
  generalize (lg_sl [.ref m0, .int x] ++ List.replicate (2 - (lg_sl [.ref m0, .int x]).length) Slot.unset).toArray = ls at hl ⊢
  have hl : lv_has ls 2 [(0, .ref m0), (1, .int x)] := hl
  have hw12 : ∀ w ∈ wsX120, w ∈ wsX12_isHouse := fun w h => (List.mem_cons_of_mem _ (List.mem_append_right _ h))
  generalize hQ : MQ below _ _ s _ _ _ = Q
  have hE := E_v_isHouse.eq_def x fw
  refine lv_iload_n hx hb dX12_isHouse_0 rfl (lv_at hl 1 rfl) ?_
  refine lv_i2l hx hb dX12_isHouse_1 rfl ?_
  refine lv_topl (fun x_79 ex_79 => ?_)
  replace hE := hE.trans (Lt_in ex_79)
  have hx_79 : x_79.toInt = X := by rw [ex_79]; exact i_wide qx
  refine lv_lconst (v := 0) hx hb dX12_isHouse_2 (by decide +kernel) ?_
  refine lv_aload_n hx hb dX12_isHouse_3 rfl (lv_at hl 0 rfl) ?_
  refine va_get (ci := 12) (v := .ref w0) (C := RX12) (T := TX12) (N := 60) hx hb hts hw12 hown hK hP 0 rfl rfl 3 (by decide +kernel) (hts _ mm_X12_isHouse_833) (fun _ h9 => h9) rfl dX12_isHouse_4 ?_
  refine lv_iconst (v := 0) hx hb dX12_isHouse_7 (by decide +kernel) ?_
  refine va_iald hx hb hK hP 1 0 rfl rfl (i_in (x := 0) rfl (by omega)) dX12_isHouse_8 ?_
  refine lv_topi (fun x_80 ex_80 => ?_)
  replace hE := hE.trans (Lt_in ex_80)
  have px_80 := RwOK.at zfw (show (0 : Int32).toInt = 0 from rfl) (show 0 ≤ 0 ∧ 0 < 100 by omega)
  rw [← ex_80] at px_80
  have hx_80 := PR.r_0 px_80 (by omega)
  refine lv_i2l hx hb dX12_isHouse_9 rfl ?_
  refine lv_topl (fun x_81 ex_81 => ?_)
  replace hE := hE.trans (Lt_in ex_81)
  have hx_81 : x_81.toInt = x_80.toInt := by rw [ex_81]; exact i_wide rfl
  refine lv_lconst (v := 1) hx hb dX12_isHouse_10 (by decide +kernel) ?_
  refine lv_lsub hx hb dX12_isHouse_11 ?_
  refine lv_topl (fun x_82 ex_82 => ?_)
  replace hE := hE.trans (Lt_in ex_82)
  have hx_82 : x_82.toInt = (x_80.toInt - 1) := by rw [ex_82]; exact l_sub hx_81 (show (1 : Int64).toInt = 1 from rfl) (by omega)
  refine pci (va_runS (As := [.long x_79, .long 0, .long x_82]) (rest := []) ⟨hx, hb, hml, hown, hts⟩ (v_in l D K X 0 (x_80.toInt - 1) x_79 0 x_82 s.heap.size hx_79 (show (0 : Int64).toInt = 0 from rfl) hx_82) (va_cwS 3 hts gX12_isHouse_X12_in rfl rfl rfl (by decide +kernel) ⟨Nat.le_of_ble_eq_true rfl, Nat.le_of_ble_eq_true rfl⟩) (mkS hK hN (va_P.nil) (va_D.nil (A := fun _ => True))) rfl rfl hl.1 rfl (lv_room (Nat.le_of_ble_eq_true rfl)) dX12_isHouse_12 ⟨Nat.le_of_ble_eq_true rfl, Nat.le_of_ble_eq_true rfl⟩) (fun r_83 hw => ?_)
  obtain ⟨hw, k_84, -⟩ := hw
  replace hE := hE.trans (Lt_in k_84)
  rcases hw with ⟨rfl, h_85, h_86⟩ | ⟨rfl, h_87⟩
  · replace hE := (hE).trans (if_pos rfl)
    rw [← hQ]
    exact W.zret (v := 1) hx hb hr (by decide +kernel) (fun t ht hW => ⟨_, rfl, ⟨(by first | exact Or.inl ⟨rfl, by first | omega | decide | (subst_vars; assumption), by first | omega | decide | (subst_vars; assumption)⟩), hE.symm, trivial⟩, ht⟩) (fun q hq => by cases hq) dX12_isHouse_15
  · replace hE := (hE).trans (if_neg (by first | decide | (intro h9; have h8 := congrArg Int32.toInt h9; omega)))
    rw [← hQ]
    exact W.zret (v := 0) hx hb hr (by decide +kernel) (fun t ht hW => ⟨_, rfl, ⟨(by first | exact Or.inr (rfl)), hE.symm, trivial⟩, ht⟩) (fun q hq => by cases hq) dX12_isHouse_15
set_option maxRecDepth 100000 in
noncomputable def E_v_isSounding (x : Int32) (fw : Nat → Int32) : Int32 :=
  Lt (11 + x : Int32) (fun x_89 => Lt (fw (x_89 : Int32).toNatClampNeg : Int32) (fun x_90 => Lt ((x_90 : Int32).toInt64 : Int64) (fun x_91 => Lt (E_v_term 2 fw) (fun r_92 => Lt ((r_92 : Int32).toInt64 : Int64) (fun x_94 => Lt (E_v_term 3 fw) (fun r_95 => Lt ((r_95 : Int32).toInt64 : Int64) (fun x_97 => Lt (E_v_in x_91 x_94 x_97) (fun r_98 => if r_98 = 1 then ((1 : Int32)) else ((0 : Int32))))))))))
set_option maxHeartbeats 4000000 in
set_option maxRecDepth 100000 in
theorem v_isSounding (l : Launch) (D : va_G) (K : Nat → ClassId) (m0 : Nat) (x : Int32) (m_0 : Value) (m_1 : Value) (m_2 : Value) (w0 : Nat) (m_4 : Value) (m_5 : Value) (m_6 : Value) (m_7 : Value) (m_8 : Value) (m_9 : Value) (m_10 : Value) (m_11 : Value) (m_12 : Value) (m_13 : Value) (m_14 : Value) (m_15 : Value) (m_16 : Value) (m_17 : Value) (m_18 : Value) (m_19 : Value) (m_20 : Value) (m_21 : Value) (m_22 : Value) (m_23 : Value) (m_24 : Value) (m_25 : Value) (m_26 : Value) (m_27 : Value) (m_28 : Value) (m_29 : Value) (m_30 : Value) (m_31 : Value) (m_32 : Value) (m_33 : Value) (m_34 : Value) (m_35 : Value) (m_36 : Value) (m_37 : Value) (m_38 : Value) (m_39 : Value) (m_40 : Value) (m_41 : Value) (m_42 : Value) (m_43 : Value) (m_44 : Value) (m_45 : Value) (m_46 : Value) (m_47 : Value) (m_48 : Value) (m_49 : Value) (m_50 : Value) (m_51 : Value) (m_52 : Value) (m_53 : Value) (m_54 : Value) (m_55 : Value) (m_56 : Value) (m_57 : Value) (m_58 : Value) (m_59 : Value) (fw : Nat → Int32) (sz : Nat) (zx : 0 ≤ x.toInt ∧ x.toInt ≤ 7) (zfw : RwOK fw) : Met l yX12_isSounding wsX12_isSounding ({ frames := 1, cells := 0, slots := 0, locals := 25 }) (va_Pc [.ref m0, .int x] (Pre D K [(m0, .inr (12, [m_0, m_1, m_2, .ref w0, m_4, m_5, m_6, m_7, m_8, m_9, m_10, m_11, m_12, m_13, m_14, m_15, m_16, m_17, m_18, m_19, m_20, m_21, m_22, m_23, m_24, m_25, m_26, m_27, m_28, m_29, m_30, m_31, m_32, m_33, m_34, m_35, m_36, m_37, m_38, m_39, m_40, m_41, m_42, m_43, m_44, m_45, m_46, m_47, m_48, m_49, m_50, m_51, m_52, m_53, m_54, m_55, m_56, m_57, m_58, m_59])), (w0, .inl (K 0, 5500, .inl fw))] sz)) (vp_Si (fun r : Int32 => (0 ≤ r.toInt ∧ r.toInt ≤ 1) ∧ (r = E_v_isSounding x fw) ∧ True)) 0 0 (fun _ => False) := by
  refine Met.ofW (cc := cX12_isSounding) (maxL := 2) (ret := (some .boolean)) (by decide +kernel) rfl ?_
  intro p e s m args below meth c s₁ B hml hv
  obtain ⟨rfl, hsz, hP, hK, hD0, hN⟩ := hv
  have hx := B.exec
  have hb := B.bytes
  have hr := B.returns
  have hts := atoms_spec (ws := wsX12_isSounding) B.pre
  have hown : s.vm.findClass RX12 = some m.cls := findClass_of_methodNamed B.named
  have hlocks := B.notSynchronized
  subst hsz
  have hD := hD0
  replace hP : va_P D vwCl [(m0, .inr (12, [m_0, m_1, m_2, .ref w0, m_4, m_5, m_6, m_7, m_8, m_9, m_10, m_11, m_12, m_13, m_14, m_15, m_16, m_17, m_18, m_19, m_20, m_21, m_22, m_23, m_24, m_25, m_26, m_27, m_28, m_29, m_30, m_31, m_32, m_33, m_34, m_35, m_36, m_37, m_38, m_39, m_40, m_41, m_42, m_43, m_44, m_45, m_46, m_47, m_48, m_49, m_50, m_51, m_52, m_53, m_54, m_55, m_56, m_57, m_58, m_59])), (w0, .inl (K 0, 5500, .inl fw))] s.heap := hP
  have hl := lv_entry [.ref m0, .int x] (n := 2) (Nat.le_of_ble_eq_true rfl)
  rw [lg_entry_eq]
  generalize (lg_sl [.ref m0, .int x] ++ List.replicate (2 - (lg_sl [.ref m0, .int x]).length) Slot.unset).toArray = ls at hl ⊢
  have hl : lv_has ls 2 [(0, .ref m0), (1, .int x)] := hl
  have hw12 : ∀ w ∈ wsX120, w ∈ wsX12_isSounding := fun w h => (List.mem_cons_of_mem _ (List.mem_append_right _ h))
  generalize hQ : MQ below _ _ s _ _ _ = Q
  have hE := E_v_isSounding.eq_def x fw
  refine lv_aload_n hx hb dX12_isSounding_0 rfl (lv_at hl 0 rfl) ?_
  refine va_get (ci := 12) (v := .ref w0) (C := RX12) (T := TX12) (N := 60) hx hb hts hw12 hown hK hP 0 rfl rfl 3 (by decide +kernel) (hts _ mm_X12_isSounding_833) (fun _ h9 => h9) rfl dX12_isSounding_1 ?_
  refine lv_bipush (v := 11) hx hb dX12_isSounding_4 (by decide +kernel) ?_
  refine lv_iload_n hx hb dX12_isSounding_6 rfl (lv_at hl 1 rfl) ?_
  refine lv_iadd hx hb dX12_isSounding_7 ?_
  refine lv_topi (fun x_89 ex_89 => ?_)
  replace hE := hE.trans (Lt_in ex_89)
  have hx_89 : x_89.toInt = (11 + x.toInt) := by rw [ex_89]; exact i_add (show (11 : Int32).toInt = 11 from rfl) rfl (by omega)
  refine va_iald hx hb hK hP 1 0 rfl rfl (i_in hx_89 (by omega)) dX12_isSounding_8 ?_
  refine lv_topi (fun x_90 ex_90 => ?_)
  replace hE := hE.trans (Lt_in ex_90)
  have px_90 := RwOK.at zfw hx_89 (show 0 ≤ (11 + x.toInt) ∧ (11 + x.toInt) < 100 by omega)
  rw [← ex_90] at px_90
  have hx_90 := PR.r_11 px_90 (by omega)
  refine lv_i2l hx hb dX12_isSounding_9 rfl ?_
  refine lv_topl (fun x_91 ex_91 => ?_)
  replace hE := hE.trans (Lt_in ex_91)
  have hx_91 : x_91.toInt = x_90.toInt := by rw [ex_91]; exact i_wide rfl
  refine lv_aload_n hx hb dX12_isSounding_10 rfl (lv_at hl 0 rfl) ?_
  refine lv_iconst (v := 2) hx hb dX12_isSounding_11 (by decide +kernel) ?_
  refine pci (va_runV (As := [.int 2]) (rest := [.long x_91]) ⟨hx, hb, hml, hown, hts⟩ (v_term l D K m0 2 m_0 m_1 m_2 w0 m_4 m_5 m_6 m_7 m_8 m_9 m_10 m_11 m_12 m_13 m_14 m_15 m_16 m_17 m_18 m_19 m_20 m_21 m_22 m_23 m_24 m_25 m_26 m_27 m_28 m_29 m_30 m_31 m_32 m_33 m_34 m_35 m_36 m_37 m_38 m_39 m_40 m_41 m_42 m_43 m_44 m_45 m_46 m_47 m_48 m_49 m_50 m_51 m_52 m_53 m_54 m_55 m_56 m_57 m_58 m_59 fw s.heap.size (by first | omega | decide) zfw) (cwV 1 hts gX12_isSounding_X12_term rfl rfl rfl (by decide +kernel) ⟨Nat.le_of_ble_eq_true rfl, Nat.le_of_ble_eq_true rfl⟩) (mkV hK hN (hP.sub [0, 1] rfl) (hD.sub [0, 1] (by decide +kernel) rfl) (ci := 12) (q0 := 0) rfl rfl) rfl rfl hl.1 rfl (lv_room (Nat.le_of_ble_eq_true rfl)) dX12_isSounding_12 ⟨Nat.le_of_ble_eq_true rfl, Nat.le_of_ble_eq_true rfl⟩) (fun r_92 hw => ?_)
  obtain ⟨k_93, -⟩ := hw
  replace hE := hE.trans (Lt_in k_93)
  refine lv_i2l hx hb dX12_isSounding_15 rfl ?_
  refine lv_topl (fun x_94 ex_94 => ?_)
  replace hE := hE.trans (Lt_in ex_94)
  have hx_94 : x_94.toInt = r_92.toInt := by rw [ex_94]; exact i_wide rfl
  refine lv_aload_n hx hb dX12_isSounding_16 rfl (lv_at hl 0 rfl) ?_
  refine lv_iconst (v := 3) hx hb dX12_isSounding_17 (by decide +kernel) ?_
  refine pci (va_runV (As := [.int 3]) (rest := [.long x_94, .long x_91]) ⟨hx, hb, hml, hown, hts⟩ (v_term l D K m0 3 m_0 m_1 m_2 w0 m_4 m_5 m_6 m_7 m_8 m_9 m_10 m_11 m_12 m_13 m_14 m_15 m_16 m_17 m_18 m_19 m_20 m_21 m_22 m_23 m_24 m_25 m_26 m_27 m_28 m_29 m_30 m_31 m_32 m_33 m_34 m_35 m_36 m_37 m_38 m_39 m_40 m_41 m_42 m_43 m_44 m_45 m_46 m_47 m_48 m_49 m_50 m_51 m_52 m_53 m_54 m_55 m_56 m_57 m_58 m_59 fw s.heap.size (by first | omega | decide) zfw) (cwV 1 hts gX12_isSounding_X12_term rfl rfl rfl (by decide +kernel) ⟨Nat.le_of_ble_eq_true rfl, Nat.le_of_ble_eq_true rfl⟩) (mkV hK hN (hP.sub [0, 1] rfl) (hD.sub [0, 1] (by decide +kernel) rfl) (ci := 12) (q0 := 0) rfl rfl) rfl rfl hl.1 rfl (lv_room (Nat.le_of_ble_eq_true rfl)) dX12_isSounding_18 ⟨Nat.le_of_ble_eq_true rfl, Nat.le_of_ble_eq_true rfl⟩) (fun r_95 hw => ?_)
  obtain ⟨k_96, -⟩ := hw
  replace hE := hE.trans (Lt_in k_96)
  refine lv_i2l hx hb dX12_isSounding_21 rfl ?_
  refine lv_topl (fun x_97 ex_97 => ?_)
  replace hE := hE.trans (Lt_in ex_97)
  have hx_97 : x_97.toInt = r_95.toInt := by rw [ex_97]; exact i_wide rfl
  refine pci (va_runS (As := [.long x_91, .long x_94, .long x_97]) (rest := []) ⟨hx, hb, hml, hown, hts⟩ (v_in l D K x_90.toInt r_92.toInt r_95.toInt x_91 x_94 x_97 s.heap.size hx_91 hx_94 hx_97) (va_cwS 3 hts gX12_isSounding_X12_in rfl rfl rfl (by decide +kernel) ⟨Nat.le_of_ble_eq_true rfl, Nat.le_of_ble_eq_true rfl⟩) (mkS hK hN (va_P.nil) (va_D.nil (A := fun _ => True))) rfl rfl hl.1 rfl (lv_room (Nat.le_of_ble_eq_true rfl)) dX12_isSounding_22 ⟨Nat.le_of_ble_eq_true rfl, Nat.le_of_ble_eq_true rfl⟩) (fun r_98 hw => ?_)
  obtain ⟨hw, k_99, -⟩ := hw
  replace hE := hE.trans (Lt_in k_99)
  rcases hw with ⟨rfl, h_100, h_101⟩ | ⟨rfl, h_102⟩
  · replace hE := (hE).trans (if_pos rfl)
    rw [← hQ]
    exact W.zret (v := 1) hx hb hr (by decide +kernel) (fun t ht hW => ⟨_, rfl, ⟨(show 0 ≤ (1 : Int32).toInt ∧ (1 : Int32).toInt ≤ 1 by decide), hE.symm, trivial⟩, ht⟩) (fun q hq => by cases hq) dX12_isSounding_25
  · replace hE := (hE).trans (if_neg (by first | decide | (intro h9; have h8 := congrArg Int32.toInt h9; omega)))
    rw [← hQ]
    exact W.zret (v := 0) hx hb hr (by decide +kernel) (fun t ht hW => ⟨_, rfl, ⟨(show 0 ≤ (0 : Int32).toInt ∧ (0 : Int32).toInt ≤ 1 by decide), hE.symm, trivial⟩, ht⟩) (fun q hq => by cases hq) dX12_isSounding_25
set_option maxRecDepth 100000 in
noncomputable def E_v_soundWith_l4 (x : Int32) (fw : Nat → Int32) (rec_390 : Int32 → Int32 → (Int32)) (v_356 : Int32) (v_357 : Int32) : Int32 :=
  Lt (fw (0 : Int32).toNatClampNeg : Int32) (fun x_392 => if x_392 ≤ v_356 then ((v_357 : Int32)) else (Lt (35 + v_356 : Int32) (fun x_394 => Lt (fw (x_394 : Int32).toNatClampNeg : Int32) (fun x_395 => if x_395 = x then (Lt (E_v_isSounding v_356 fw) (fun r_399 => if r_399 = 0 then (Lt (v_357 + 0 : Int32) (fun x_403 => Lt (v_356 + Int32.ofInt 1 : Int32) (fun x_404 => rec_390 x_404 x_403))) else (Lt (v_357 + 1 : Int32) (fun x_405 => Lt (v_356 + Int32.ofInt 1 : Int32) (fun x_406 => rec_390 x_406 x_405))))) else (Lt (v_357 + 0 : Int32) (fun x_397 => Lt (v_356 + Int32.ofInt 1 : Int32) (fun x_398 => rec_390 x_398 x_397)))))))
set_option maxRecDepth 100000 in
noncomputable def E_v_soundWith (x : Int32) (fw : Nat → Int32) : Int32 :=
  Lp (α := Int32 → Int32 → (Int32)) (E_v_soundWith_l4 x fw) (fun _ _ => ((0) : Int32)) ((9 - (0 : Int32).toInt : Int).toNat + 1) 0 0
set_option maxHeartbeats 4000000 in
set_option maxRecDepth 100000 in
theorem v_soundWith (l : Launch) (D : va_G) (K : Nat → ClassId) (m0 : Nat) (x : Int32) (m_0 : Value) (m_1 : Value) (m_2 : Value) (w0 : Nat) (m_4 : Value) (m_5 : Value) (m_6 : Value) (m_7 : Value) (m_8 : Value) (m_9 : Value) (m_10 : Value) (m_11 : Value) (m_12 : Value) (m_13 : Value) (m_14 : Value) (m_15 : Value) (m_16 : Value) (m_17 : Value) (m_18 : Value) (m_19 : Value) (m_20 : Value) (m_21 : Value) (m_22 : Value) (m_23 : Value) (m_24 : Value) (m_25 : Value) (m_26 : Value) (m_27 : Value) (m_28 : Value) (m_29 : Value) (m_30 : Value) (m_31 : Value) (m_32 : Value) (m_33 : Value) (m_34 : Value) (m_35 : Value) (m_36 : Value) (m_37 : Value) (m_38 : Value) (m_39 : Value) (m_40 : Value) (m_41 : Value) (m_42 : Value) (m_43 : Value) (m_44 : Value) (m_45 : Value) (m_46 : Value) (m_47 : Value) (m_48 : Value) (m_49 : Value) (m_50 : Value) (m_51 : Value) (m_52 : Value) (m_53 : Value) (m_54 : Value) (m_55 : Value) (m_56 : Value) (m_57 : Value) (m_58 : Value) (m_59 : Value) (fw : Nat → Int32) (sz : Nat) (zfw : RwOK fw) : Met l yX12_soundWith wsX12_soundWith ({ frames := 2, cells := 0, slots := 0, locals := 46 }) (va_Pc [.ref m0, .int x] (Pre D K [(m0, .inr (12, [m_0, m_1, m_2, .ref w0, m_4, m_5, m_6, m_7, m_8, m_9, m_10, m_11, m_12, m_13, m_14, m_15, m_16, m_17, m_18, m_19, m_20, m_21, m_22, m_23, m_24, m_25, m_26, m_27, m_28, m_29, m_30, m_31, m_32, m_33, m_34, m_35, m_36, m_37, m_38, m_39, m_40, m_41, m_42, m_43, m_44, m_45, m_46, m_47, m_48, m_49, m_50, m_51, m_52, m_53, m_54, m_55, m_56, m_57, m_58, m_59])), (w0, .inl (K 0, 5500, .inl fw))] sz)) (vp_Si (fun r : Int32 => (0 ≤ r.toInt ∧ r.toInt ≤ 8) ∧ (r = E_v_soundWith x fw) ∧ True)) 0 0 (fun _ => False) := by
  refine Met.ofW (cc := cX12_soundWith) (maxL := 4) (ret := (some .int)) (by decide +kernel) rfl ?_
  intro p e s m args below meth c s₁ B hml hv
  obtain ⟨rfl, hsz, hP, hK, hD0, hN⟩ := hv
  have hx := B.exec
  have hb := B.bytes
  have hr := B.returns
  have hts := atoms_spec (ws := wsX12_soundWith) B.pre
  have hown : s.vm.findClass RX12 = some m.cls := findClass_of_methodNamed B.named
  have hlocks := B.notSynchronized
  subst hsz
  have hD := hD0
  replace hP : va_P D vwCl [(m0, .inr (12, [m_0, m_1, m_2, .ref w0, m_4, m_5, m_6, m_7, m_8, m_9, m_10, m_11, m_12, m_13, m_14, m_15, m_16, m_17, m_18, m_19, m_20, m_21, m_22, m_23, m_24, m_25, m_26, m_27, m_28, m_29, m_30, m_31, m_32, m_33, m_34, m_35, m_36, m_37, m_38, m_39, m_40, m_41, m_42, m_43, m_44, m_45, m_46, m_47, m_48, m_49, m_50, m_51, m_52, m_53, m_54, m_55, m_56, m_57, m_58, m_59])), (w0, .inl (K 0, 5500, .inl fw))] s.heap := hP
  have hl := lv_entry [.ref m0, .int x] (n := 4) (Nat.le_of_ble_eq_true rfl)
  rw [lg_entry_eq]
  generalize (lg_sl [.ref m0, .int x] ++ List.replicate (4 - (lg_sl [.ref m0, .int x]).length) Slot.unset).toArray = ls at hl ⊢
  have hl : lv_has ls 4 [(0, .ref m0), (1, .int x)] := hl
  have hw12 : ∀ w ∈ wsX120, w ∈ wsX12_soundWith := fun w h => (List.mem_cons_of_mem _ (List.mem_append_right _ h))
  generalize hQ : MQ below _ _ s _ _ _ = Q
  have hE := E_v_soundWith.eq_def x fw
  refine lv_iconst (v := 0) hx hb dX12_soundWith_0 (by decide +kernel) ?_
  refine lv_istore_n (lv' := [(2, .int 0), (0, .ref m0), (1, .int x)]) hx hb dX12_soundWith_1 rfl hl (by decide +kernel) rfl (fun ls hl => ?_)
  refine lv_iconst (v := 0) hx hb dX12_soundWith_2 (by decide +kernel) ?_
  refine lv_istore_n (lv' := [(3, .int 0), (2, .int 0), (0, .ref m0), (1, .int x)]) hx hb dX12_soundWith_3 rfl hl (by decide +kernel) rfl (fun ls hl => ?_)
  have lp_390 : ∀ (nn_ : Nat) (v_356 : Int32) (v_357 : Int32) (hv_356 : 0 ≤ v_356.toInt ∧ v_356.toInt ≤ 8) (hv_357 : 0 ≤ v_357.toInt ∧ v_357.toInt ≤ 8) (hr0_lp_390 : 0 ≤ v_357.toInt ∧ v_357.toInt ≤ v_356.toInt) (hn : (9 - v_356.toInt : Int).toNat < nn_) (hE : E_v_soundWith x fw = Lp (α := Int32 → Int32 → (Int32)) (E_v_soundWith_l4 x fw) (fun _ _ => ((0) : Int32)) nn_ v_356 v_357) (ls : Array Slot) (hl : lv_has ls 4 [(3, .int v_356), (2, .int v_357), (0, .ref m0), (1, .int x)]), W p l e ({ frames := 2, cells := 0, slots := 0, locals := 46 }) s m (([.ref m0, .int x] : List Value).toArray) below meth c s.heap [] 0 0 Q (F0 m 4 ls []) := by
    clear hE hl
    intro nn_
    induction nn_ with
    | zero =>
      intro v_356 v_357 hv_356 hv_357 hr0_lp_390 hn hE ls hl
      exact absurd hn (Nat.not_lt_zero _)
    | succ nn_ ih_391 =>
      intro v_356 v_357 hv_356 hv_357 hr0_lp_390 hn hE ls hl
      replace hE : E_v_soundWith x fw = E_v_soundWith_l4 x fw (Lp (α := Int32 → Int32 → (Int32)) (E_v_soundWith_l4 x fw) (fun _ _ => ((0) : Int32)) nn_) v_356 v_357 := hE
      obtain ⟨rec_390, hrec_390⟩ : ∃ z9, z9 = Lp (α := Int32 → Int32 → (Int32)) (E_v_soundWith_l4 x fw) (fun _ _ => ((0) : Int32)) nn_ := ⟨_, rfl⟩
      rw [← hrec_390] at hE
      replace hE := hE.trans (E_v_soundWith_l4.eq_def _ _ _ _ _)
      refine lv_iload_n hx hb dX12_soundWith_4 rfl (lv_at hl 0 rfl) ?_
      refine lv_aload_n hx hb dX12_soundWith_5 rfl (lv_at hl 2 rfl) ?_
      refine va_get (ci := 12) (v := .ref w0) (C := RX12) (T := TX12) (N := 60) hx hb hts hw12 hown hK hP 0 rfl rfl 3 (by decide +kernel) (hts _ mm_X12_soundWith_833) (fun _ h9 => h9) rfl dX12_soundWith_6 ?_
      refine lv_iconst (v := 0) hx hb dX12_soundWith_9 (by decide +kernel) ?_
      refine va_iald hx hb hK hP 1 0 rfl rfl (i_in (x := 0) rfl (by omega)) dX12_soundWith_10 ?_
      refine lv_topi (fun x_392 ex_392 => ?_)
      replace hE := hE.trans (Lt_in ex_392)
      have px_392 := RwOK.at zfw (show (0 : Int32).toInt = 0 from rfl) (show 0 ≤ 0 ∧ 0 < 100 by omega)
      rw [← ex_392] at px_392
      have hx_392 := PR.r_0 px_392 (by omega)
      refine lv_icmp_ge (tgt := 49) hx hb dX12_soundWith_11 (by decide +kernel) (fun c_393 => ?_) (fun c_393 => ?_)
      · have c_393i := i_le (x := x_392.toInt) (y := v_356.toInt) rfl rfl c_393
        replace hE := hE.trans (if_pos c_393)
        refine lv_iload_n hx hb dX12_soundWith_49 rfl (lv_at hl 1 rfl) ?_
        rw [← hQ]
        exact W.iret (v := v_357) hx hb hr (fun t ht hW => ⟨_, rfl, ⟨(show 0 ≤ v_357.toInt ∧ v_357.toInt ≤ 8 by omega), hE.symm, trivial⟩, ht⟩) (fun q hq => by cases hq) dX12_soundWith_50
      · have c_393i := i_nle (x := x_392.toInt) (y := v_356.toInt) rfl rfl c_393
        replace hE := hE.trans (if_neg c_393)
        refine lv_iload_n hx hb dX12_soundWith_14 rfl (lv_at hl 1 rfl) ?_
        refine lv_aload_n hx hb dX12_soundWith_15 rfl (lv_at hl 2 rfl) ?_
        refine va_get (ci := 12) (v := .ref w0) (C := RX12) (T := TX12) (N := 60) hx hb hts hw12 hown hK hP 0 rfl rfl 3 (by decide +kernel) (hts _ mm_X12_soundWith_833) (fun _ h9 => h9) rfl dX12_soundWith_16 ?_
        refine lv_bipush (v := 35) hx hb dX12_soundWith_19 (by decide +kernel) ?_
        refine lv_iload_n hx hb dX12_soundWith_21 rfl (lv_at hl 0 rfl) ?_
        refine lv_iadd hx hb dX12_soundWith_22 ?_
        refine lv_topi (fun x_394 ex_394 => ?_)
        replace hE := hE.trans (Lt_in ex_394)
        have hx_394 : x_394.toInt = (35 + v_356.toInt) := by rw [ex_394]; exact i_add (show (35 : Int32).toInt = 35 from rfl) rfl (by omega)
        refine va_iald hx hb hK hP 1 0 rfl rfl (i_in hx_394 (by omega)) dX12_soundWith_23 ?_
        refine lv_topi (fun x_395 ex_395 => ?_)
        replace hE := hE.trans (Lt_in ex_395)
        have px_395 := RwOK.at zfw hx_394 (show 0 ≤ (35 + v_356.toInt) ∧ (35 + v_356.toInt) < 100 by omega)
        rw [← ex_395] at px_395
        have hx_395 := PR.r_35 px_395 (by omega)
        refine lv_iload_n hx hb dX12_soundWith_24 rfl (lv_at hl 3 rfl) ?_
        refine lv_icmp_ne (tgt := 40) hx hb dX12_soundWith_25 (by decide +kernel) (fun c_396 => ?_) (fun c_396 => ?_)
        · have c_396i := i_ne (x := x_395.toInt) (y := x.toInt) rfl rfl c_396
          replace hE := hE.trans (if_neg c_396)
          refine lv_iconst (v := 0) hx hb dX12_soundWith_40 (by decide +kernel) ?_
          refine lv_iadd hx hb dX12_soundWith_41 ?_
          refine lv_topi (fun x_397 ex_397 => ?_)
          replace hE := hE.trans (Lt_in ex_397)
          have hx_397 : x_397.toInt = (v_357.toInt + 0) := by rw [ex_397]; exact i_add rfl (show (0 : Int32).toInt = 0 from rfl) (by omega)
          refine lv_istore_n (lv' := [(2, .int x_397), (3, .int v_356), (0, .ref m0), (1, .int x)]) hx hb dX12_soundWith_42 rfl hl (by decide +kernel) rfl (fun ls hl => ?_)
          obtain ⟨x_398, ex_398⟩ : ∃ y : Int32, y = v_356 + Int32.ofInt 1 := ⟨_, rfl⟩
          replace hE := hE.trans (Lt_in ex_398)
          have hx_398 : x_398.toInt = (v_356.toInt + 1) := by rw [ex_398]; exact i_add rfl (show (Int32.ofInt 1).toInt = 1 from rfl) (by omega)
          refine lv_iinc (v := x_398) (lv' := [(3, .int x_398), (2, .int x_397), (0, .ref m0), (1, .int x)]) hx hb dX12_soundWith_43 hl (k := 1) rfl (by rw [ex_398]) (by decide +kernel) rfl (fun ls hl => ?_)
          refine lv_goto (tgt := 4) hx hb dX12_soundWith_46 (by decide +kernel) ?_
          exact ih_391 x_398 x_397 (by rw [hx_398]; omega) (by rw [hx_397]; omega) (show 0 ≤ (x_397 : Int32).toInt ∧ (x_397 : Int32).toInt ≤ (x_398 : Int32).toInt by omega) (by omega) (hE.trans (by rw [hrec_390])) ls (lv_sub hl [0, 1, 2, 3] rfl)
        · have c_396i := i_eq (x := x_395.toInt) (y := x.toInt) rfl rfl c_396
          replace hE := hE.trans (if_pos c_396)
          refine lv_aload_n hx hb dX12_soundWith_28 rfl (lv_at hl 2 rfl) ?_
          refine lv_iload_n hx hb dX12_soundWith_29 rfl (lv_at hl 0 rfl) ?_
          refine pci (va_runV (As := [.int v_356]) (rest := [.int v_357]) ⟨hx, hb, hml, hown, hts⟩ (v_isSounding l D K m0 v_356 m_0 m_1 m_2 w0 m_4 m_5 m_6 m_7 m_8 m_9 m_10 m_11 m_12 m_13 m_14 m_15 m_16 m_17 m_18 m_19 m_20 m_21 m_22 m_23 m_24 m_25 m_26 m_27 m_28 m_29 m_30 m_31 m_32 m_33 m_34 m_35 m_36 m_37 m_38 m_39 m_40 m_41 m_42 m_43 m_44 m_45 m_46 m_47 m_48 m_49 m_50 m_51 m_52 m_53 m_54 m_55 m_56 m_57 m_58 m_59 fw s.heap.size (by first | omega | decide) zfw) (cwV 1 hts gX12_soundWith_X12_isSounding rfl rfl rfl (by decide +kernel) ⟨Nat.le_of_ble_eq_true rfl, Nat.le_of_ble_eq_true rfl⟩) (mkV hK hN (hP.sub [0, 1] rfl) (hD.sub [0, 1] (by decide +kernel) rfl) (ci := 12) (q0 := 0) rfl rfl) rfl rfl hl.1 rfl (lv_room (Nat.le_of_ble_eq_true rfl)) dX12_soundWith_30 ⟨Nat.le_of_ble_eq_true rfl, Nat.le_of_ble_eq_true rfl⟩) (fun r_399 hw => ?_)
          obtain ⟨h_401, k_400, -⟩ := hw
          replace hE := hE.trans (Lt_in k_400)
          refine lv_if_eq (tgt := 40) hx hb dX12_soundWith_33 (by decide +kernel) (fun c_402 => ?_) (fun c_402 => ?_)
          · have c_402i := i_eq (x := r_399.toInt) (y := 0) rfl rfl c_402
            replace hE := hE.trans (if_pos c_402)
            refine lv_iconst (v := 0) hx hb dX12_soundWith_40 (by decide +kernel) ?_
            refine lv_iadd hx hb dX12_soundWith_41 ?_
            refine lv_topi (fun x_403 ex_403 => ?_)
            replace hE := hE.trans (Lt_in ex_403)
            have hx_403 : x_403.toInt = (v_357.toInt + 0) := by rw [ex_403]; exact i_add rfl (show (0 : Int32).toInt = 0 from rfl) (by omega)
            refine lv_istore_n (lv' := [(2, .int x_403), (3, .int v_356), (0, .ref m0), (1, .int x)]) hx hb dX12_soundWith_42 rfl hl (by decide +kernel) rfl (fun ls hl => ?_)
            obtain ⟨x_404, ex_404⟩ : ∃ y : Int32, y = v_356 + Int32.ofInt 1 := ⟨_, rfl⟩
            replace hE := hE.trans (Lt_in ex_404)
            have hx_404 : x_404.toInt = (v_356.toInt + 1) := by rw [ex_404]; exact i_add rfl (show (Int32.ofInt 1).toInt = 1 from rfl) (by omega)
            refine lv_iinc (v := x_404) (lv' := [(3, .int x_404), (2, .int x_403), (0, .ref m0), (1, .int x)]) hx hb dX12_soundWith_43 hl (k := 1) rfl (by rw [ex_404]) (by decide +kernel) rfl (fun ls hl => ?_)
            refine lv_goto (tgt := 4) hx hb dX12_soundWith_46 (by decide +kernel) ?_
            exact ih_391 x_404 x_403 (by rw [hx_404]; omega) (by rw [hx_403]; omega) (show 0 ≤ (x_403 : Int32).toInt ∧ (x_403 : Int32).toInt ≤ (x_404 : Int32).toInt by omega) (by omega) (hE.trans (by rw [hrec_390])) ls (lv_sub hl [0, 1, 2, 3] rfl)
          · have c_402i := i_ne (x := r_399.toInt) (y := 0) rfl rfl c_402
            replace hE := hE.trans (if_neg c_402)
            refine lv_iconst (v := 1) hx hb dX12_soundWith_36 (by decide +kernel) ?_
            refine lv_goto (tgt := 41) hx hb dX12_soundWith_37 (by decide +kernel) ?_
            refine lv_iadd hx hb dX12_soundWith_41 ?_
            refine lv_topi (fun x_405 ex_405 => ?_)
            replace hE := hE.trans (Lt_in ex_405)
            have hx_405 : x_405.toInt = (v_357.toInt + 1) := by rw [ex_405]; exact i_add rfl (show (1 : Int32).toInt = 1 from rfl) (by omega)
            refine lv_istore_n (lv' := [(2, .int x_405), (3, .int v_356), (0, .ref m0), (1, .int x)]) hx hb dX12_soundWith_42 rfl hl (by decide +kernel) rfl (fun ls hl => ?_)
            obtain ⟨x_406, ex_406⟩ : ∃ y : Int32, y = v_356 + Int32.ofInt 1 := ⟨_, rfl⟩
            replace hE := hE.trans (Lt_in ex_406)
            have hx_406 : x_406.toInt = (v_356.toInt + 1) := by rw [ex_406]; exact i_add rfl (show (Int32.ofInt 1).toInt = 1 from rfl) (by omega)
            refine lv_iinc (v := x_406) (lv' := [(3, .int x_406), (2, .int x_405), (0, .ref m0), (1, .int x)]) hx hb dX12_soundWith_43 hl (k := 1) rfl (by rw [ex_406]) (by decide +kernel) rfl (fun ls hl => ?_)
            refine lv_goto (tgt := 4) hx hb dX12_soundWith_46 (by decide +kernel) ?_
            exact ih_391 x_406 x_405 (by rw [hx_406]; omega) (by rw [hx_405]; omega) (show 0 ≤ (x_405 : Int32).toInt ∧ (x_405 : Int32).toInt ≤ (x_406 : Int32).toInt by omega) (by omega) (hE.trans (by rw [hrec_390])) ls (lv_sub hl [0, 1, 2, 3] rfl)
  have hz_407 : (0 : Int32).toInt = 0 := rfl
  have hz_408 : (0 : Int32).toInt = 0 := rfl
  exact lp_390 ((9 - (0 : Int32).toInt : Int).toNat + 1) 0 0 (by decide +kernel) (by decide +kernel) (show 0 ≤ (0 : Int32).toInt ∧ (0 : Int32).toInt ≤ (0 : Int32).toInt by omega) (Nat.lt_succ_self _) hE ls (lv_sub hl [0, 1, 2, 3] rfl)
set_option maxRecDepth 100000 in
noncomputable def E_v_soundingNotes_l4 (fw : Nat → Int32) (rec_349 : Int32 → Int32 → (Int32)) (v_319 : Int32) (v_320 : Int32) : Int32 :=
  Lt (fw (0 : Int32).toNatClampNeg : Int32) (fun x_351 => if x_351 ≤ v_319 then ((v_320 : Int32)) else (Lt (E_v_isSounding v_319 fw) (fun r_353 => if r_353 = 0 then (Lt (v_320 ||| 0 : Int32) (fun x_357 => Lt (v_319 + Int32.ofInt 1 : Int32) (fun x_358 => rec_349 x_358 x_357))) else (Lt (35 + v_319 : Int32) (fun x_359 => Lt (fw (x_359 : Int32).toNatClampNeg : Int32) (fun x_360 => Lt (1 <<< (x_360 &&& 31) : Int32) (fun x_361 => Lt (v_320 ||| x_361 : Int32) (fun x_362 => Lt (v_319 + Int32.ofInt 1 : Int32) (fun x_363 => rec_349 x_363 x_362)))))))))
set_option maxRecDepth 100000 in
noncomputable def E_v_soundingNotes (fw : Nat → Int32) : Int32 :=
  Lp (α := Int32 → Int32 → (Int32)) (E_v_soundingNotes_l4 fw) (fun _ _ => ((0) : Int32)) ((9 - (0 : Int32).toInt : Int).toNat + 1) 0 0
set_option maxHeartbeats 4000000 in
set_option maxRecDepth 100000 in
theorem v_soundingNotes (l : Launch) (D : va_G) (K : Nat → ClassId) (m0 : Nat) (m_0 : Value) (m_1 : Value) (m_2 : Value) (w0 : Nat) (m_4 : Value) (m_5 : Value) (m_6 : Value) (m_7 : Value) (m_8 : Value) (m_9 : Value) (m_10 : Value) (m_11 : Value) (m_12 : Value) (m_13 : Value) (m_14 : Value) (m_15 : Value) (m_16 : Value) (m_17 : Value) (m_18 : Value) (m_19 : Value) (m_20 : Value) (m_21 : Value) (m_22 : Value) (m_23 : Value) (m_24 : Value) (m_25 : Value) (m_26 : Value) (m_27 : Value) (m_28 : Value) (m_29 : Value) (m_30 : Value) (m_31 : Value) (m_32 : Value) (m_33 : Value) (m_34 : Value) (m_35 : Value) (m_36 : Value) (m_37 : Value) (m_38 : Value) (m_39 : Value) (m_40 : Value) (m_41 : Value) (m_42 : Value) (m_43 : Value) (m_44 : Value) (m_45 : Value) (m_46 : Value) (m_47 : Value) (m_48 : Value) (m_49 : Value) (m_50 : Value) (m_51 : Value) (m_52 : Value) (m_53 : Value) (m_54 : Value) (m_55 : Value) (m_56 : Value) (m_57 : Value) (m_58 : Value) (m_59 : Value) (fw : Nat → Int32) (sz : Nat) (zfw : RwOK fw) : Met l yX12_soundingNotes wsX12_soundingNotes ({ frames := 2, cells := 0, slots := 0, locals := 46 }) (va_Pc [.ref m0] (Pre D K [(m0, .inr (12, [m_0, m_1, m_2, .ref w0, m_4, m_5, m_6, m_7, m_8, m_9, m_10, m_11, m_12, m_13, m_14, m_15, m_16, m_17, m_18, m_19, m_20, m_21, m_22, m_23, m_24, m_25, m_26, m_27, m_28, m_29, m_30, m_31, m_32, m_33, m_34, m_35, m_36, m_37, m_38, m_39, m_40, m_41, m_42, m_43, m_44, m_45, m_46, m_47, m_48, m_49, m_50, m_51, m_52, m_53, m_54, m_55, m_56, m_57, m_58, m_59])), (w0, .inl (K 0, 5500, .inl fw))] sz)) (vp_Si (fun r : Int32 => (0 ≤ r.toInt ∧ r.toInt ≤ 127) ∧ (r = E_v_soundingNotes fw) ∧ True)) 0 0 (fun _ => False) := by
  refine Met.ofW (cc := cX12_soundingNotes) (maxL := 3) (ret := (some .int)) (by decide +kernel) rfl ?_
  intro p e s m args below meth c s₁ B hml hv
  obtain ⟨rfl, hsz, hP, hK, hD0, hN⟩ := hv
  have hx := B.exec
  have hb := B.bytes
  have hr := B.returns
  have hts := atoms_spec (ws := wsX12_soundingNotes) B.pre
  have hown : s.vm.findClass RX12 = some m.cls := findClass_of_methodNamed B.named
  have hlocks := B.notSynchronized
  subst hsz
  have hD := hD0
  replace hP : va_P D vwCl [(m0, .inr (12, [m_0, m_1, m_2, .ref w0, m_4, m_5, m_6, m_7, m_8, m_9, m_10, m_11, m_12, m_13, m_14, m_15, m_16, m_17, m_18, m_19, m_20, m_21, m_22, m_23, m_24, m_25, m_26, m_27, m_28, m_29, m_30, m_31, m_32, m_33, m_34, m_35, m_36, m_37, m_38, m_39, m_40, m_41, m_42, m_43, m_44, m_45, m_46, m_47, m_48, m_49, m_50, m_51, m_52, m_53, m_54, m_55, m_56, m_57, m_58, m_59])), (w0, .inl (K 0, 5500, .inl fw))] s.heap := hP
  have hl := lv_entry [.ref m0] (n := 3) (Nat.le_of_ble_eq_true rfl)
  rw [lg_entry_eq]
  generalize (lg_sl [.ref m0] ++ List.replicate (3 - (lg_sl [.ref m0]).length) Slot.unset).toArray = ls at hl ⊢
  have hl : lv_has ls 3 [(0, .ref m0)] := hl
  have hw12 : ∀ w ∈ wsX120, w ∈ wsX12_soundingNotes := fun w h => (List.mem_cons_of_mem _ (List.mem_append_right _ h))
  generalize hQ : MQ below _ _ s _ _ _ = Q
  have hE := E_v_soundingNotes.eq_def fw
  refine lv_iconst (v := 0) hx hb dX12_soundingNotes_0 (by decide +kernel) ?_
  refine lv_istore_n (lv' := [(1, .int 0), (0, .ref m0)]) hx hb dX12_soundingNotes_1 rfl hl (by decide +kernel) rfl (fun ls hl => ?_)
  refine lv_iconst (v := 0) hx hb dX12_soundingNotes_2 (by decide +kernel) ?_
  refine lv_istore_n (lv' := [(2, .int 0), (1, .int 0), (0, .ref m0)]) hx hb dX12_soundingNotes_3 rfl hl (by decide +kernel) rfl (fun ls hl => ?_)
  have lp_349 : ∀ (nn_ : Nat) (v_319 : Int32) (v_320 : Int32) (hv_319 : 0 ≤ v_319.toInt ∧ v_319.toInt ≤ 8) (hv_320 : 0 ≤ v_320.toInt ∧ v_320.toInt ≤ 127) (hn : (9 - v_319.toInt : Int).toNat < nn_) (hE : E_v_soundingNotes fw = Lp (α := Int32 → Int32 → (Int32)) (E_v_soundingNotes_l4 fw) (fun _ _ => ((0) : Int32)) nn_ v_319 v_320) (ls : Array Slot) (hl : lv_has ls 3 [(2, .int v_319), (1, .int v_320), (0, .ref m0)]), W p l e ({ frames := 2, cells := 0, slots := 0, locals := 46 }) s m (([.ref m0] : List Value).toArray) below meth c s.heap [] 0 0 Q (F0 m 4 ls []) := by
    clear hE hl
    intro nn_
    induction nn_ with
    | zero =>
      intro v_319 v_320 hv_319 hv_320 hn hE ls hl
      exact absurd hn (Nat.not_lt_zero _)
    | succ nn_ ih_350 =>
      intro v_319 v_320 hv_319 hv_320 hn hE ls hl
      replace hE : E_v_soundingNotes fw = E_v_soundingNotes_l4 fw (Lp (α := Int32 → Int32 → (Int32)) (E_v_soundingNotes_l4 fw) (fun _ _ => ((0) : Int32)) nn_) v_319 v_320 := hE
      obtain ⟨rec_349, hrec_349⟩ : ∃ z9, z9 = Lp (α := Int32 → Int32 → (Int32)) (E_v_soundingNotes_l4 fw) (fun _ _ => ((0) : Int32)) nn_ := ⟨_, rfl⟩
      rw [← hrec_349] at hE
      replace hE := hE.trans (E_v_soundingNotes_l4.eq_def _ _ _ _)
      refine lv_iload_n hx hb dX12_soundingNotes_4 rfl (lv_at hl 0 rfl) ?_
      refine lv_aload_n hx hb dX12_soundingNotes_5 rfl (lv_at hl 2 rfl) ?_
      refine va_get (ci := 12) (v := .ref w0) (C := RX12) (T := TX12) (N := 60) hx hb hts hw12 hown hK hP 0 rfl rfl 3 (by decide +kernel) (hts _ mm_X12_soundingNotes_833) (fun _ h9 => h9) rfl dX12_soundingNotes_6 ?_
      refine lv_iconst (v := 0) hx hb dX12_soundingNotes_9 (by decide +kernel) ?_
      refine va_iald hx hb hK hP 1 0 rfl rfl (i_in (x := 0) rfl (by omega)) dX12_soundingNotes_10 ?_
      refine lv_topi (fun x_351 ex_351 => ?_)
      replace hE := hE.trans (Lt_in ex_351)
      have px_351 := RwOK.at zfw (show (0 : Int32).toInt = 0 from rfl) (show 0 ≤ 0 ∧ 0 < 100 by omega)
      rw [← ex_351] at px_351
      have hx_351 := PR.r_0 px_351 (by omega)
      refine lv_icmp_ge (tgt := 46) hx hb dX12_soundingNotes_11 (by decide +kernel) (fun c_352 => ?_) (fun c_352 => ?_)
      · have c_352i := i_le (x := x_351.toInt) (y := v_319.toInt) rfl rfl c_352
        replace hE := hE.trans (if_pos c_352)
        refine lv_iload_n hx hb dX12_soundingNotes_46 rfl (lv_at hl 1 rfl) ?_
        rw [← hQ]
        exact W.iret (v := v_320) hx hb hr (fun t ht hW => ⟨_, rfl, ⟨(show 0 ≤ v_320.toInt ∧ v_320.toInt ≤ 127 by omega), hE.symm, trivial⟩, ht⟩) (fun q hq => by cases hq) dX12_soundingNotes_47
      · have c_352i := i_nle (x := x_351.toInt) (y := v_319.toInt) rfl rfl c_352
        replace hE := hE.trans (if_neg c_352)
        refine lv_iload_n hx hb dX12_soundingNotes_14 rfl (lv_at hl 1 rfl) ?_
        refine lv_aload_n hx hb dX12_soundingNotes_15 rfl (lv_at hl 2 rfl) ?_
        refine lv_iload_n hx hb dX12_soundingNotes_16 rfl (lv_at hl 0 rfl) ?_
        refine pci (va_runV (As := [.int v_319]) (rest := [.int v_320]) ⟨hx, hb, hml, hown, hts⟩ (v_isSounding l D K m0 v_319 m_0 m_1 m_2 w0 m_4 m_5 m_6 m_7 m_8 m_9 m_10 m_11 m_12 m_13 m_14 m_15 m_16 m_17 m_18 m_19 m_20 m_21 m_22 m_23 m_24 m_25 m_26 m_27 m_28 m_29 m_30 m_31 m_32 m_33 m_34 m_35 m_36 m_37 m_38 m_39 m_40 m_41 m_42 m_43 m_44 m_45 m_46 m_47 m_48 m_49 m_50 m_51 m_52 m_53 m_54 m_55 m_56 m_57 m_58 m_59 fw s.heap.size (by first | omega | decide) zfw) (cwV 1 hts gX12_soundingNotes_X12_isSounding rfl rfl rfl (by decide +kernel) ⟨Nat.le_of_ble_eq_true rfl, Nat.le_of_ble_eq_true rfl⟩) (mkV hK hN (hP.sub [0, 1] rfl) (hD.sub [0, 1] (by decide +kernel) rfl) (ci := 12) (q0 := 0) rfl rfl) rfl rfl hl.1 rfl (lv_room (Nat.le_of_ble_eq_true rfl)) dX12_soundingNotes_17 ⟨Nat.le_of_ble_eq_true rfl, Nat.le_of_ble_eq_true rfl⟩) (fun r_353 hw => ?_)
        obtain ⟨h_355, k_354, -⟩ := hw
        replace hE := hE.trans (Lt_in k_354)
        refine lv_if_eq (tgt := 37) hx hb dX12_soundingNotes_20 (by decide +kernel) (fun c_356 => ?_) (fun c_356 => ?_)
        · have c_356i := i_eq (x := r_353.toInt) (y := 0) rfl rfl c_356
          replace hE := hE.trans (if_pos c_356)
          refine lv_iconst (v := 0) hx hb dX12_soundingNotes_37 (by decide +kernel) ?_
          refine lv_ior hx hb dX12_soundingNotes_38 ?_
          refine lv_topi (fun x_357 ex_357 => ?_)
          replace hE := hE.trans (Lt_in ex_357)
          have hx_357 : 0 ≤ x_357.toInt ∧ x_357.toInt < 128 := by rw [ex_357]; exact i_or (k := 7) rfl (show (0 : Int32).toInt = 0 from rfl) (by decide +kernel) (by omega) (by omega)
          refine lv_istore_n (lv' := [(1, .int x_357), (2, .int v_319), (0, .ref m0)]) hx hb dX12_soundingNotes_39 rfl hl (by decide +kernel) rfl (fun ls hl => ?_)
          obtain ⟨x_358, ex_358⟩ : ∃ y : Int32, y = v_319 + Int32.ofInt 1 := ⟨_, rfl⟩
          replace hE := hE.trans (Lt_in ex_358)
          have hx_358 : x_358.toInt = (v_319.toInt + 1) := by rw [ex_358]; exact i_add rfl (show (Int32.ofInt 1).toInt = 1 from rfl) (by omega)
          refine lv_iinc (v := x_358) (lv' := [(2, .int x_358), (1, .int x_357), (0, .ref m0)]) hx hb dX12_soundingNotes_40 hl (k := 1) rfl (by rw [ex_358]) (by decide +kernel) rfl (fun ls hl => ?_)
          refine lv_goto (tgt := 4) hx hb dX12_soundingNotes_43 (by decide +kernel) ?_
          exact ih_350 x_358 x_357 (by rw [hx_358]; omega) (by omega) (by omega) (hE.trans (by rw [hrec_349])) ls (lv_sub hl [0, 1, 2] rfl)
        · have c_356i := i_ne (x := r_353.toInt) (y := 0) rfl rfl c_356
          replace hE := hE.trans (if_neg c_356)
          refine lv_iconst (v := 1) hx hb dX12_soundingNotes_23 (by decide +kernel) ?_
          refine lv_aload_n hx hb dX12_soundingNotes_24 rfl (lv_at hl 2 rfl) ?_
          refine va_get (ci := 12) (v := .ref w0) (C := RX12) (T := TX12) (N := 60) hx hb hts hw12 hown hK hP 0 rfl rfl 3 (by decide +kernel) (hts _ mm_X12_soundingNotes_833) (fun _ h9 => h9) rfl dX12_soundingNotes_25 ?_
          refine lv_bipush (v := 35) hx hb dX12_soundingNotes_28 (by decide +kernel) ?_
          refine lv_iload_n hx hb dX12_soundingNotes_30 rfl (lv_at hl 0 rfl) ?_
          refine lv_iadd hx hb dX12_soundingNotes_31 ?_
          refine lv_topi (fun x_359 ex_359 => ?_)
          replace hE := hE.trans (Lt_in ex_359)
          have hx_359 : x_359.toInt = (35 + v_319.toInt) := by rw [ex_359]; exact i_add (show (35 : Int32).toInt = 35 from rfl) rfl (by omega)
          refine va_iald hx hb hK hP 1 0 rfl rfl (i_in hx_359 (by omega)) dX12_soundingNotes_32 ?_
          refine lv_topi (fun x_360 ex_360 => ?_)
          replace hE := hE.trans (Lt_in ex_360)
          have px_360 := RwOK.at zfw hx_359 (show 0 ≤ (35 + v_319.toInt) ∧ (35 + v_319.toInt) < 100 by omega)
          rw [← ex_360] at px_360
          have hx_360 := PR.r_35 px_360 (by omega)
          refine lv_ishl hx hb dX12_soundingNotes_33 ?_
          refine lv_topi (fun x_361 ex_361 => ?_)
          replace hE := hE.trans (Lt_in ex_361)
          have hx_361 : 1 ≤ x_361.toInt ∧ x_361.toInt ≤ 64 := by rw [ex_361]; exact i_shl1 rfl (n := 6) (by decide +kernel) (by omega)
          refine lv_goto (tgt := 38) hx hb dX12_soundingNotes_34 (by decide +kernel) ?_
          refine lv_ior hx hb dX12_soundingNotes_38 ?_
          refine lv_topi (fun x_362 ex_362 => ?_)
          replace hE := hE.trans (Lt_in ex_362)
          have hx_362 : 0 ≤ x_362.toInt ∧ x_362.toInt < 128 := by rw [ex_362]; exact i_or (k := 7) rfl rfl (by decide +kernel) (by omega) (by omega)
          refine lv_istore_n (lv' := [(1, .int x_362), (2, .int v_319), (0, .ref m0)]) hx hb dX12_soundingNotes_39 rfl hl (by decide +kernel) rfl (fun ls hl => ?_)
          obtain ⟨x_363, ex_363⟩ : ∃ y : Int32, y = v_319 + Int32.ofInt 1 := ⟨_, rfl⟩
          replace hE := hE.trans (Lt_in ex_363)
          have hx_363 : x_363.toInt = (v_319.toInt + 1) := by rw [ex_363]; exact i_add rfl (show (Int32.ofInt 1).toInt = 1 from rfl) (by omega)
          refine lv_iinc (v := x_363) (lv' := [(2, .int x_363), (1, .int x_362), (0, .ref m0)]) hx hb dX12_soundingNotes_40 hl (k := 1) rfl (by rw [ex_363]) (by decide +kernel) rfl (fun ls hl => ?_)
          refine lv_goto (tgt := 4) hx hb dX12_soundingNotes_43 (by decide +kernel) ?_
          exact ih_350 x_363 x_362 (by rw [hx_363]; omega) (by omega) (by omega) (hE.trans (by rw [hrec_349])) ls (lv_sub hl [0, 1, 2] rfl)
  exact lp_349 ((9 - (0 : Int32).toInt : Int).toNat + 1) 0 0 (by decide +kernel) (by decide +kernel) (Nat.lt_succ_self _) hE ls (lv_sub hl [0, 1, 2] rfl)
set_option maxRecDepth 100000 in
noncomputable def E_v_areBeside_j21 : Int32 :=
  (1 : Int32)
set_option maxRecDepth 100000 in
noncomputable def E_v_areBeside (x : Int32) (y : Int32) : Int32 :=
  Lt (x - y : Int32) (fun x_77 => Lt (x_77 + 7 : Int32) (fun x_78 => Lt (x_78 - x_78 / 7 * 7 : Int32) (fun x_79 => if x_79 = 1 then (E_v_areBeside_j21) else (if x_79 = 6 then (E_v_areBeside_j21) else ((0 : Int32))))))
set_option maxHeartbeats 4000000 in
set_option maxRecDepth 100000 in
theorem v_areBeside (l : Launch) (D : va_G) (K : Nat → ClassId) (x : Int32) (y : Int32) (sz : Nat) : Met l yX12_areBeside wsX12_areBeside ({ frames := 0, cells := 0, slots := 0, locals := 0 }) (va_Pc [.int x, .int y] (Pre D K [] sz)) (vp_Si (fun r : Int32 => (0 ≤ r.toInt ∧ r.toInt ≤ 1) ∧ (r = E_v_areBeside x y) ∧ True)) 0 0 (fun _ => False) := by
  refine Met.ofW (cc := cX12_areBeside) (maxL := 3) (ret := (some .boolean)) (by decide +kernel) rfl ?_
  intro p e s m args below meth c s₁ B hml hv
  obtain ⟨rfl, hsz, hP, hK, hD0, hN⟩ := hv
  have hx := B.exec
  have hb := B.bytes
  have hr := B.returns
  have hts := atoms_spec (ws := wsX12_areBeside) B.pre
  have hown : s.vm.findClass RX12 = some m.cls := findClass_of_methodNamed B.named
  have hlocks := B.notSynchronized
  subst hsz
  have hD := hD0
  replace hP : va_P D vwCl [] s.heap := hP
  have hl := lv_entry [.int x, .int y] (n := 3) (Nat.le_of_ble_eq_true rfl)
  rw [lg_entry_eq]
  generalize (lg_sl [.int x, .int y] ++ List.replicate (3 - (lg_sl [.int x, .int y]).length) Slot.unset).toArray = ls at hl ⊢
  have hl : lv_has ls 3 [(0, .int x), (1, .int y)] := hl
  generalize hQ : MQ below _ _ s _ _ _ = Q
  have hE := E_v_areBeside.eq_def x y
  refine lv_iload_n hx hb dX12_areBeside_0 rfl (lv_at hl 0 rfl) ?_
  refine lv_iload_n hx hb dX12_areBeside_1 rfl (lv_at hl 1 rfl) ?_
  refine lv_isub hx hb dX12_areBeside_2 ?_
  refine lv_topi (fun x_77 ex_77 => ?_)
  replace hE := hE.trans (Lt_in ex_77)
  refine lv_bipush (v := 7) hx hb dX12_areBeside_3 (by decide +kernel) ?_
  refine lv_iadd hx hb dX12_areBeside_5 ?_
  refine lv_topi (fun x_78 ex_78 => ?_)
  replace hE := hE.trans (Lt_in ex_78)
  refine lv_bipush (v := 7) hx hb dX12_areBeside_6 (by decide +kernel) ?_
  refine lv_irem hx hb dX12_areBeside_8 (by decide +kernel) ?_
  refine lv_topi (fun x_79 ex_79 => ?_)
  replace hE := hE.trans (Lt_in ex_79)
  refine lv_istore_n (lv' := [(2, .int x_79), (0, .int x), (1, .int y)]) hx hb dX12_areBeside_9 rfl hl (by decide +kernel) rfl (fun ls hl => ?_)
  refine lv_iload_n hx hb dX12_areBeside_10 rfl (lv_at hl 0 rfl) ?_
  refine lv_iconst (v := 1) hx hb dX12_areBeside_11 (by decide +kernel) ?_
  have j_82 : ∀ (hE : E_v_areBeside x y = E_v_areBeside_j21) (ls : Array Slot) (hl : lv_has ls 3 []), W p l e ({ frames := 0, cells := 0, slots := 0, locals := 0 }) s m (([.int x, .int y] : List Value).toArray) below meth c s.heap [] 0 0 Q (F0 m 21 ls []) := by
    clear hE hl
    intro hE ls hl
    replace hE := hE.trans (E_v_areBeside_j21.eq_def )
    refine lv_iconst (v := 1) hx hb dX12_areBeside_21 (by decide +kernel) ?_
    refine lv_goto (tgt := 26) hx hb dX12_areBeside_22 (by decide +kernel) ?_
    rw [← hQ]
    exact W.zret (v := 1) hx hb hr (by decide +kernel) (fun t ht hW => ⟨_, rfl, ⟨(show 0 ≤ (1 : Int32).toInt ∧ (1 : Int32).toInt ≤ 1 by decide), hE.symm, trivial⟩, ht⟩) (fun q hq => by cases hq) dX12_areBeside_26
  refine lv_icmp_eq (tgt := 21) hx hb dX12_areBeside_12 (by decide +kernel) (fun c_83 => ?_) (fun c_83 => ?_)
  · have c_83i := i_eq (x := x_79.toInt) (y := 1) rfl rfl c_83
    replace hE := hE.trans (if_pos c_83)
    exact j_82   hE ls (lv_sub hl [] rfl)
  · have c_83i := i_ne (x := x_79.toInt) (y := 1) rfl rfl c_83
    replace hE := hE.trans (if_neg c_83)
    refine lv_iload_n hx hb dX12_areBeside_15 rfl (lv_at hl 0 rfl) ?_
    refine lv_bipush (v := 6) hx hb dX12_areBeside_16 (by decide +kernel) ?_
    refine lv_icmp_ne (tgt := 25) hx hb dX12_areBeside_18 (by decide +kernel) (fun c_84 => ?_) (fun c_84 => ?_)
    · have c_84i := i_ne (x := x_79.toInt) (y := 6) rfl rfl c_84
      replace hE := hE.trans (if_neg c_84)
      refine lv_iconst (v := 0) hx hb dX12_areBeside_25 (by decide +kernel) ?_
      rw [← hQ]
      exact W.zret (v := 0) hx hb hr (by decide +kernel) (fun t ht hW => ⟨_, rfl, ⟨(show 0 ≤ (0 : Int32).toInt ∧ (0 : Int32).toInt ≤ 1 by decide), hE.symm, trivial⟩, ht⟩) (fun q hq => by cases hq) dX12_areBeside_26
    · have c_84i := i_eq (x := x_79.toInt) (y := 6) rfl rfl c_84
      replace hE := hE.trans (if_pos c_84)
      exact j_82   hE ls (lv_sub hl [] rfl)
set_option maxRecDepth 100000 in
noncomputable def E_v_house_j67 (sta : Int32) (nu : Int32) (fw : Nat → Int32) (frf : Nat → Int32) : Int32 × Int32 × Int32 × (Nat → Int32) × (Nat → Int32) :=
  Lt2 (E_v_tell (-1) sta frf) (fun r_662 q0_r_662 => Lt2 q0_r_662 (fun u_663_2_2_2_1_0 u_663_2_1_0 => ((r_662, u_663_2_2_2_1_0, nu, fw, u_663_2_1_0) : Int32 × Int32 × Int32 × (Nat → Int32) × (Nat → Int32))))
set_option maxRecDepth 100000 in
noncomputable def E_v_house_l84 (x0 : Int32) (x1 : Int32) (x2 : Int32) (x3 : Int32) (x4 : Int32) (sta : Int32) (nu : Int32) (fw : Nat → Int32) (frf : Nat → Int32) (x_701 : Int32) (rec_736 : Int32 → (Int32 × Int32 × Int32 × (Nat → Int32) × (Nat → Int32))) (v_724 : Int32) : Int32 × Int32 × Int32 × (Nat → Int32) × (Nat → Int32) :=
  if x_701 ≤ v_724 then (if x_701 = 8 then (Lt2 (E_v_tell (-5) sta frf) (fun r_762 q0_r_762 => Lt2 q0_r_762 (fun u_763_2_2_2_1_0 u_763_2_1_0 => ((r_762, u_763_2_2_2_1_0, nu, fw, u_763_2_1_0) : Int32 × Int32 × Int32 × (Nat → Int32) × (Nat → Int32))))) else (Lt (35 + x_701 : Int32) (fun x_740 => Lt (upd fw (x_740 : Int32).toNatClampNeg x0 : Nat → Int32) (fun f_741 => Lt (43 + x_701 : Int32) (fun x_742 => Lt (upd f_741 (x_742 : Int32).toNatClampNeg x1 : Nat → Int32) (fun f_743 => Lt (19 + x_701 : Int32) (fun x_744 => Lt (upd f_743 (x_744 : Int32).toNatClampNeg x2 : Nat → Int32) (fun f_745 => Lt (51 + x_701 : Int32) (fun x_746 => Lt (upd f_745 (x_746 : Int32).toNatClampNeg x3 : Nat → Int32) (fun f_747 => Lt (59 + x_701 : Int32) (fun x_748 => Lt (upd f_747 (x_748 : Int32).toNatClampNeg x4 : Nat → Int32) (fun f_749 => Lt (11 + x_701 : Int32) (fun x_750 => Lt (upd f_749 (x_750 : Int32).toNatClampNeg 0 : Nat → Int32) (fun f_751 => Lt (27 + x_701 : Int32) (fun x_752 => Lt (upd f_751 (x_752 : Int32).toNatClampNeg 0 : Nat → Int32) (fun f_753 => Lt (f_753 (0 : Int32).toNatClampNeg : Int32) (fun x_754 => Lt (x_754 + 1 : Int32) (fun x_755 => Lt (upd f_753 (0 : Int32).toNatClampNeg x_755 : Nat → Int32) (fun f_756 => Lt2 (E_v_tell x_701 sta frf) (fun r_757 q0_r_757 => Lt2 q0_r_757 (fun u_758_2_2_2_1_0 u_758_2_1_0 => ((r_757, u_758_2_2_2_1_0, 0, f_756, u_758_2_1_0) : Int32 × Int32 × Int32 × (Nat → Int32) × (Nat → Int32))))))))))))))))))))))) else (Lt (51 + v_724 : Int32) (fun x_767 => Lt (fw (x_767 : Int32).toNatClampNeg : Int32) (fun x_768 => if x_768 = x3 then (Lt2 (E_v_tell (-3) sta frf) (fun r_771 q0_r_771 => Lt2 q0_r_771 (fun u_772_2_2_2_1_0 u_772_2_1_0 => ((r_771, u_772_2_2_2_1_0, nu, fw, u_772_2_1_0) : Int32 × Int32 × Int32 × (Nat → Int32) × (Nat → Int32))))) else (Lt (v_724 + Int32.ofInt 1 : Int32) (fun x_770 => rec_736 x_770)))))
set_option maxRecDepth 100000 in
noncomputable def E_v_house (x0 : Int32) (x1 : Int32) (x2 : Int32) (x3 : Int32) (x4 : Int32) (thr : Int32) (sta : Int32) (nu : Int32) (fw : Nat → Int32) (frf : Nat → Int32) : Int32 × Int32 × Int32 × (Nat → Int32) × (Nat → Int32) :=
  Lt ((x0 : Int32).toInt64 : Int64) (fun x_541 => Lt (E_v_in x_541 0 6) (fun r_667 => if r_667 = 1 then (Lt ((x1 : Int32).toInt64 : Int64) (fun x_673 => Lt (E_v_in x_673 0 3) (fun r_674 => if r_674 = 1 then (Lt ((x2 : Int32).toInt64 : Int64) (fun x_680 => Lt (E_v_in x_680 0 999) (fun r_681 => if r_681 = 1 then (Lt ((x3 : Int32).toInt64 : Int64) (fun x_687 => Lt (E_v_in x_687 0 7) (fun r_688 => if r_688 = 1 then (Lt ((x4 : Int32).toInt64 : Int64) (fun x_694 => Lt (E_v_in x_694 0 7) (fun r_695 => if r_695 = 1 then (Lt (fw (0 : Int32).toNatClampNeg : Int32) (fun x_701 => Lp (α := Int32 → (Int32 × Int32 × Int32 × (Nat → Int32) × (Nat → Int32))) (E_v_house_l84 x0 x1 x2 x3 x4 sta nu fw frf x_701) (fun _ => ((0, 0, 0, fun _ => 0, fun _ => 0) : Int32 × Int32 × Int32 × (Nat → Int32) × (Nat → Int32))) ((9 - (0 : Int32).toInt : Int).toNat + 1) 0)) else (E_v_house_j67 sta nu fw frf)))) else (E_v_house_j67 sta nu fw frf)))) else (E_v_house_j67 sta nu fw frf)))) else (E_v_house_j67 sta nu fw frf)))) else (E_v_house_j67 sta nu fw frf)))
set_option maxHeartbeats 4000000 in
set_option maxRecDepth 100000 in
theorem v_house (l : Launch) (D : va_G) (K : Nat → ClassId) (m0 : Nat) (x0 : Int32) (x1 : Int32) (x2 : Int32) (x3 : Int32) (x4 : Int32) (thr : Int32) (sta : Int32) (r0 : Nat) (w0 : Nat) (m_4 : Value) (m_5 : Value) (m_6 : Value) (m_7 : Value) (nu : Int32) (m_9 : Value) (m_10 : Value) (m_11 : Value) (m_12 : Value) (m_13 : Value) (m_14 : Value) (m_15 : Value) (m_16 : Value) (m_17 : Value) (m_18 : Value) (m_19 : Value) (m_20 : Value) (m_21 : Value) (m_22 : Value) (m_23 : Value) (m_24 : Value) (m_25 : Value) (m_26 : Value) (m_27 : Value) (m_28 : Value) (m_29 : Value) (m_30 : Value) (m_31 : Value) (m_32 : Value) (m_33 : Value) (m_34 : Value) (m_35 : Value) (m_36 : Value) (m_37 : Value) (m_38 : Value) (m_39 : Value) (m_40 : Value) (m_41 : Value) (m_42 : Value) (m_43 : Value) (m_44 : Value) (m_45 : Value) (m_46 : Value) (m_47 : Value) (m_48 : Value) (m_49 : Value) (m_50 : Value) (m_51 : Value) (m_52 : Value) (m_53 : Value) (m_54 : Value) (m_55 : Value) (m_56 : Value) (m_57 : Value) (m_58 : Value) (m_59 : Value) (fw : Nat → Int32) (frf : Nat → Int32) (sz : Nat) (zfw : RwOK fw) : Met l yX12_house wsX12_house ({ frames := 1, cells := 0, slots := 0, locals := 25 }) (va_Pc [.ref m0, .int x0, .int x1, .int x2, .int x3, .int x4] (Pre D K [(m0, .inr (12, [.int thr, .int sta, .ref r0, .ref w0, m_4, m_5, m_6, m_7, .int nu, m_9, m_10, m_11, m_12, m_13, m_14, m_15, m_16, m_17, m_18, m_19, m_20, m_21, m_22, m_23, m_24, m_25, m_26, m_27, m_28, m_29, m_30, m_31, m_32, m_33, m_34, m_35, m_36, m_37, m_38, m_39, m_40, m_41, m_42, m_43, m_44, m_45, m_46, m_47, m_48, m_49, m_50, m_51, m_52, m_53, m_54, m_55, m_56, m_57, m_58, m_59])), (w0, .inl (K 0, 5500, .inl fw)), (r0, .inl (K 0, 7, .inl frf))] sz)) (va_Qi (S := Su) (fun (r : Int32) (u : Su) => ((-6) ≤ r.toInt) ∧ ((-6) ≤ (u.2.2.2.1 0).toInt ∧ (u.2.2.2.1 0).toInt ≤ 0) ∧ (RwOK (u.2.1 0)) ∧ ((r, (u.2.2.2.1 0), (u.2.2.2.1 1), (u.2.1 0), (u.2.1 1)) = E_v_house x0 x1 x2 x3 x4 thr sta nu fw frf) ∧ True) (fun u t => Wd D (va_A [(m0, .inr (12, [.int thr, .int sta, .ref r0, .ref w0, m_4, m_5, m_6, m_7, .int nu, m_9, m_10, m_11, m_12, m_13, m_14, m_15, m_16, m_17, m_18, m_19, m_20, m_21, m_22, m_23, m_24, m_25, m_26, m_27, m_28, m_29, m_30, m_31, m_32, m_33, m_34, m_35, m_36, m_37, m_38, m_39, m_40, m_41, m_42, m_43, m_44, m_45, m_46, m_47, m_48, m_49, m_50, m_51, m_52, m_53, m_54, m_55, m_56, m_57, m_58, m_59])), (w0, .inl (K 0, 5500, .inl fw)), (r0, .inl (K 0, 7, .inl frf))] sz) ((fun u => [(m0, .inr (12, [.int 0, .int (u.2.2.2.1 0), .ref r0, .ref w0, m_4, m_5, m_6, m_7, .int (u.2.2.2.1 1), m_9, m_10, m_11, m_12, m_13, m_14, m_15, m_16, m_17, m_18, m_19, m_20, m_21, m_22, m_23, m_24, m_25, m_26, m_27, m_28, m_29, m_30, m_31, m_32, m_33, m_34, m_35, m_36, m_37, m_38, m_39, m_40, m_41, m_42, m_43, m_44, m_45, m_46, m_47, m_48, m_49, m_50, m_51, m_52, m_53, m_54, m_55, m_56, m_57, m_58, m_59])), (w0, .inl (K 0, 5500, .inl (u.2.1 0))), (r0, .inl (K 0, 7, .inl (u.2.1 1)))]) u) t) (va_A [(m0, .inr (12, [.int thr, .int sta, .ref r0, .ref w0, m_4, m_5, m_6, m_7, .int nu, m_9, m_10, m_11, m_12, m_13, m_14, m_15, m_16, m_17, m_18, m_19, m_20, m_21, m_22, m_23, m_24, m_25, m_26, m_27, m_28, m_29, m_30, m_31, m_32, m_33, m_34, m_35, m_36, m_37, m_38, m_39, m_40, m_41, m_42, m_43, m_44, m_45, m_46, m_47, m_48, m_49, m_50, m_51, m_52, m_53, m_54, m_55, m_56, m_57, m_58, m_59])), (w0, .inl (K 0, 5500, .inl fw)), (r0, .inl (K 0, 7, .inl frf))] sz)) 0 0 (va_A [(m0, .inr (12, [.int thr, .int sta, .ref r0, .ref w0, m_4, m_5, m_6, m_7, .int nu, m_9, m_10, m_11, m_12, m_13, m_14, m_15, m_16, m_17, m_18, m_19, m_20, m_21, m_22, m_23, m_24, m_25, m_26, m_27, m_28, m_29, m_30, m_31, m_32, m_33, m_34, m_35, m_36, m_37, m_38, m_39, m_40, m_41, m_42, m_43, m_44, m_45, m_46, m_47, m_48, m_49, m_50, m_51, m_52, m_53, m_54, m_55, m_56, m_57, m_58, m_59])), (w0, .inl (K 0, 5500, .inl fw)), (r0, .inl (K 0, 7, .inl frf))] sz) := by
  refine Met.ofW (cc := cX12_house) (maxL := 8) (ret := (some .int)) (by decide +kernel) rfl ?_
  intro p e s m args below meth c s₁ B hml hv
  obtain ⟨rfl, hsz, hP, hK, hD0, hN⟩ := hv
  have hx := B.exec
  have hb := B.bytes
  have hr := B.returns
  have hts := atoms_spec (ws := wsX12_house) B.pre
  have hown : s.vm.findClass RX12 = some m.cls := findClass_of_methodNamed B.named
  have hlocks := B.notSynchronized
  subst hsz
  have hD := hD0.self (sz := s.heap.size)
  generalize hAe : va_A [(m0, .inr (12, [.int thr, .int sta, .ref r0, .ref w0, m_4, m_5, m_6, m_7, .int nu, m_9, m_10, m_11, m_12, m_13, m_14, m_15, m_16, m_17, m_18, m_19, m_20, m_21, m_22, m_23, m_24, m_25, m_26, m_27, m_28, m_29, m_30, m_31, m_32, m_33, m_34, m_35, m_36, m_37, m_38, m_39, m_40, m_41, m_42, m_43, m_44, m_45, m_46, m_47, m_48, m_49, m_50, m_51, m_52, m_53, m_54, m_55, m_56, m_57, m_58, m_59])), (w0, .inl (K 0, 5500, .inl fw)), (r0, .inl (K 0, 7, .inl frf))] s.heap.size = A at hD ⊢
  have hA : ∀ q : Nat, s.heap.size ≤ q → A q := fun q h => by rw [← hAe]; exact Or.inr h
  clear hAe
  have hS : va_S A s.heap s.heap [] := va_S.rf
  replace hP : va_P D vwCl [(m0, .inr (12, [.int thr, .int sta, .ref r0, .ref w0, m_4, m_5, m_6, m_7, .int nu, m_9, m_10, m_11, m_12, m_13, m_14, m_15, m_16, m_17, m_18, m_19, m_20, m_21, m_22, m_23, m_24, m_25, m_26, m_27, m_28, m_29, m_30, m_31, m_32, m_33, m_34, m_35, m_36, m_37, m_38, m_39, m_40, m_41, m_42, m_43, m_44, m_45, m_46, m_47, m_48, m_49, m_50, m_51, m_52, m_53, m_54, m_55, m_56, m_57, m_58, m_59])), (w0, .inl (K 0, 5500, .inl fw)), (r0, .inl (K 0, 7, .inl frf))] s.heap := hP
  have hl := lv_entry [.ref m0, .int x0, .int x1, .int x2, .int x3, .int x4] (n := 8) (Nat.le_of_ble_eq_true rfl)
  rw [lg_entry_eq]
  generalize (lg_sl [.ref m0, .int x0, .int x1, .int x2, .int x3, .int x4] ++ List.replicate (8 - (lg_sl [.ref m0, .int x0, .int x1, .int x2, .int x3, .int x4]).length) Slot.unset).toArray = ls at hl ⊢
  have hl : lv_has ls 8 [(0, .ref m0), (1, .int x0), (2, .int x1), (3, .int x2), (4, .int x3), (5, .int x4)] := hl
  have hw12 : ∀ w ∈ wsX120, w ∈ wsX12_house := fun w h => (List.mem_cons_of_mem _ (List.mem_append_right _ h))
  generalize hQ : MQ below _ _ s _ _ _ = Q
  have hE := E_v_house.eq_def x0 x1 x2 x3 x4 thr sta nu fw frf
  refine lv_aload_n hx hb dX12_house_0 rfl (lv_at hl 0 rfl) ?_
  refine lv_iconst (v := 0) hx hb dX12_house_1 (by decide +kernel) ?_
  refine va_put (ci := 12) (v := .int 0) (ty := .int) (C := RX12) (T := TX12) (N := 60) hx hb hts hw12 tyX12 tyX12_ok nmX12 hown hK hP hD hS 0 rfl rfl 0 (by decide +kernel) (hts _ mm_X12_house_830) (fun _ h9 => h9) rfl (by decide +kernel) (by first | rfl | decide) (by first | rfl | decide) (Nat.le_of_ble_eq_true rfl) dX12_house_2 (fun H locs hP0 hD0 hS0 => ?_)
  clear hP hD hS
  have hP := hP0
  have hD := hD0
  have hS := hS0
  clear hP0 hD0 hS0
  replace hP : va_P D vwCl [(m0, .inr (12, [.int 0, .int sta, .ref r0, .ref w0, m_4, m_5, m_6, m_7, .int nu, m_9, m_10, m_11, m_12, m_13, m_14, m_15, m_16, m_17, m_18, m_19, m_20, m_21, m_22, m_23, m_24, m_25, m_26, m_27, m_28, m_29, m_30, m_31, m_32, m_33, m_34, m_35, m_36, m_37, m_38, m_39, m_40, m_41, m_42, m_43, m_44, m_45, m_46, m_47, m_48, m_49, m_50, m_51, m_52, m_53, m_54, m_55, m_56, m_57, m_58, m_59])), (w0, .inl (K 0, 5500, .inl fw)), (r0, .inl (K 0, 7, .inl frf))] H := hP
  replace hD : va_D A [(m0, .inr (12, [.int 0, .int sta, .ref r0, .ref w0, m_4, m_5, m_6, m_7, .int nu, m_9, m_10, m_11, m_12, m_13, m_14, m_15, m_16, m_17, m_18, m_19, m_20, m_21, m_22, m_23, m_24, m_25, m_26, m_27, m_28, m_29, m_30, m_31, m_32, m_33, m_34, m_35, m_36, m_37, m_38, m_39, m_40, m_41, m_42, m_43, m_44, m_45, m_46, m_47, m_48, m_49, m_50, m_51, m_52, m_53, m_54, m_55, m_56, m_57, m_58, m_59])), (w0, .inl (K 0, 5500, .inl fw)), (r0, .inl (K 0, 7, .inl frf))] := hD
  refine lv_iload_n hx hb dX12_house_5 rfl (lv_at hl 1 rfl) ?_
  refine lv_i2l hx hb dX12_house_6 rfl ?_
  refine lv_topl (fun x_541 ex_541 => ?_)
  replace hE := hE.trans (Lt_in ex_541)
  have hx_541 : x_541.toInt = x0.toInt := by rw [ex_541]; exact i_wide rfl
  have hbx_541 := i_rng (a := x0) rfl
  refine lv_lconst (v := 0) hx hb dX12_house_7 (by decide +kernel) ?_
  refine lv_ldc2 (v := 6) hx hb hown (hts _ mm_X12_house_976) dX12_house_8 ?_
  have j_661 : ∀ (hE : E_v_house x0 x1 x2 x3 x4 thr sta nu fw frf = E_v_house_j67 sta nu fw frf) (H : Heap) (locs : List Loc) (hP : va_P D vwCl [(m0, .inr (12, [.int 0, .int sta, .ref r0, .ref w0, m_4, m_5, m_6, m_7, .int nu, m_9, m_10, m_11, m_12, m_13, m_14, m_15, m_16, m_17, m_18, m_19, m_20, m_21, m_22, m_23, m_24, m_25, m_26, m_27, m_28, m_29, m_30, m_31, m_32, m_33, m_34, m_35, m_36, m_37, m_38, m_39, m_40, m_41, m_42, m_43, m_44, m_45, m_46, m_47, m_48, m_49, m_50, m_51, m_52, m_53, m_54, m_55, m_56, m_57, m_58, m_59])), (w0, .inl (K 0, 5500, .inl fw)), (r0, .inl (K 0, 7, .inl frf))] H) (hD : va_D A [(m0, .inr (12, [.int 0, .int sta, .ref r0, .ref w0, m_4, m_5, m_6, m_7, .int nu, m_9, m_10, m_11, m_12, m_13, m_14, m_15, m_16, m_17, m_18, m_19, m_20, m_21, m_22, m_23, m_24, m_25, m_26, m_27, m_28, m_29, m_30, m_31, m_32, m_33, m_34, m_35, m_36, m_37, m_38, m_39, m_40, m_41, m_42, m_43, m_44, m_45, m_46, m_47, m_48, m_49, m_50, m_51, m_52, m_53, m_54, m_55, m_56, m_57, m_58, m_59])), (w0, .inl (K 0, 5500, .inl fw)), (r0, .inl (K 0, 7, .inl frf))]) (hS : va_S A s.heap H locs) (ls : Array Slot) (hl : lv_has ls 8 [(0, .ref m0)]), W p l e ({ frames := 1, cells := 0, slots := 0, locals := 25 }) s m (([.ref m0, .int x0, .int x1, .int x2, .int x3, .int x4] : List Value).toArray) below meth c H locs 0 0 Q (F0 m 67 ls []) := by
    clear hE hP hD hS hl
    intro hE H locs hP hD hS ls hl
    replace hE := hE.trans (E_v_house_j67.eq_def _ _ _ _)
    refine lv_aload_n hx hb dX12_house_67 rfl (lv_at hl 0 rfl) ?_
    refine lv_iconst (v := (-1)) hx hb dX12_house_68 (by decide +kernel) ?_
    refine kci (S := Su) (wr := [(w0, .inl (K 0, 5500, .inl fw))]) (va_runV (As := [.int (-1)]) (rest := []) ⟨hx, hb, hml, hown, hts⟩ (v_tell l D K m0 (-1) (.int 0) sta r0 (.ref w0) m_4 m_5 m_6 m_7 (.int nu) m_9 m_10 m_11 m_12 m_13 m_14 m_15 m_16 m_17 m_18 m_19 m_20 m_21 m_22 m_23 m_24 m_25 m_26 m_27 m_28 m_29 m_30 m_31 m_32 m_33 m_34 m_35 m_36 m_37 m_38 m_39 m_40 m_41 m_42 m_43 m_44 m_45 m_46 m_47 m_48 m_49 m_50 m_51 m_52 m_53 m_54 m_55 m_56 m_57 m_58 m_59 frf H.size (by first | omega | decide)) (cwV 1 hts gX12_house_X12_tell rfl rfl rfl (by decide +kernel) ⟨Nat.le_of_ble_eq_true rfl, Nat.le_of_ble_eq_true rfl⟩) (mkV hK hN (hP.sub [0, 2] rfl) (hD.sub [0, 2] (by decide +kernel) rfl) (ci := 12) (q0 := 0) rfl rfl) rfl rfl hl.1 rfl (lv_room (Nat.le_of_ble_eq_true rfl)) dX12_house_69 ⟨Nat.le_of_ble_eq_true rfl, Nat.le_of_ble_eq_true rfl⟩) hP hD hS hA [0, 2] [1] rfl rfl (by decide +kernel) (by decide +kernel) (fun r_662 u_663 H locs hw hP0 hD0 hS0 => ?_)
    clear hP hD hS
    have hP := hP0
    have hD := hD0
    have hS := hS0
    clear hP0 hD0 hS0
    replace hP : va_P D vwCl [(w0, .inl (K 0, 5500, .inl fw)), (m0, .inr (12, [.int 0, .int (u_663.2.2.2.1 0), .ref r0, .ref w0, m_4, m_5, m_6, m_7, .int nu, m_9, m_10, m_11, m_12, m_13, m_14, m_15, m_16, m_17, m_18, m_19, m_20, m_21, m_22, m_23, m_24, m_25, m_26, m_27, m_28, m_29, m_30, m_31, m_32, m_33, m_34, m_35, m_36, m_37, m_38, m_39, m_40, m_41, m_42, m_43, m_44, m_45, m_46, m_47, m_48, m_49, m_50, m_51, m_52, m_53, m_54, m_55, m_56, m_57, m_58, m_59])), (r0, .inl (K 0, 7, .inl (u_663.2.1 0)))] H := hP
    replace hD : va_D A [(w0, .inl (K 0, 5500, .inl fw)), (m0, .inr (12, [.int 0, .int (u_663.2.2.2.1 0), .ref r0, .ref w0, m_4, m_5, m_6, m_7, .int nu, m_9, m_10, m_11, m_12, m_13, m_14, m_15, m_16, m_17, m_18, m_19, m_20, m_21, m_22, m_23, m_24, m_25, m_26, m_27, m_28, m_29, m_30, m_31, m_32, m_33, m_34, m_35, m_36, m_37, m_38, m_39, m_40, m_41, m_42, m_43, m_44, m_45, m_46, m_47, m_48, m_49, m_50, m_51, m_52, m_53, m_54, m_55, m_56, m_57, m_58, m_59])), (r0, .inl (K 0, 7, .inl (u_663.2.1 0)))] := hD
    obtain ⟨h_666, k_664, k_665, -⟩ := hw
    replace hE := (hE.trans (Lt2_in k_665)).trans (Lt2_in rfl)
    rw [← hQ]
    have hP9 := hP.sub (ws' := [(m0, .inr (12, [.int 0, .int (u_663.2.2.2.1 0), .ref r0, .ref w0, m_4, m_5, m_6, m_7, .int nu, m_9, m_10, m_11, m_12, m_13, m_14, m_15, m_16, m_17, m_18, m_19, m_20, m_21, m_22, m_23, m_24, m_25, m_26, m_27, m_28, m_29, m_30, m_31, m_32, m_33, m_34, m_35, m_36, m_37, m_38, m_39, m_40, m_41, m_42, m_43, m_44, m_45, m_46, m_47, m_48, m_49, m_50, m_51, m_52, m_53, m_54, m_55, m_56, m_57, m_58, m_59])), (w0, .inl (K 0, 5500, .inl fw)), (r0, .inl (K 0, 7, .inl (u_663.2.1 0)))]) [1, 0, 2] rfl
    have hD9 := hD.sub (ws' := [(m0, .inr (12, [.int 0, .int (u_663.2.2.2.1 0), .ref r0, .ref w0, m_4, m_5, m_6, m_7, .int nu, m_9, m_10, m_11, m_12, m_13, m_14, m_15, m_16, m_17, m_18, m_19, m_20, m_21, m_22, m_23, m_24, m_25, m_26, m_27, m_28, m_29, m_30, m_31, m_32, m_33, m_34, m_35, m_36, m_37, m_38, m_39, m_40, m_41, m_42, m_43, m_44, m_45, m_46, m_47, m_48, m_49, m_50, m_51, m_52, m_53, m_54, m_55, m_56, m_57, m_58, m_59])), (w0, .inl (K 0, 5500, .inl fw)), (r0, .inl (K 0, 7, .inl (u_663.2.1 0)))]) [1, 0, 2] (by decide +kernel) rfl
    exact W.iret (v := r_662) hx hb hr (fun t ht hW => ⟨⟨r_662, ((fun _ => 0, fun i => match i with | 0 => fw | _ => (u_663.2.1 0), fun _ => fun _ => 0, fun i => match i with | 0 => (u_663.2.2.2.1 0) | _ => nu, fun _ => 0, fun _ => fun _ => none) : Su), rfl, ⟨(show (-6) ≤ r_662.toInt by omega), (show (-6) ≤ ((u_663.2.2.2.1 0) : Int32).toInt ∧ ((u_663.2.2.2.1 0) : Int32).toInt ≤ 0 by omega), zfw, hE.symm, trivial⟩, (⟨by rw [ht]; exact hP9, hD9⟩ : Wd D A _ t)⟩, hS.F ht⟩) hS.2.2 dX12_house_72
  refine pci (va_runS (As := [.long x_541, .long 0, .long 6]) (rest := []) ⟨hx, hb, hml, hown, hts⟩ (v_in l D K x0.toInt 0 6 x_541 0 6 H.size hx_541 (show (0 : Int64).toInt = 0 from rfl) (show (6 : Int64).toInt = 6 from rfl)) (va_cwS 3 hts gX12_house_X12_in rfl rfl rfl (by decide +kernel) ⟨Nat.le_of_ble_eq_true rfl, Nat.le_of_ble_eq_true rfl⟩) (mkS hK hN (va_P.nil) (va_D.nil (A := fun _ => True))) rfl rfl hl.1 rfl (lv_room (Nat.le_of_ble_eq_true rfl)) dX12_house_11 ⟨Nat.le_of_ble_eq_true rfl, Nat.le_of_ble_eq_true rfl⟩) (fun r_667 hw => ?_)
  obtain ⟨hw, k_668, -⟩ := hw
  replace hE := hE.trans (Lt_in k_668)
  rcases hw with ⟨rfl, h_669, h_670⟩ | ⟨rfl, h_671⟩
  · replace hE := (hE).trans (if_pos rfl)
    refine lv_if_eq (tgt := 67) hx hb dX12_house_14 (by decide +kernel) (fun c_672 => absurd c_672 (by decide +kernel)) (fun c_672 => ?_)
    refine lv_iload_n hx hb dX12_house_17 rfl (lv_at hl 2 rfl) ?_
    refine lv_i2l hx hb dX12_house_18 rfl ?_
    refine lv_topl (fun x_673 ex_673 => ?_)
    replace hE := hE.trans (Lt_in ex_673)
    have hx_673 : x_673.toInt = x1.toInt := by rw [ex_673]; exact i_wide rfl
    have hbx_673 := i_rng (a := x1) rfl
    refine lv_lconst (v := 0) hx hb dX12_house_19 (by decide +kernel) ?_
    refine lv_ldc2 (v := 3) hx hb hown (hts _ mm_X12_house_977) dX12_house_20 ?_
    refine pci (va_runS (As := [.long x_673, .long 0, .long 3]) (rest := []) ⟨hx, hb, hml, hown, hts⟩ (v_in l D K x1.toInt 0 3 x_673 0 3 H.size hx_673 (show (0 : Int64).toInt = 0 from rfl) (show (3 : Int64).toInt = 3 from rfl)) (va_cwS 3 hts gX12_house_X12_in rfl rfl rfl (by decide +kernel) ⟨Nat.le_of_ble_eq_true rfl, Nat.le_of_ble_eq_true rfl⟩) (mkS hK hN (va_P.nil) (va_D.nil (A := fun _ => True))) rfl rfl hl.1 rfl (lv_room (Nat.le_of_ble_eq_true rfl)) dX12_house_23 ⟨Nat.le_of_ble_eq_true rfl, Nat.le_of_ble_eq_true rfl⟩) (fun r_674 hw => ?_)
    obtain ⟨hw, k_675, -⟩ := hw
    replace hE := hE.trans (Lt_in k_675)
    rcases hw with ⟨rfl, h_676, h_677⟩ | ⟨rfl, h_678⟩
    · replace hE := (hE).trans (if_pos rfl)
      refine lv_if_eq (tgt := 67) hx hb dX12_house_26 (by decide +kernel) (fun c_679 => absurd c_679 (by decide +kernel)) (fun c_679 => ?_)
      refine lv_iload_n hx hb dX12_house_29 rfl (lv_at hl 3 rfl) ?_
      refine lv_i2l hx hb dX12_house_30 rfl ?_
      refine lv_topl (fun x_680 ex_680 => ?_)
      replace hE := hE.trans (Lt_in ex_680)
      have hx_680 : x_680.toInt = x2.toInt := by rw [ex_680]; exact i_wide rfl
      have hbx_680 := i_rng (a := x2) rfl
      refine lv_lconst (v := 0) hx hb dX12_house_31 (by decide +kernel) ?_
      refine lv_ldc2 (v := 999) hx hb hown (hts _ mm_X12_house_978) dX12_house_32 ?_
      refine pci (va_runS (As := [.long x_680, .long 0, .long 999]) (rest := []) ⟨hx, hb, hml, hown, hts⟩ (v_in l D K x2.toInt 0 999 x_680 0 999 H.size hx_680 (show (0 : Int64).toInt = 0 from rfl) (show (999 : Int64).toInt = 999 from rfl)) (va_cwS 3 hts gX12_house_X12_in rfl rfl rfl (by decide +kernel) ⟨Nat.le_of_ble_eq_true rfl, Nat.le_of_ble_eq_true rfl⟩) (mkS hK hN (va_P.nil) (va_D.nil (A := fun _ => True))) rfl rfl hl.1 rfl (lv_room (Nat.le_of_ble_eq_true rfl)) dX12_house_35 ⟨Nat.le_of_ble_eq_true rfl, Nat.le_of_ble_eq_true rfl⟩) (fun r_681 hw => ?_)
      obtain ⟨hw, k_682, -⟩ := hw
      replace hE := hE.trans (Lt_in k_682)
      rcases hw with ⟨rfl, h_683, h_684⟩ | ⟨rfl, h_685⟩
      · replace hE := (hE).trans (if_pos rfl)
        refine lv_if_eq (tgt := 67) hx hb dX12_house_38 (by decide +kernel) (fun c_686 => absurd c_686 (by decide +kernel)) (fun c_686 => ?_)
        refine lv_iload hx hb dX12_house_41 (lv_at hl 4 rfl) ?_
        refine lv_i2l hx hb dX12_house_43 rfl ?_
        refine lv_topl (fun x_687 ex_687 => ?_)
        replace hE := hE.trans (Lt_in ex_687)
        have hx_687 : x_687.toInt = x3.toInt := by rw [ex_687]; exact i_wide rfl
        have hbx_687 := i_rng (a := x3) rfl
        refine lv_lconst (v := 0) hx hb dX12_house_44 (by decide +kernel) ?_
        refine lv_ldc2 (v := 7) hx hb hown (hts _ mm_X12_house_979) dX12_house_45 ?_
        refine pci (va_runS (As := [.long x_687, .long 0, .long 7]) (rest := []) ⟨hx, hb, hml, hown, hts⟩ (v_in l D K x3.toInt 0 7 x_687 0 7 H.size hx_687 (show (0 : Int64).toInt = 0 from rfl) (show (7 : Int64).toInt = 7 from rfl)) (va_cwS 3 hts gX12_house_X12_in rfl rfl rfl (by decide +kernel) ⟨Nat.le_of_ble_eq_true rfl, Nat.le_of_ble_eq_true rfl⟩) (mkS hK hN (va_P.nil) (va_D.nil (A := fun _ => True))) rfl rfl hl.1 rfl (lv_room (Nat.le_of_ble_eq_true rfl)) dX12_house_48 ⟨Nat.le_of_ble_eq_true rfl, Nat.le_of_ble_eq_true rfl⟩) (fun r_688 hw => ?_)
        obtain ⟨hw, k_689, -⟩ := hw
        replace hE := hE.trans (Lt_in k_689)
        rcases hw with ⟨rfl, h_690, h_691⟩ | ⟨rfl, h_692⟩
        · replace hE := (hE).trans (if_pos rfl)
          refine lv_if_eq (tgt := 67) hx hb dX12_house_51 (by decide +kernel) (fun c_693 => absurd c_693 (by decide +kernel)) (fun c_693 => ?_)
          refine lv_iload hx hb dX12_house_54 (lv_at hl 5 rfl) ?_
          refine lv_i2l hx hb dX12_house_56 rfl ?_
          refine lv_topl (fun x_694 ex_694 => ?_)
          replace hE := hE.trans (Lt_in ex_694)
          have hx_694 : x_694.toInt = x4.toInt := by rw [ex_694]; exact i_wide rfl
          have hbx_694 := i_rng (a := x4) rfl
          refine lv_lconst (v := 0) hx hb dX12_house_57 (by decide +kernel) ?_
          refine lv_ldc2 (v := 7) hx hb hown (hts _ mm_X12_house_979) dX12_house_58 ?_
          refine pci (va_runS (As := [.long x_694, .long 0, .long 7]) (rest := []) ⟨hx, hb, hml, hown, hts⟩ (v_in l D K x4.toInt 0 7 x_694 0 7 H.size hx_694 (show (0 : Int64).toInt = 0 from rfl) (show (7 : Int64).toInt = 7 from rfl)) (va_cwS 3 hts gX12_house_X12_in rfl rfl rfl (by decide +kernel) ⟨Nat.le_of_ble_eq_true rfl, Nat.le_of_ble_eq_true rfl⟩) (mkS hK hN (va_P.nil) (va_D.nil (A := fun _ => True))) rfl rfl hl.1 rfl (lv_room (Nat.le_of_ble_eq_true rfl)) dX12_house_61 ⟨Nat.le_of_ble_eq_true rfl, Nat.le_of_ble_eq_true rfl⟩) (fun r_695 hw => ?_)
          obtain ⟨hw, k_696, -⟩ := hw
          replace hE := hE.trans (Lt_in k_696)
          rcases hw with ⟨rfl, h_697, h_698⟩ | ⟨rfl, h_699⟩
          · replace hE := (hE).trans (if_pos rfl)
            refine lv_if_ne (tgt := 73) hx hb dX12_house_64 (by decide +kernel) (fun c_700 => ?_) (fun c_700 => absurd c_700 (by decide +kernel))
            refine lv_aload_n hx hb dX12_house_73 rfl (lv_at hl 0 rfl) ?_
            refine va_get (ci := 12) (v := .ref w0) (C := RX12) (T := TX12) (N := 60) hx hb hts hw12 hown hK hP 0 rfl rfl 3 (by decide +kernel) (hts _ mm_X12_house_833) (fun _ h9 => h9) rfl dX12_house_74 ?_
            refine lv_iconst (v := 0) hx hb dX12_house_77 (by decide +kernel) ?_
            refine va_iald hx hb hK hP 1 0 rfl rfl (i_in (x := 0) rfl (by omega)) dX12_house_78 ?_
            refine lv_topi (fun x_701 ex_701 => ?_)
            replace hE := hE.trans (Lt_in ex_701)
            have px_701 := RwOK.at zfw (show (0 : Int32).toInt = 0 from rfl) (show 0 ≤ 0 ∧ 0 < 100 by omega)
            rw [← ex_701] at px_701
            have hx_701 := PR.r_0 px_701 (by omega)
            have kx_701 : fw 0 = x_701 := ex_701.symm
            refine lv_istore (lv' := [(6, .int x_701), (0, .ref m0), (1, .int x0), (2, .int x1), (3, .int x2), (4, .int x3), (5, .int x4)]) hx hb dX12_house_79 hl (by decide +kernel) rfl (fun ls hl => ?_)
            refine lv_iconst (v := 0) hx hb dX12_house_81 (by decide +kernel) ?_
            refine lv_istore (lv' := [(7, .int 0), (6, .int x_701), (0, .ref m0), (1, .int x0), (2, .int x1), (3, .int x2), (4, .int x3), (5, .int x4)]) hx hb dX12_house_82 hl (by decide +kernel) rfl (fun ls hl => ?_)
            have lp_736 : ∀ (nn_ : Nat) (v_724 : Int32) (hv_724 : 0 ≤ v_724.toInt ∧ v_724.toInt ≤ 8) (hn : (9 - v_724.toInt : Int).toNat < nn_) (hE : E_v_house x0 x1 x2 x3 x4 thr sta nu fw frf = Lp (α := Int32 → (Int32 × Int32 × Int32 × (Nat → Int32) × (Nat → Int32))) (E_v_house_l84 x0 x1 x2 x3 x4 sta nu fw frf x_701) (fun _ => ((0, 0, 0, fun _ => 0, fun _ => 0) : Int32 × Int32 × Int32 × (Nat → Int32) × (Nat → Int32))) nn_ v_724) (H : Heap) (locs : List Loc) (hP : va_P D vwCl [(m0, .inr (12, [.int 0, .int sta, .ref r0, .ref w0, m_4, m_5, m_6, m_7, .int nu, m_9, m_10, m_11, m_12, m_13, m_14, m_15, m_16, m_17, m_18, m_19, m_20, m_21, m_22, m_23, m_24, m_25, m_26, m_27, m_28, m_29, m_30, m_31, m_32, m_33, m_34, m_35, m_36, m_37, m_38, m_39, m_40, m_41, m_42, m_43, m_44, m_45, m_46, m_47, m_48, m_49, m_50, m_51, m_52, m_53, m_54, m_55, m_56, m_57, m_58, m_59])), (w0, .inl (K 0, 5500, .inl fw)), (r0, .inl (K 0, 7, .inl frf))] H) (hD : va_D A [(m0, .inr (12, [.int 0, .int sta, .ref r0, .ref w0, m_4, m_5, m_6, m_7, .int nu, m_9, m_10, m_11, m_12, m_13, m_14, m_15, m_16, m_17, m_18, m_19, m_20, m_21, m_22, m_23, m_24, m_25, m_26, m_27, m_28, m_29, m_30, m_31, m_32, m_33, m_34, m_35, m_36, m_37, m_38, m_39, m_40, m_41, m_42, m_43, m_44, m_45, m_46, m_47, m_48, m_49, m_50, m_51, m_52, m_53, m_54, m_55, m_56, m_57, m_58, m_59])), (w0, .inl (K 0, 5500, .inl fw)), (r0, .inl (K 0, 7, .inl frf))]) (hS : va_S A s.heap H locs) (ls : Array Slot) (hl : lv_has ls 8 [(7, .int v_724), (6, .int x_701), (0, .ref m0), (1, .int x0), (2, .int x1), (3, .int x2), (4, .int x3), (5, .int x4)]), W p l e ({ frames := 1, cells := 0, slots := 0, locals := 25 }) s m (([.ref m0, .int x0, .int x1, .int x2, .int x3, .int x4] : List Value).toArray) below meth c H locs 0 0 Q (F0 m 84 ls []) := by
              clear hE hP hD hS hl
              intro nn_
              induction nn_ with
              | zero =>
                intro v_724 hv_724 hn hE H locs hP hD hS ls hl
                exact absurd hn (Nat.not_lt_zero _)
              | succ nn_ ih_737 =>
                intro v_724 hv_724 hn hE H locs hP hD hS ls hl
                replace hE : E_v_house x0 x1 x2 x3 x4 thr sta nu fw frf = E_v_house_l84 x0 x1 x2 x3 x4 sta nu fw frf x_701 (Lp (α := Int32 → (Int32 × Int32 × Int32 × (Nat → Int32) × (Nat → Int32))) (E_v_house_l84 x0 x1 x2 x3 x4 sta nu fw frf x_701) (fun _ => ((0, 0, 0, fun _ => 0, fun _ => 0) : Int32 × Int32 × Int32 × (Nat → Int32) × (Nat → Int32))) nn_) v_724 := hE
                obtain ⟨rec_736, hrec_736⟩ : ∃ z9, z9 = Lp (α := Int32 → (Int32 × Int32 × Int32 × (Nat → Int32) × (Nat → Int32))) (E_v_house_l84 x0 x1 x2 x3 x4 sta nu fw frf x_701) (fun _ => ((0, 0, 0, fun _ => 0, fun _ => 0) : Int32 × Int32 × Int32 × (Nat → Int32) × (Nat → Int32))) nn_ := ⟨_, rfl⟩
                rw [← hrec_736] at hE
                replace hE := hE.trans (E_v_house_l84.eq_def _ _ _ _ _ _ _ _ _ _ _ _)
                refine lv_iload hx hb dX12_house_84 (lv_at hl 0 rfl) ?_
                refine lv_iload hx hb dX12_house_86 (lv_at hl 1 rfl) ?_
                refine lv_icmp_ge (tgt := 119) hx hb dX12_house_88 (by decide +kernel) (fun c_738 => ?_) (fun c_738 => ?_)
                · have c_738i := i_le (x := x_701.toInt) (y := v_724.toInt) rfl rfl c_738
                  replace hE := hE.trans (if_pos c_738)
                  refine lv_iload hx hb dX12_house_119 (lv_at hl 1 rfl) ?_
                  refine lv_bipush (v := 8) hx hb dX12_house_121 (by decide +kernel) ?_
                  refine lv_icmp_ne (tgt := 133) hx hb dX12_house_123 (by decide +kernel) (fun c_739 => ?_) (fun c_739 => ?_)
                  · have c_739i := i_ne (x := x_701.toInt) (y := 8) rfl rfl c_739
                    replace hE := hE.trans (if_neg c_739)
                    refine lv_aload_n hx hb dX12_house_133 rfl (lv_at hl 2 rfl) ?_
                    refine va_get (ci := 12) (v := .ref w0) (C := RX12) (T := TX12) (N := 60) hx hb hts hw12 hown hK hP 0 rfl rfl 3 (by decide +kernel) (hts _ mm_X12_house_833) (fun _ h9 => h9) rfl dX12_house_134 ?_
                    refine lv_bipush (v := 35) hx hb dX12_house_137 (by decide +kernel) ?_
                    refine lv_iload hx hb dX12_house_139 (lv_at hl 1 rfl) ?_
                    refine lv_iadd hx hb dX12_house_141 ?_
                    refine lv_topi (fun x_740 ex_740 => ?_)
                    replace hE := hE.trans (Lt_in ex_740)
                    have hx_740 : x_740.toInt = (35 + x_701.toInt) := by rw [ex_740]; exact i_add (show (35 : Int32).toInt = 35 from rfl) rfl (by omega)
                    refine lv_iload_n hx hb dX12_house_142 rfl (lv_at hl 3 rfl) ?_
                    refine va_iast hx hb hK hP hD hS 1 0 rfl rfl (i_in hx_740 (by omega)) dX12_house_143 (fun H locs hP0 hD0 hS0 => ?_)
                    clear hP hD hS
                    have hP := hP0
                    have hD := hD0
                    have hS := hS0
                    clear hP0 hD0 hS0
                    generalize hf_741 : (upd fw (x_740 : Int32).toNatClampNeg x0) = f_741 at hP hD
                    replace hE := hE.trans (Lt_in hf_741.symm)
                    have hf_741_0 : RwOK f_741 := by rw [← hf_741]; exact RwOK.upd zfw hx_740 (by omega) rfl (PR.w_35 (by omega) (by omega))
                    have hf_741_1 : f_741 0 = x_701 := by rw [← hf_741]; exact (pk_un (show ¬ 0 = _ by rw [i_clamp hx_740]; omega)).trans kx_701
                    replace hP : va_P D vwCl [(m0, .inr (12, [.int 0, .int sta, .ref r0, .ref w0, m_4, m_5, m_6, m_7, .int nu, m_9, m_10, m_11, m_12, m_13, m_14, m_15, m_16, m_17, m_18, m_19, m_20, m_21, m_22, m_23, m_24, m_25, m_26, m_27, m_28, m_29, m_30, m_31, m_32, m_33, m_34, m_35, m_36, m_37, m_38, m_39, m_40, m_41, m_42, m_43, m_44, m_45, m_46, m_47, m_48, m_49, m_50, m_51, m_52, m_53, m_54, m_55, m_56, m_57, m_58, m_59])), (w0, .inl (K 0, 5500, .inl f_741)), (r0, .inl (K 0, 7, .inl frf))] H := hP
                    replace hD : va_D A [(m0, .inr (12, [.int 0, .int sta, .ref r0, .ref w0, m_4, m_5, m_6, m_7, .int nu, m_9, m_10, m_11, m_12, m_13, m_14, m_15, m_16, m_17, m_18, m_19, m_20, m_21, m_22, m_23, m_24, m_25, m_26, m_27, m_28, m_29, m_30, m_31, m_32, m_33, m_34, m_35, m_36, m_37, m_38, m_39, m_40, m_41, m_42, m_43, m_44, m_45, m_46, m_47, m_48, m_49, m_50, m_51, m_52, m_53, m_54, m_55, m_56, m_57, m_58, m_59])), (w0, .inl (K 0, 5500, .inl f_741)), (r0, .inl (K 0, 7, .inl frf))] := hD
                    refine lv_aload_n hx hb dX12_house_144 rfl (lv_at hl 2 rfl) ?_
                    refine va_get (ci := 12) (v := .ref w0) (C := RX12) (T := TX12) (N := 60) hx hb hts hw12 hown hK hP 0 rfl rfl 3 (by decide +kernel) (hts _ mm_X12_house_833) (fun _ h9 => h9) rfl dX12_house_145 ?_
                    refine lv_bipush (v := 43) hx hb dX12_house_148 (by decide +kernel) ?_
                    refine lv_iload hx hb dX12_house_150 (lv_at hl 1 rfl) ?_
                    refine lv_iadd hx hb dX12_house_152 ?_
                    refine lv_topi (fun x_742 ex_742 => ?_)
                    replace hE := hE.trans (Lt_in ex_742)
                    have hx_742 : x_742.toInt = (43 + x_701.toInt) := by rw [ex_742]; exact i_add (show (43 : Int32).toInt = 43 from rfl) rfl (by omega)
                    refine lv_iload_n hx hb dX12_house_153 rfl (lv_at hl 4 rfl) ?_
                    refine va_iast hx hb hK hP hD hS 1 0 rfl rfl (i_in hx_742 (by omega)) dX12_house_154 (fun H locs hP0 hD0 hS0 => ?_)
                    clear hP hD hS
                    have hP := hP0
                    have hD := hD0
                    have hS := hS0
                    clear hP0 hD0 hS0
                    generalize hf_743 : (upd f_741 (x_742 : Int32).toNatClampNeg x1) = f_743 at hP hD
                    replace hE := hE.trans (Lt_in hf_743.symm)
                    have hf_743_0 : RwOK f_743 := by rw [← hf_743]; exact RwOK.upd hf_741_0 hx_742 (by omega) rfl (PR.free (by omega))
                    have hf_743_1 : f_743 0 = x_701 := by rw [← hf_743]; exact (pk_un (show ¬ 0 = _ by rw [i_clamp hx_742]; omega)).trans hf_741_1
                    replace hP : va_P D vwCl [(m0, .inr (12, [.int 0, .int sta, .ref r0, .ref w0, m_4, m_5, m_6, m_7, .int nu, m_9, m_10, m_11, m_12, m_13, m_14, m_15, m_16, m_17, m_18, m_19, m_20, m_21, m_22, m_23, m_24, m_25, m_26, m_27, m_28, m_29, m_30, m_31, m_32, m_33, m_34, m_35, m_36, m_37, m_38, m_39, m_40, m_41, m_42, m_43, m_44, m_45, m_46, m_47, m_48, m_49, m_50, m_51, m_52, m_53, m_54, m_55, m_56, m_57, m_58, m_59])), (w0, .inl (K 0, 5500, .inl f_743)), (r0, .inl (K 0, 7, .inl frf))] H := hP
                    replace hD : va_D A [(m0, .inr (12, [.int 0, .int sta, .ref r0, .ref w0, m_4, m_5, m_6, m_7, .int nu, m_9, m_10, m_11, m_12, m_13, m_14, m_15, m_16, m_17, m_18, m_19, m_20, m_21, m_22, m_23, m_24, m_25, m_26, m_27, m_28, m_29, m_30, m_31, m_32, m_33, m_34, m_35, m_36, m_37, m_38, m_39, m_40, m_41, m_42, m_43, m_44, m_45, m_46, m_47, m_48, m_49, m_50, m_51, m_52, m_53, m_54, m_55, m_56, m_57, m_58, m_59])), (w0, .inl (K 0, 5500, .inl f_743)), (r0, .inl (K 0, 7, .inl frf))] := hD
                    refine lv_aload_n hx hb dX12_house_155 rfl (lv_at hl 2 rfl) ?_
                    refine va_get (ci := 12) (v := .ref w0) (C := RX12) (T := TX12) (N := 60) hx hb hts hw12 hown hK hP 0 rfl rfl 3 (by decide +kernel) (hts _ mm_X12_house_833) (fun _ h9 => h9) rfl dX12_house_156 ?_
                    refine lv_bipush (v := 19) hx hb dX12_house_159 (by decide +kernel) ?_
                    refine lv_iload hx hb dX12_house_161 (lv_at hl 1 rfl) ?_
                    refine lv_iadd hx hb dX12_house_163 ?_
                    refine lv_topi (fun x_744 ex_744 => ?_)
                    replace hE := hE.trans (Lt_in ex_744)
                    have hx_744 : x_744.toInt = (19 + x_701.toInt) := by rw [ex_744]; exact i_add (show (19 : Int32).toInt = 19 from rfl) rfl (by omega)
                    refine lv_iload_n hx hb dX12_house_164 rfl (lv_at hl 5 rfl) ?_
                    refine va_iast hx hb hK hP hD hS 1 0 rfl rfl (i_in hx_744 (by omega)) dX12_house_165 (fun H locs hP0 hD0 hS0 => ?_)
                    clear hP hD hS
                    have hP := hP0
                    have hD := hD0
                    have hS := hS0
                    clear hP0 hD0 hS0
                    generalize hf_745 : (upd f_743 (x_744 : Int32).toNatClampNeg x2) = f_745 at hP hD
                    replace hE := hE.trans (Lt_in hf_745.symm)
                    have hf_745_0 : RwOK f_745 := by rw [← hf_745]; exact RwOK.upd hf_743_0 hx_744 (by omega) rfl (PR.free (by omega))
                    have hf_745_1 : f_745 0 = x_701 := by rw [← hf_745]; exact (pk_un (show ¬ 0 = _ by rw [i_clamp hx_744]; omega)).trans hf_743_1
                    replace hP : va_P D vwCl [(m0, .inr (12, [.int 0, .int sta, .ref r0, .ref w0, m_4, m_5, m_6, m_7, .int nu, m_9, m_10, m_11, m_12, m_13, m_14, m_15, m_16, m_17, m_18, m_19, m_20, m_21, m_22, m_23, m_24, m_25, m_26, m_27, m_28, m_29, m_30, m_31, m_32, m_33, m_34, m_35, m_36, m_37, m_38, m_39, m_40, m_41, m_42, m_43, m_44, m_45, m_46, m_47, m_48, m_49, m_50, m_51, m_52, m_53, m_54, m_55, m_56, m_57, m_58, m_59])), (w0, .inl (K 0, 5500, .inl f_745)), (r0, .inl (K 0, 7, .inl frf))] H := hP
                    replace hD : va_D A [(m0, .inr (12, [.int 0, .int sta, .ref r0, .ref w0, m_4, m_5, m_6, m_7, .int nu, m_9, m_10, m_11, m_12, m_13, m_14, m_15, m_16, m_17, m_18, m_19, m_20, m_21, m_22, m_23, m_24, m_25, m_26, m_27, m_28, m_29, m_30, m_31, m_32, m_33, m_34, m_35, m_36, m_37, m_38, m_39, m_40, m_41, m_42, m_43, m_44, m_45, m_46, m_47, m_48, m_49, m_50, m_51, m_52, m_53, m_54, m_55, m_56, m_57, m_58, m_59])), (w0, .inl (K 0, 5500, .inl f_745)), (r0, .inl (K 0, 7, .inl frf))] := hD
                    refine lv_aload_n hx hb dX12_house_166 rfl (lv_at hl 2 rfl) ?_
                    refine va_get (ci := 12) (v := .ref w0) (C := RX12) (T := TX12) (N := 60) hx hb hts hw12 hown hK hP 0 rfl rfl 3 (by decide +kernel) (hts _ mm_X12_house_833) (fun _ h9 => h9) rfl dX12_house_167 ?_
                    refine lv_bipush (v := 51) hx hb dX12_house_170 (by decide +kernel) ?_
                    refine lv_iload hx hb dX12_house_172 (lv_at hl 1 rfl) ?_
                    refine lv_iadd hx hb dX12_house_174 ?_
                    refine lv_topi (fun x_746 ex_746 => ?_)
                    replace hE := hE.trans (Lt_in ex_746)
                    have hx_746 : x_746.toInt = (51 + x_701.toInt) := by rw [ex_746]; exact i_add (show (51 : Int32).toInt = 51 from rfl) rfl (by omega)
                    refine lv_iload hx hb dX12_house_175 (lv_at hl 6 rfl) ?_
                    refine va_iast hx hb hK hP hD hS 1 0 rfl rfl (i_in hx_746 (by omega)) dX12_house_177 (fun H locs hP0 hD0 hS0 => ?_)
                    clear hP hD hS
                    have hP := hP0
                    have hD := hD0
                    have hS := hS0
                    clear hP0 hD0 hS0
                    generalize hf_747 : (upd f_745 (x_746 : Int32).toNatClampNeg x3) = f_747 at hP hD
                    replace hE := hE.trans (Lt_in hf_747.symm)
                    have hf_747_0 : RwOK f_747 := by rw [← hf_747]; exact RwOK.upd hf_745_0 hx_746 (by omega) rfl (PR.free (by omega))
                    have hf_747_1 : f_747 0 = x_701 := by rw [← hf_747]; exact (pk_un (show ¬ 0 = _ by rw [i_clamp hx_746]; omega)).trans hf_745_1
                    replace hP : va_P D vwCl [(m0, .inr (12, [.int 0, .int sta, .ref r0, .ref w0, m_4, m_5, m_6, m_7, .int nu, m_9, m_10, m_11, m_12, m_13, m_14, m_15, m_16, m_17, m_18, m_19, m_20, m_21, m_22, m_23, m_24, m_25, m_26, m_27, m_28, m_29, m_30, m_31, m_32, m_33, m_34, m_35, m_36, m_37, m_38, m_39, m_40, m_41, m_42, m_43, m_44, m_45, m_46, m_47, m_48, m_49, m_50, m_51, m_52, m_53, m_54, m_55, m_56, m_57, m_58, m_59])), (w0, .inl (K 0, 5500, .inl f_747)), (r0, .inl (K 0, 7, .inl frf))] H := hP
                    replace hD : va_D A [(m0, .inr (12, [.int 0, .int sta, .ref r0, .ref w0, m_4, m_5, m_6, m_7, .int nu, m_9, m_10, m_11, m_12, m_13, m_14, m_15, m_16, m_17, m_18, m_19, m_20, m_21, m_22, m_23, m_24, m_25, m_26, m_27, m_28, m_29, m_30, m_31, m_32, m_33, m_34, m_35, m_36, m_37, m_38, m_39, m_40, m_41, m_42, m_43, m_44, m_45, m_46, m_47, m_48, m_49, m_50, m_51, m_52, m_53, m_54, m_55, m_56, m_57, m_58, m_59])), (w0, .inl (K 0, 5500, .inl f_747)), (r0, .inl (K 0, 7, .inl frf))] := hD
                    refine lv_aload_n hx hb dX12_house_178 rfl (lv_at hl 2 rfl) ?_
                    refine va_get (ci := 12) (v := .ref w0) (C := RX12) (T := TX12) (N := 60) hx hb hts hw12 hown hK hP 0 rfl rfl 3 (by decide +kernel) (hts _ mm_X12_house_833) (fun _ h9 => h9) rfl dX12_house_179 ?_
                    refine lv_bipush (v := 59) hx hb dX12_house_182 (by decide +kernel) ?_
                    refine lv_iload hx hb dX12_house_184 (lv_at hl 1 rfl) ?_
                    refine lv_iadd hx hb dX12_house_186 ?_
                    refine lv_topi (fun x_748 ex_748 => ?_)
                    replace hE := hE.trans (Lt_in ex_748)
                    have hx_748 : x_748.toInt = (59 + x_701.toInt) := by rw [ex_748]; exact i_add (show (59 : Int32).toInt = 59 from rfl) rfl (by omega)
                    refine lv_iload hx hb dX12_house_187 (lv_at hl 7 rfl) ?_
                    refine va_iast hx hb hK hP hD hS 1 0 rfl rfl (i_in hx_748 (by omega)) dX12_house_189 (fun H locs hP0 hD0 hS0 => ?_)
                    clear hP hD hS
                    have hP := hP0
                    have hD := hD0
                    have hS := hS0
                    clear hP0 hD0 hS0
                    generalize hf_749 : (upd f_747 (x_748 : Int32).toNatClampNeg x4) = f_749 at hP hD
                    replace hE := hE.trans (Lt_in hf_749.symm)
                    have hf_749_0 : RwOK f_749 := by rw [← hf_749]; exact RwOK.upd hf_747_0 hx_748 (by omega) rfl (PR.free (by omega))
                    have hf_749_1 : f_749 0 = x_701 := by rw [← hf_749]; exact (pk_un (show ¬ 0 = _ by rw [i_clamp hx_748]; omega)).trans hf_747_1
                    replace hP : va_P D vwCl [(m0, .inr (12, [.int 0, .int sta, .ref r0, .ref w0, m_4, m_5, m_6, m_7, .int nu, m_9, m_10, m_11, m_12, m_13, m_14, m_15, m_16, m_17, m_18, m_19, m_20, m_21, m_22, m_23, m_24, m_25, m_26, m_27, m_28, m_29, m_30, m_31, m_32, m_33, m_34, m_35, m_36, m_37, m_38, m_39, m_40, m_41, m_42, m_43, m_44, m_45, m_46, m_47, m_48, m_49, m_50, m_51, m_52, m_53, m_54, m_55, m_56, m_57, m_58, m_59])), (w0, .inl (K 0, 5500, .inl f_749)), (r0, .inl (K 0, 7, .inl frf))] H := hP
                    replace hD : va_D A [(m0, .inr (12, [.int 0, .int sta, .ref r0, .ref w0, m_4, m_5, m_6, m_7, .int nu, m_9, m_10, m_11, m_12, m_13, m_14, m_15, m_16, m_17, m_18, m_19, m_20, m_21, m_22, m_23, m_24, m_25, m_26, m_27, m_28, m_29, m_30, m_31, m_32, m_33, m_34, m_35, m_36, m_37, m_38, m_39, m_40, m_41, m_42, m_43, m_44, m_45, m_46, m_47, m_48, m_49, m_50, m_51, m_52, m_53, m_54, m_55, m_56, m_57, m_58, m_59])), (w0, .inl (K 0, 5500, .inl f_749)), (r0, .inl (K 0, 7, .inl frf))] := hD
                    refine lv_aload_n hx hb dX12_house_190 rfl (lv_at hl 2 rfl) ?_
                    refine va_get (ci := 12) (v := .ref w0) (C := RX12) (T := TX12) (N := 60) hx hb hts hw12 hown hK hP 0 rfl rfl 3 (by decide +kernel) (hts _ mm_X12_house_833) (fun _ h9 => h9) rfl dX12_house_191 ?_
                    refine lv_bipush (v := 11) hx hb dX12_house_194 (by decide +kernel) ?_
                    refine lv_iload hx hb dX12_house_196 (lv_at hl 1 rfl) ?_
                    refine lv_iadd hx hb dX12_house_198 ?_
                    refine lv_topi (fun x_750 ex_750 => ?_)
                    replace hE := hE.trans (Lt_in ex_750)
                    have hx_750 : x_750.toInt = (11 + x_701.toInt) := by rw [ex_750]; exact i_add (show (11 : Int32).toInt = 11 from rfl) rfl (by omega)
                    refine lv_iconst (v := 0) hx hb dX12_house_199 (by decide +kernel) ?_
                    refine va_iast hx hb hK hP hD hS 1 0 rfl rfl (i_in hx_750 (by omega)) dX12_house_200 (fun H locs hP0 hD0 hS0 => ?_)
                    clear hP hD hS
                    have hP := hP0
                    have hD := hD0
                    have hS := hS0
                    clear hP0 hD0 hS0
                    generalize hf_751 : (upd f_749 (x_750 : Int32).toNatClampNeg 0) = f_751 at hP hD
                    replace hE := hE.trans (Lt_in hf_751.symm)
                    have hf_751_0 : RwOK f_751 := by rw [← hf_751]; exact RwOK.upd hf_749_0 hx_750 (by omega) (show (0 : Int32).toInt = 0 from rfl) (PR.w_11 (by omega) (by omega))
                    have hf_751_1 : f_751 0 = x_701 := by rw [← hf_751]; exact (pk_un (show ¬ 0 = _ by rw [i_clamp hx_750]; omega)).trans hf_749_1
                    replace hP : va_P D vwCl [(m0, .inr (12, [.int 0, .int sta, .ref r0, .ref w0, m_4, m_5, m_6, m_7, .int nu, m_9, m_10, m_11, m_12, m_13, m_14, m_15, m_16, m_17, m_18, m_19, m_20, m_21, m_22, m_23, m_24, m_25, m_26, m_27, m_28, m_29, m_30, m_31, m_32, m_33, m_34, m_35, m_36, m_37, m_38, m_39, m_40, m_41, m_42, m_43, m_44, m_45, m_46, m_47, m_48, m_49, m_50, m_51, m_52, m_53, m_54, m_55, m_56, m_57, m_58, m_59])), (w0, .inl (K 0, 5500, .inl f_751)), (r0, .inl (K 0, 7, .inl frf))] H := hP
                    replace hD : va_D A [(m0, .inr (12, [.int 0, .int sta, .ref r0, .ref w0, m_4, m_5, m_6, m_7, .int nu, m_9, m_10, m_11, m_12, m_13, m_14, m_15, m_16, m_17, m_18, m_19, m_20, m_21, m_22, m_23, m_24, m_25, m_26, m_27, m_28, m_29, m_30, m_31, m_32, m_33, m_34, m_35, m_36, m_37, m_38, m_39, m_40, m_41, m_42, m_43, m_44, m_45, m_46, m_47, m_48, m_49, m_50, m_51, m_52, m_53, m_54, m_55, m_56, m_57, m_58, m_59])), (w0, .inl (K 0, 5500, .inl f_751)), (r0, .inl (K 0, 7, .inl frf))] := hD
                    refine lv_aload_n hx hb dX12_house_201 rfl (lv_at hl 2 rfl) ?_
                    refine va_get (ci := 12) (v := .ref w0) (C := RX12) (T := TX12) (N := 60) hx hb hts hw12 hown hK hP 0 rfl rfl 3 (by decide +kernel) (hts _ mm_X12_house_833) (fun _ h9 => h9) rfl dX12_house_202 ?_
                    refine lv_bipush (v := 27) hx hb dX12_house_205 (by decide +kernel) ?_
                    refine lv_iload hx hb dX12_house_207 (lv_at hl 1 rfl) ?_
                    refine lv_iadd hx hb dX12_house_209 ?_
                    refine lv_topi (fun x_752 ex_752 => ?_)
                    replace hE := hE.trans (Lt_in ex_752)
                    have hx_752 : x_752.toInt = (27 + x_701.toInt) := by rw [ex_752]; exact i_add (show (27 : Int32).toInt = 27 from rfl) rfl (by omega)
                    refine lv_iconst (v := 0) hx hb dX12_house_210 (by decide +kernel) ?_
                    refine va_iast hx hb hK hP hD hS 1 0 rfl rfl (i_in hx_752 (by omega)) dX12_house_211 (fun H locs hP0 hD0 hS0 => ?_)
                    clear hP hD hS
                    have hP := hP0
                    have hD := hD0
                    have hS := hS0
                    clear hP0 hD0 hS0
                    generalize hf_753 : (upd f_751 (x_752 : Int32).toNatClampNeg 0) = f_753 at hP hD
                    replace hE := hE.trans (Lt_in hf_753.symm)
                    have hf_753_0 : RwOK f_753 := by rw [← hf_753]; exact RwOK.upd hf_751_0 hx_752 (by omega) (show (0 : Int32).toInt = 0 from rfl) (PR.free (by omega))
                    have hf_753_1 : f_753 0 = x_701 := by rw [← hf_753]; exact (pk_un (show ¬ 0 = _ by rw [i_clamp hx_752]; omega)).trans hf_751_1
                    replace hP : va_P D vwCl [(m0, .inr (12, [.int 0, .int sta, .ref r0, .ref w0, m_4, m_5, m_6, m_7, .int nu, m_9, m_10, m_11, m_12, m_13, m_14, m_15, m_16, m_17, m_18, m_19, m_20, m_21, m_22, m_23, m_24, m_25, m_26, m_27, m_28, m_29, m_30, m_31, m_32, m_33, m_34, m_35, m_36, m_37, m_38, m_39, m_40, m_41, m_42, m_43, m_44, m_45, m_46, m_47, m_48, m_49, m_50, m_51, m_52, m_53, m_54, m_55, m_56, m_57, m_58, m_59])), (w0, .inl (K 0, 5500, .inl f_753)), (r0, .inl (K 0, 7, .inl frf))] H := hP
                    replace hD : va_D A [(m0, .inr (12, [.int 0, .int sta, .ref r0, .ref w0, m_4, m_5, m_6, m_7, .int nu, m_9, m_10, m_11, m_12, m_13, m_14, m_15, m_16, m_17, m_18, m_19, m_20, m_21, m_22, m_23, m_24, m_25, m_26, m_27, m_28, m_29, m_30, m_31, m_32, m_33, m_34, m_35, m_36, m_37, m_38, m_39, m_40, m_41, m_42, m_43, m_44, m_45, m_46, m_47, m_48, m_49, m_50, m_51, m_52, m_53, m_54, m_55, m_56, m_57, m_58, m_59])), (w0, .inl (K 0, 5500, .inl f_753)), (r0, .inl (K 0, 7, .inl frf))] := hD
                    refine lv_aload_n hx hb dX12_house_212 rfl (lv_at hl 2 rfl) ?_
                    refine va_get (ci := 12) (v := .ref w0) (C := RX12) (T := TX12) (N := 60) hx hb hts hw12 hown hK hP 0 rfl rfl 3 (by decide +kernel) (hts _ mm_X12_house_833) (fun _ h9 => h9) rfl dX12_house_213 ?_
                    refine lv_iconst (v := 0) hx hb dX12_house_216 (by decide +kernel) ?_
                    refine lv_dup2_11 hx hb dX12_house_217 rfl rfl ?_
                    refine va_iald hx hb hK hP 1 0 rfl rfl (i_in (x := 0) rfl (by omega)) dX12_house_218 ?_
                    refine lv_topi (fun x_754 ex_754 => ?_)
                    replace hE := hE.trans (Lt_in ex_754)
                    have erx_754 : x_754 = x_701 := ex_754.trans hf_753_1
                    have hrx_754 : x_754.toInt = x_701.toInt := (congrArg Int32.toInt erx_754).trans rfl
                    refine lv_iconst (v := 1) hx hb dX12_house_219 (by decide +kernel) ?_
                    refine lv_iadd hx hb dX12_house_220 ?_
                    refine lv_topi (fun x_755 ex_755 => ?_)
                    replace hE := hE.trans (Lt_in ex_755)
                    have hx_755 : x_755.toInt = (x_701.toInt + 1) := by rw [ex_755]; exact i_add hrx_754 (show (1 : Int32).toInt = 1 from rfl) (by omega)
                    refine va_iast hx hb hK hP hD hS 1 0 rfl rfl (i_in (x := 0) rfl (by omega)) dX12_house_221 (fun H locs hP0 hD0 hS0 => ?_)
                    clear hP hD hS
                    have hP := hP0
                    have hD := hD0
                    have hS := hS0
                    clear hP0 hD0 hS0
                    generalize hf_756 : (upd f_753 (0 : Int32).toNatClampNeg x_755) = f_756 at hP hD
                    replace hE := hE.trans (Lt_in hf_756.symm)
                    have hf_756_0 : RwOK f_756 := by rw [← hf_756]; exact RwOK.upd hf_753_0 (show (0 : Int32).toInt = 0 from rfl) (by omega) hx_755 (PR.w_0 (by omega) (by omega))
                    have kf_756 : f_756 0 = x_755 := by rw [← hf_756]; exact pk_us
                    replace hP : va_P D vwCl [(m0, .inr (12, [.int 0, .int sta, .ref r0, .ref w0, m_4, m_5, m_6, m_7, .int nu, m_9, m_10, m_11, m_12, m_13, m_14, m_15, m_16, m_17, m_18, m_19, m_20, m_21, m_22, m_23, m_24, m_25, m_26, m_27, m_28, m_29, m_30, m_31, m_32, m_33, m_34, m_35, m_36, m_37, m_38, m_39, m_40, m_41, m_42, m_43, m_44, m_45, m_46, m_47, m_48, m_49, m_50, m_51, m_52, m_53, m_54, m_55, m_56, m_57, m_58, m_59])), (w0, .inl (K 0, 5500, .inl f_756)), (r0, .inl (K 0, 7, .inl frf))] H := hP
                    replace hD : va_D A [(m0, .inr (12, [.int 0, .int sta, .ref r0, .ref w0, m_4, m_5, m_6, m_7, .int nu, m_9, m_10, m_11, m_12, m_13, m_14, m_15, m_16, m_17, m_18, m_19, m_20, m_21, m_22, m_23, m_24, m_25, m_26, m_27, m_28, m_29, m_30, m_31, m_32, m_33, m_34, m_35, m_36, m_37, m_38, m_39, m_40, m_41, m_42, m_43, m_44, m_45, m_46, m_47, m_48, m_49, m_50, m_51, m_52, m_53, m_54, m_55, m_56, m_57, m_58, m_59])), (w0, .inl (K 0, 5500, .inl f_756)), (r0, .inl (K 0, 7, .inl frf))] := hD
                    refine lv_aload_n hx hb dX12_house_222 rfl (lv_at hl 2 rfl) ?_
                    refine lv_iconst (v := 0) hx hb dX12_house_223 (by decide +kernel) ?_
                    refine va_put (ci := 12) (v := .int 0) (ty := .int) (C := RX12) (T := TX12) (N := 60) hx hb hts hw12 tyX12 tyX12_ok nmX12 hown hK hP hD hS 0 rfl rfl 8 (by decide +kernel) (hts _ mm_X12_house_838) (fun _ h9 => h9) rfl (by decide +kernel) (by first | rfl | decide) (by first | rfl | decide) (Nat.le_of_ble_eq_true rfl) dX12_house_224 (fun H locs hP0 hD0 hS0 => ?_)
                    clear hP hD hS
                    have hP := hP0
                    have hD := hD0
                    have hS := hS0
                    clear hP0 hD0 hS0
                    replace hP : va_P D vwCl [(m0, .inr (12, [.int 0, .int sta, .ref r0, .ref w0, m_4, m_5, m_6, m_7, .int 0, m_9, m_10, m_11, m_12, m_13, m_14, m_15, m_16, m_17, m_18, m_19, m_20, m_21, m_22, m_23, m_24, m_25, m_26, m_27, m_28, m_29, m_30, m_31, m_32, m_33, m_34, m_35, m_36, m_37, m_38, m_39, m_40, m_41, m_42, m_43, m_44, m_45, m_46, m_47, m_48, m_49, m_50, m_51, m_52, m_53, m_54, m_55, m_56, m_57, m_58, m_59])), (w0, .inl (K 0, 5500, .inl f_756)), (r0, .inl (K 0, 7, .inl frf))] H := hP
                    replace hD : va_D A [(m0, .inr (12, [.int 0, .int sta, .ref r0, .ref w0, m_4, m_5, m_6, m_7, .int 0, m_9, m_10, m_11, m_12, m_13, m_14, m_15, m_16, m_17, m_18, m_19, m_20, m_21, m_22, m_23, m_24, m_25, m_26, m_27, m_28, m_29, m_30, m_31, m_32, m_33, m_34, m_35, m_36, m_37, m_38, m_39, m_40, m_41, m_42, m_43, m_44, m_45, m_46, m_47, m_48, m_49, m_50, m_51, m_52, m_53, m_54, m_55, m_56, m_57, m_58, m_59])), (w0, .inl (K 0, 5500, .inl f_756)), (r0, .inl (K 0, 7, .inl frf))] := hD
                    refine lv_aload_n hx hb dX12_house_227 rfl (lv_at hl 2 rfl) ?_
                    refine lv_iload hx hb dX12_house_228 (lv_at hl 1 rfl) ?_
                    refine kci (S := Su) (wr := [(w0, .inl (K 0, 5500, .inl f_756))]) (va_runV (As := [.int x_701]) (rest := []) ⟨hx, hb, hml, hown, hts⟩ (v_tell l D K m0 x_701 (.int 0) sta r0 (.ref w0) m_4 m_5 m_6 m_7 (.int 0) m_9 m_10 m_11 m_12 m_13 m_14 m_15 m_16 m_17 m_18 m_19 m_20 m_21 m_22 m_23 m_24 m_25 m_26 m_27 m_28 m_29 m_30 m_31 m_32 m_33 m_34 m_35 m_36 m_37 m_38 m_39 m_40 m_41 m_42 m_43 m_44 m_45 m_46 m_47 m_48 m_49 m_50 m_51 m_52 m_53 m_54 m_55 m_56 m_57 m_58 m_59 frf H.size (by first | omega | decide)) (cwV 1 hts gX12_house_X12_tell rfl rfl rfl (by decide +kernel) ⟨Nat.le_of_ble_eq_true rfl, Nat.le_of_ble_eq_true rfl⟩) (mkV hK hN (hP.sub [0, 2] rfl) (hD.sub [0, 2] (by decide +kernel) rfl) (ci := 12) (q0 := 0) rfl rfl) rfl rfl hl.1 rfl (lv_room (Nat.le_of_ble_eq_true rfl)) dX12_house_230 ⟨Nat.le_of_ble_eq_true rfl, Nat.le_of_ble_eq_true rfl⟩) hP hD hS hA [0, 2] [1] rfl rfl (by decide +kernel) (by decide +kernel) (fun r_757 u_758 H locs hw hP0 hD0 hS0 => ?_)
                    clear hP hD hS
                    have hP := hP0
                    have hD := hD0
                    have hS := hS0
                    clear hP0 hD0 hS0
                    replace hP : va_P D vwCl [(w0, .inl (K 0, 5500, .inl f_756)), (m0, .inr (12, [.int 0, .int (u_758.2.2.2.1 0), .ref r0, .ref w0, m_4, m_5, m_6, m_7, .int 0, m_9, m_10, m_11, m_12, m_13, m_14, m_15, m_16, m_17, m_18, m_19, m_20, m_21, m_22, m_23, m_24, m_25, m_26, m_27, m_28, m_29, m_30, m_31, m_32, m_33, m_34, m_35, m_36, m_37, m_38, m_39, m_40, m_41, m_42, m_43, m_44, m_45, m_46, m_47, m_48, m_49, m_50, m_51, m_52, m_53, m_54, m_55, m_56, m_57, m_58, m_59])), (r0, .inl (K 0, 7, .inl (u_758.2.1 0)))] H := hP
                    replace hD : va_D A [(w0, .inl (K 0, 5500, .inl f_756)), (m0, .inr (12, [.int 0, .int (u_758.2.2.2.1 0), .ref r0, .ref w0, m_4, m_5, m_6, m_7, .int 0, m_9, m_10, m_11, m_12, m_13, m_14, m_15, m_16, m_17, m_18, m_19, m_20, m_21, m_22, m_23, m_24, m_25, m_26, m_27, m_28, m_29, m_30, m_31, m_32, m_33, m_34, m_35, m_36, m_37, m_38, m_39, m_40, m_41, m_42, m_43, m_44, m_45, m_46, m_47, m_48, m_49, m_50, m_51, m_52, m_53, m_54, m_55, m_56, m_57, m_58, m_59])), (r0, .inl (K 0, 7, .inl (u_758.2.1 0)))] := hD
                    obtain ⟨h_761, k_759, k_760, -⟩ := hw
                    replace hE := (hE.trans (Lt2_in k_760)).trans (Lt2_in rfl)
                    rw [← hQ]
                    have hP9 := hP.sub (ws' := [(m0, .inr (12, [.int 0, .int (u_758.2.2.2.1 0), .ref r0, .ref w0, m_4, m_5, m_6, m_7, .int 0, m_9, m_10, m_11, m_12, m_13, m_14, m_15, m_16, m_17, m_18, m_19, m_20, m_21, m_22, m_23, m_24, m_25, m_26, m_27, m_28, m_29, m_30, m_31, m_32, m_33, m_34, m_35, m_36, m_37, m_38, m_39, m_40, m_41, m_42, m_43, m_44, m_45, m_46, m_47, m_48, m_49, m_50, m_51, m_52, m_53, m_54, m_55, m_56, m_57, m_58, m_59])), (w0, .inl (K 0, 5500, .inl f_756)), (r0, .inl (K 0, 7, .inl (u_758.2.1 0)))]) [1, 0, 2] rfl
                    have hD9 := hD.sub (ws' := [(m0, .inr (12, [.int 0, .int (u_758.2.2.2.1 0), .ref r0, .ref w0, m_4, m_5, m_6, m_7, .int 0, m_9, m_10, m_11, m_12, m_13, m_14, m_15, m_16, m_17, m_18, m_19, m_20, m_21, m_22, m_23, m_24, m_25, m_26, m_27, m_28, m_29, m_30, m_31, m_32, m_33, m_34, m_35, m_36, m_37, m_38, m_39, m_40, m_41, m_42, m_43, m_44, m_45, m_46, m_47, m_48, m_49, m_50, m_51, m_52, m_53, m_54, m_55, m_56, m_57, m_58, m_59])), (w0, .inl (K 0, 5500, .inl f_756)), (r0, .inl (K 0, 7, .inl (u_758.2.1 0)))]) [1, 0, 2] (by decide +kernel) rfl
                    exact W.iret (v := r_757) hx hb hr (fun t ht hW => ⟨⟨r_757, ((fun _ => 0, fun i => match i with | 0 => f_756 | _ => (u_758.2.1 0), fun _ => fun _ => 0, fun i => match i with | 0 => (u_758.2.2.2.1 0) | _ => 0, fun _ => 0, fun _ => fun _ => none) : Su), rfl, ⟨(show (-6) ≤ r_757.toInt by omega), (show (-6) ≤ ((u_758.2.2.2.1 0) : Int32).toInt ∧ ((u_758.2.2.2.1 0) : Int32).toInt ≤ 0 by omega), hf_756_0, hE.symm, trivial⟩, (⟨by rw [ht]; exact hP9, hD9⟩ : Wd D A _ t)⟩, hS.F ht⟩) hS.2.2 dX12_house_233
                  · have c_739i := i_eq (x := x_701.toInt) (y := 8) rfl rfl c_739
                    replace hE := hE.trans (if_pos c_739)
                    refine lv_aload_n hx hb dX12_house_126 rfl (lv_at hl 2 rfl) ?_
                    refine lv_bipush (v := (-5)) hx hb dX12_house_127 (by decide +kernel) ?_
                    refine kci (S := Su) (wr := [(w0, .inl (K 0, 5500, .inl fw))]) (va_runV (As := [.int (-5)]) (rest := []) ⟨hx, hb, hml, hown, hts⟩ (v_tell l D K m0 (-5) (.int 0) sta r0 (.ref w0) m_4 m_5 m_6 m_7 (.int nu) m_9 m_10 m_11 m_12 m_13 m_14 m_15 m_16 m_17 m_18 m_19 m_20 m_21 m_22 m_23 m_24 m_25 m_26 m_27 m_28 m_29 m_30 m_31 m_32 m_33 m_34 m_35 m_36 m_37 m_38 m_39 m_40 m_41 m_42 m_43 m_44 m_45 m_46 m_47 m_48 m_49 m_50 m_51 m_52 m_53 m_54 m_55 m_56 m_57 m_58 m_59 frf H.size (by first | omega | decide)) (cwV 1 hts gX12_house_X12_tell rfl rfl rfl (by decide +kernel) ⟨Nat.le_of_ble_eq_true rfl, Nat.le_of_ble_eq_true rfl⟩) (mkV hK hN (hP.sub [0, 2] rfl) (hD.sub [0, 2] (by decide +kernel) rfl) (ci := 12) (q0 := 0) rfl rfl) rfl rfl hl.1 rfl (lv_room (Nat.le_of_ble_eq_true rfl)) dX12_house_129 ⟨Nat.le_of_ble_eq_true rfl, Nat.le_of_ble_eq_true rfl⟩) hP hD hS hA [0, 2] [1] rfl rfl (by decide +kernel) (by decide +kernel) (fun r_762 u_763 H locs hw hP0 hD0 hS0 => ?_)
                    clear hP hD hS
                    have hP := hP0
                    have hD := hD0
                    have hS := hS0
                    clear hP0 hD0 hS0
                    replace hP : va_P D vwCl [(w0, .inl (K 0, 5500, .inl fw)), (m0, .inr (12, [.int 0, .int (u_763.2.2.2.1 0), .ref r0, .ref w0, m_4, m_5, m_6, m_7, .int nu, m_9, m_10, m_11, m_12, m_13, m_14, m_15, m_16, m_17, m_18, m_19, m_20, m_21, m_22, m_23, m_24, m_25, m_26, m_27, m_28, m_29, m_30, m_31, m_32, m_33, m_34, m_35, m_36, m_37, m_38, m_39, m_40, m_41, m_42, m_43, m_44, m_45, m_46, m_47, m_48, m_49, m_50, m_51, m_52, m_53, m_54, m_55, m_56, m_57, m_58, m_59])), (r0, .inl (K 0, 7, .inl (u_763.2.1 0)))] H := hP
                    replace hD : va_D A [(w0, .inl (K 0, 5500, .inl fw)), (m0, .inr (12, [.int 0, .int (u_763.2.2.2.1 0), .ref r0, .ref w0, m_4, m_5, m_6, m_7, .int nu, m_9, m_10, m_11, m_12, m_13, m_14, m_15, m_16, m_17, m_18, m_19, m_20, m_21, m_22, m_23, m_24, m_25, m_26, m_27, m_28, m_29, m_30, m_31, m_32, m_33, m_34, m_35, m_36, m_37, m_38, m_39, m_40, m_41, m_42, m_43, m_44, m_45, m_46, m_47, m_48, m_49, m_50, m_51, m_52, m_53, m_54, m_55, m_56, m_57, m_58, m_59])), (r0, .inl (K 0, 7, .inl (u_763.2.1 0)))] := hD
                    obtain ⟨h_766, k_764, k_765, -⟩ := hw
                    replace hE := (hE.trans (Lt2_in k_765)).trans (Lt2_in rfl)
                    rw [← hQ]
                    have hP9 := hP.sub (ws' := [(m0, .inr (12, [.int 0, .int (u_763.2.2.2.1 0), .ref r0, .ref w0, m_4, m_5, m_6, m_7, .int nu, m_9, m_10, m_11, m_12, m_13, m_14, m_15, m_16, m_17, m_18, m_19, m_20, m_21, m_22, m_23, m_24, m_25, m_26, m_27, m_28, m_29, m_30, m_31, m_32, m_33, m_34, m_35, m_36, m_37, m_38, m_39, m_40, m_41, m_42, m_43, m_44, m_45, m_46, m_47, m_48, m_49, m_50, m_51, m_52, m_53, m_54, m_55, m_56, m_57, m_58, m_59])), (w0, .inl (K 0, 5500, .inl fw)), (r0, .inl (K 0, 7, .inl (u_763.2.1 0)))]) [1, 0, 2] rfl
                    have hD9 := hD.sub (ws' := [(m0, .inr (12, [.int 0, .int (u_763.2.2.2.1 0), .ref r0, .ref w0, m_4, m_5, m_6, m_7, .int nu, m_9, m_10, m_11, m_12, m_13, m_14, m_15, m_16, m_17, m_18, m_19, m_20, m_21, m_22, m_23, m_24, m_25, m_26, m_27, m_28, m_29, m_30, m_31, m_32, m_33, m_34, m_35, m_36, m_37, m_38, m_39, m_40, m_41, m_42, m_43, m_44, m_45, m_46, m_47, m_48, m_49, m_50, m_51, m_52, m_53, m_54, m_55, m_56, m_57, m_58, m_59])), (w0, .inl (K 0, 5500, .inl fw)), (r0, .inl (K 0, 7, .inl (u_763.2.1 0)))]) [1, 0, 2] (by decide +kernel) rfl
                    exact W.iret (v := r_762) hx hb hr (fun t ht hW => ⟨⟨r_762, ((fun _ => 0, fun i => match i with | 0 => fw | _ => (u_763.2.1 0), fun _ => fun _ => 0, fun i => match i with | 0 => (u_763.2.2.2.1 0) | _ => nu, fun _ => 0, fun _ => fun _ => none) : Su), rfl, ⟨(show (-6) ≤ r_762.toInt by omega), (show (-6) ≤ ((u_763.2.2.2.1 0) : Int32).toInt ∧ ((u_763.2.2.2.1 0) : Int32).toInt ≤ 0 by omega), zfw, hE.symm, trivial⟩, (⟨by rw [ht]; exact hP9, hD9⟩ : Wd D A _ t)⟩, hS.F ht⟩) hS.2.2 dX12_house_132
                · have c_738i := i_nle (x := x_701.toInt) (y := v_724.toInt) rfl rfl c_738
                  replace hE := hE.trans (if_neg c_738)
                  refine lv_aload_n hx hb dX12_house_91 rfl (lv_at hl 2 rfl) ?_
                  refine va_get (ci := 12) (v := .ref w0) (C := RX12) (T := TX12) (N := 60) hx hb hts hw12 hown hK hP 0 rfl rfl 3 (by decide +kernel) (hts _ mm_X12_house_833) (fun _ h9 => h9) rfl dX12_house_92 ?_
                  refine lv_bipush (v := 51) hx hb dX12_house_95 (by decide +kernel) ?_
                  refine lv_iload hx hb dX12_house_97 (lv_at hl 0 rfl) ?_
                  refine lv_iadd hx hb dX12_house_99 ?_
                  refine lv_topi (fun x_767 ex_767 => ?_)
                  replace hE := hE.trans (Lt_in ex_767)
                  have hx_767 : x_767.toInt = (51 + v_724.toInt) := by rw [ex_767]; exact i_add (show (51 : Int32).toInt = 51 from rfl) rfl (by omega)
                  refine va_iald hx hb hK hP 1 0 rfl rfl (i_in hx_767 (by omega)) dX12_house_100 ?_
                  refine lv_topi (fun x_768 ex_768 => ?_)
                  replace hE := hE.trans (Lt_in ex_768)
                  have px_768 := RwOK.at zfw hx_767 (show 0 ≤ (51 + v_724.toInt) ∧ (51 + v_724.toInt) < 100 by omega)
                  rw [← ex_768] at px_768
                  refine lv_iload hx hb dX12_house_101 (lv_at hl 6 rfl) ?_
                  refine lv_icmp_ne (tgt := 113) hx hb dX12_house_103 (by decide +kernel) (fun c_769 => ?_) (fun c_769 => ?_)
                  · have c_769i := i_ne (x := x_768.toInt) (y := x3.toInt) rfl rfl c_769
                    replace hE := hE.trans (if_neg c_769)
                    obtain ⟨x_770, ex_770⟩ : ∃ y : Int32, y = v_724 + Int32.ofInt 1 := ⟨_, rfl⟩
                    replace hE := hE.trans (Lt_in ex_770)
                    have hx_770 : x_770.toInt = (v_724.toInt + 1) := by rw [ex_770]; exact i_add rfl (show (Int32.ofInt 1).toInt = 1 from rfl) (by omega)
                    refine lv_iinc (v := x_770) (lv' := [(7, .int x_770), (6, .int x_701), (0, .ref m0), (1, .int x0), (2, .int x1), (3, .int x2), (4, .int x3), (5, .int x4)]) hx hb dX12_house_113 hl (k := 0) rfl (by rw [ex_770]) (by decide +kernel) rfl (fun ls hl => ?_)
                    refine lv_goto (tgt := 84) hx hb dX12_house_116 (by decide +kernel) ?_
                    exact ih_737 x_770 (by rw [hx_770]; omega) (by omega) (hE.trans (by rw [hrec_736])) _ _ hP hD hS ls (lv_sub hl [0, 1, 2, 3, 4, 5, 6, 7] rfl)
                  · have c_769i := i_eq (x := x_768.toInt) (y := x3.toInt) rfl rfl c_769
                    replace hE := hE.trans (if_pos c_769)
                    refine lv_aload_n hx hb dX12_house_106 rfl (lv_at hl 2 rfl) ?_
                    refine lv_bipush (v := (-3)) hx hb dX12_house_107 (by decide +kernel) ?_
                    refine kci (S := Su) (wr := [(w0, .inl (K 0, 5500, .inl fw))]) (va_runV (As := [.int (-3)]) (rest := []) ⟨hx, hb, hml, hown, hts⟩ (v_tell l D K m0 (-3) (.int 0) sta r0 (.ref w0) m_4 m_5 m_6 m_7 (.int nu) m_9 m_10 m_11 m_12 m_13 m_14 m_15 m_16 m_17 m_18 m_19 m_20 m_21 m_22 m_23 m_24 m_25 m_26 m_27 m_28 m_29 m_30 m_31 m_32 m_33 m_34 m_35 m_36 m_37 m_38 m_39 m_40 m_41 m_42 m_43 m_44 m_45 m_46 m_47 m_48 m_49 m_50 m_51 m_52 m_53 m_54 m_55 m_56 m_57 m_58 m_59 frf H.size (by first | omega | decide)) (cwV 1 hts gX12_house_X12_tell rfl rfl rfl (by decide +kernel) ⟨Nat.le_of_ble_eq_true rfl, Nat.le_of_ble_eq_true rfl⟩) (mkV hK hN (hP.sub [0, 2] rfl) (hD.sub [0, 2] (by decide +kernel) rfl) (ci := 12) (q0 := 0) rfl rfl) rfl rfl hl.1 rfl (lv_room (Nat.le_of_ble_eq_true rfl)) dX12_house_109 ⟨Nat.le_of_ble_eq_true rfl, Nat.le_of_ble_eq_true rfl⟩) hP hD hS hA [0, 2] [1] rfl rfl (by decide +kernel) (by decide +kernel) (fun r_771 u_772 H locs hw hP0 hD0 hS0 => ?_)
                    clear hP hD hS
                    have hP := hP0
                    have hD := hD0
                    have hS := hS0
                    clear hP0 hD0 hS0
                    replace hP : va_P D vwCl [(w0, .inl (K 0, 5500, .inl fw)), (m0, .inr (12, [.int 0, .int (u_772.2.2.2.1 0), .ref r0, .ref w0, m_4, m_5, m_6, m_7, .int nu, m_9, m_10, m_11, m_12, m_13, m_14, m_15, m_16, m_17, m_18, m_19, m_20, m_21, m_22, m_23, m_24, m_25, m_26, m_27, m_28, m_29, m_30, m_31, m_32, m_33, m_34, m_35, m_36, m_37, m_38, m_39, m_40, m_41, m_42, m_43, m_44, m_45, m_46, m_47, m_48, m_49, m_50, m_51, m_52, m_53, m_54, m_55, m_56, m_57, m_58, m_59])), (r0, .inl (K 0, 7, .inl (u_772.2.1 0)))] H := hP
                    replace hD : va_D A [(w0, .inl (K 0, 5500, .inl fw)), (m0, .inr (12, [.int 0, .int (u_772.2.2.2.1 0), .ref r0, .ref w0, m_4, m_5, m_6, m_7, .int nu, m_9, m_10, m_11, m_12, m_13, m_14, m_15, m_16, m_17, m_18, m_19, m_20, m_21, m_22, m_23, m_24, m_25, m_26, m_27, m_28, m_29, m_30, m_31, m_32, m_33, m_34, m_35, m_36, m_37, m_38, m_39, m_40, m_41, m_42, m_43, m_44, m_45, m_46, m_47, m_48, m_49, m_50, m_51, m_52, m_53, m_54, m_55, m_56, m_57, m_58, m_59])), (r0, .inl (K 0, 7, .inl (u_772.2.1 0)))] := hD
                    obtain ⟨h_775, k_773, k_774, -⟩ := hw
                    replace hE := (hE.trans (Lt2_in k_774)).trans (Lt2_in rfl)
                    rw [← hQ]
                    have hP9 := hP.sub (ws' := [(m0, .inr (12, [.int 0, .int (u_772.2.2.2.1 0), .ref r0, .ref w0, m_4, m_5, m_6, m_7, .int nu, m_9, m_10, m_11, m_12, m_13, m_14, m_15, m_16, m_17, m_18, m_19, m_20, m_21, m_22, m_23, m_24, m_25, m_26, m_27, m_28, m_29, m_30, m_31, m_32, m_33, m_34, m_35, m_36, m_37, m_38, m_39, m_40, m_41, m_42, m_43, m_44, m_45, m_46, m_47, m_48, m_49, m_50, m_51, m_52, m_53, m_54, m_55, m_56, m_57, m_58, m_59])), (w0, .inl (K 0, 5500, .inl fw)), (r0, .inl (K 0, 7, .inl (u_772.2.1 0)))]) [1, 0, 2] rfl
                    have hD9 := hD.sub (ws' := [(m0, .inr (12, [.int 0, .int (u_772.2.2.2.1 0), .ref r0, .ref w0, m_4, m_5, m_6, m_7, .int nu, m_9, m_10, m_11, m_12, m_13, m_14, m_15, m_16, m_17, m_18, m_19, m_20, m_21, m_22, m_23, m_24, m_25, m_26, m_27, m_28, m_29, m_30, m_31, m_32, m_33, m_34, m_35, m_36, m_37, m_38, m_39, m_40, m_41, m_42, m_43, m_44, m_45, m_46, m_47, m_48, m_49, m_50, m_51, m_52, m_53, m_54, m_55, m_56, m_57, m_58, m_59])), (w0, .inl (K 0, 5500, .inl fw)), (r0, .inl (K 0, 7, .inl (u_772.2.1 0)))]) [1, 0, 2] (by decide +kernel) rfl
                    exact W.iret (v := r_771) hx hb hr (fun t ht hW => ⟨⟨r_771, ((fun _ => 0, fun i => match i with | 0 => fw | _ => (u_772.2.1 0), fun _ => fun _ => 0, fun i => match i with | 0 => (u_772.2.2.2.1 0) | _ => nu, fun _ => 0, fun _ => fun _ => none) : Su), rfl, ⟨(show (-6) ≤ r_771.toInt by omega), (show (-6) ≤ ((u_772.2.2.2.1 0) : Int32).toInt ∧ ((u_772.2.2.2.1 0) : Int32).toInt ≤ 0 by omega), zfw, hE.symm, trivial⟩, (⟨by rw [ht]; exact hP9, hD9⟩ : Wd D A _ t)⟩, hS.F ht⟩) hS.2.2 dX12_house_112
            exact lp_736 ((9 - (0 : Int32).toInt : Int).toNat + 1) 0 (by decide +kernel) (Nat.lt_succ_self _) hE _ _ hP hD hS ls (lv_sub hl [0, 1, 2, 3, 4, 5, 6, 7] rfl)
          · replace hE := (hE).trans (if_neg (by first | decide | (intro h9; have h8 := congrArg Int32.toInt h9; omega)))
            refine lv_if_ne (tgt := 73) hx hb dX12_house_64 (by decide +kernel) (fun c_776 => absurd (by decide +kernel) c_776) (fun c_776 => ?_)
            exact j_661   hE _ _ hP hD hS ls (lv_sub hl [0] rfl)
        · replace hE := (hE).trans (if_neg (by first | decide | (intro h9; have h8 := congrArg Int32.toInt h9; omega)))
          refine lv_if_eq (tgt := 67) hx hb dX12_house_51 (by decide +kernel) (fun c_777 => ?_) (fun c_777 => absurd (by decide +kernel) c_777)
          exact j_661   hE _ _ hP hD hS ls (lv_sub hl [0] rfl)
      · replace hE := (hE).trans (if_neg (by first | decide | (intro h9; have h8 := congrArg Int32.toInt h9; omega)))
        refine lv_if_eq (tgt := 67) hx hb dX12_house_38 (by decide +kernel) (fun c_778 => ?_) (fun c_778 => absurd (by decide +kernel) c_778)
        exact j_661   hE _ _ hP hD hS ls (lv_sub hl [0] rfl)
    · replace hE := (hE).trans (if_neg (by first | decide | (intro h9; have h8 := congrArg Int32.toInt h9; omega)))
      refine lv_if_eq (tgt := 67) hx hb dX12_house_26 (by decide +kernel) (fun c_779 => ?_) (fun c_779 => absurd (by decide +kernel) c_779)
      exact j_661   hE _ _ hP hD hS ls (lv_sub hl [0] rfl)
  · replace hE := (hE).trans (if_neg (by first | decide | (intro h9; have h8 := congrArg Int32.toInt h9; omega)))
    refine lv_if_eq (tgt := 67) hx hb dX12_house_14 (by decide +kernel) (fun c_780 => ?_) (fun c_780 => absurd (by decide +kernel) c_780)
    exact j_661   hE _ _ hP hD hS ls (lv_sub hl [0] rfl)
set_option maxRecDepth 100000 in
noncomputable def E_v_score_j41 (sta : Int32) (fw : Nat → Int32) (frf : Nat → Int32) : Int32 × Int32 × (Nat → Int32) × (Nat → Int32) :=
  Lt2 (E_v_tell (-1) sta frf) (fun r_192 q0_r_192 => Lt2 q0_r_192 (fun u_193_2_2_2_1_0 u_193_2_1_0 => ((r_192, u_193_2_2_2_1_0, fw, u_193_2_1_0) : Int32 × Int32 × (Nat → Int32) × (Nat → Int32))))
set_option maxRecDepth 100000 in
noncomputable def E_v_score (x : Int32) (y : Int32) (thr : Int32) (sta : Int32) (fw : Nat → Int32) (frf : Nat → Int32) : Int32 × Int32 × (Nat → Int32) × (Nat → Int32) :=
  Lt ((x : Int32).toInt64 : Int64) (fun x_165 => Lt (E_v_in x_165 0 23) (fun r_197 => if r_197 = 1 then (Lt ((y : Int32).toInt64 : Int64) (fun x_203 => Lt (E_v_in x_203 0 127) (fun r_204 => if r_204 = 1 then (Lt (67 + x : Int32) (fun x_210 => Lt2 (E_v_change x_210 y sta fw) (fun r_211 u_212_2_1_0 => ((r_211, 0, u_212_2_1_0, frf) : Int32 × Int32 × (Nat → Int32) × (Nat → Int32))))) else (E_v_score_j41 sta fw frf)))) else (E_v_score_j41 sta fw frf)))
set_option maxHeartbeats 4000000 in
set_option maxRecDepth 100000 in
theorem v_score (l : Launch) (D : va_G) (K : Nat → ClassId) (m0 : Nat) (x : Int32) (y : Int32) (thr : Int32) (sta : Int32) (r0 : Nat) (w0 : Nat) (m_4 : Value) (m_5 : Value) (m_6 : Value) (m_7 : Value) (m_8 : Value) (m_9 : Value) (m_10 : Value) (m_11 : Value) (m_12 : Value) (m_13 : Value) (m_14 : Value) (m_15 : Value) (m_16 : Value) (m_17 : Value) (m_18 : Value) (m_19 : Value) (m_20 : Value) (m_21 : Value) (m_22 : Value) (m_23 : Value) (m_24 : Value) (m_25 : Value) (m_26 : Value) (m_27 : Value) (m_28 : Value) (m_29 : Value) (m_30 : Value) (m_31 : Value) (m_32 : Value) (m_33 : Value) (m_34 : Value) (m_35 : Value) (m_36 : Value) (m_37 : Value) (m_38 : Value) (m_39 : Value) (m_40 : Value) (m_41 : Value) (m_42 : Value) (m_43 : Value) (m_44 : Value) (m_45 : Value) (m_46 : Value) (m_47 : Value) (m_48 : Value) (m_49 : Value) (m_50 : Value) (m_51 : Value) (m_52 : Value) (m_53 : Value) (m_54 : Value) (m_55 : Value) (m_56 : Value) (m_57 : Value) (m_58 : Value) (m_59 : Value) (fw : Nat → Int32) (frf : Nat → Int32) (sz : Nat) (zfw : RwOK fw) : Met l yX12_score wsX12_score ({ frames := 1, cells := 0, slots := 0, locals := 25 }) (va_Pc [.ref m0, .int x, .int y] (Pre D K [(m0, .inr (12, [.int thr, .int sta, .ref r0, .ref w0, m_4, m_5, m_6, m_7, m_8, m_9, m_10, m_11, m_12, m_13, m_14, m_15, m_16, m_17, m_18, m_19, m_20, m_21, m_22, m_23, m_24, m_25, m_26, m_27, m_28, m_29, m_30, m_31, m_32, m_33, m_34, m_35, m_36, m_37, m_38, m_39, m_40, m_41, m_42, m_43, m_44, m_45, m_46, m_47, m_48, m_49, m_50, m_51, m_52, m_53, m_54, m_55, m_56, m_57, m_58, m_59])), (w0, .inl (K 0, 5500, .inl fw)), (r0, .inl (K 0, 7, .inl frf))] sz)) (va_Qi (S := Su) (fun (r : Int32) (u : Su) => ((-6) ≤ (u.2.2.2.1 0).toInt ∧ (u.2.2.2.1 0).toInt ≤ 0) ∧ (RwOK (u.2.1 0)) ∧ ((r, (u.2.2.2.1 0), (u.2.1 0), (u.2.1 1)) = E_v_score x y thr sta fw frf) ∧ True) (fun u t => Wd D (va_A [(m0, .inr (12, [.int thr, .int sta, .ref r0, .ref w0, m_4, m_5, m_6, m_7, m_8, m_9, m_10, m_11, m_12, m_13, m_14, m_15, m_16, m_17, m_18, m_19, m_20, m_21, m_22, m_23, m_24, m_25, m_26, m_27, m_28, m_29, m_30, m_31, m_32, m_33, m_34, m_35, m_36, m_37, m_38, m_39, m_40, m_41, m_42, m_43, m_44, m_45, m_46, m_47, m_48, m_49, m_50, m_51, m_52, m_53, m_54, m_55, m_56, m_57, m_58, m_59])), (w0, .inl (K 0, 5500, .inl fw)), (r0, .inl (K 0, 7, .inl frf))] sz) ((fun u => [(m0, .inr (12, [.int 0, .int (u.2.2.2.1 0), .ref r0, .ref w0, m_4, m_5, m_6, m_7, m_8, m_9, m_10, m_11, m_12, m_13, m_14, m_15, m_16, m_17, m_18, m_19, m_20, m_21, m_22, m_23, m_24, m_25, m_26, m_27, m_28, m_29, m_30, m_31, m_32, m_33, m_34, m_35, m_36, m_37, m_38, m_39, m_40, m_41, m_42, m_43, m_44, m_45, m_46, m_47, m_48, m_49, m_50, m_51, m_52, m_53, m_54, m_55, m_56, m_57, m_58, m_59])), (w0, .inl (K 0, 5500, .inl (u.2.1 0))), (r0, .inl (K 0, 7, .inl (u.2.1 1)))]) u) t) (va_A [(m0, .inr (12, [.int thr, .int sta, .ref r0, .ref w0, m_4, m_5, m_6, m_7, m_8, m_9, m_10, m_11, m_12, m_13, m_14, m_15, m_16, m_17, m_18, m_19, m_20, m_21, m_22, m_23, m_24, m_25, m_26, m_27, m_28, m_29, m_30, m_31, m_32, m_33, m_34, m_35, m_36, m_37, m_38, m_39, m_40, m_41, m_42, m_43, m_44, m_45, m_46, m_47, m_48, m_49, m_50, m_51, m_52, m_53, m_54, m_55, m_56, m_57, m_58, m_59])), (w0, .inl (K 0, 5500, .inl fw)), (r0, .inl (K 0, 7, .inl frf))] sz)) 0 0 (va_A [(m0, .inr (12, [.int thr, .int sta, .ref r0, .ref w0, m_4, m_5, m_6, m_7, m_8, m_9, m_10, m_11, m_12, m_13, m_14, m_15, m_16, m_17, m_18, m_19, m_20, m_21, m_22, m_23, m_24, m_25, m_26, m_27, m_28, m_29, m_30, m_31, m_32, m_33, m_34, m_35, m_36, m_37, m_38, m_39, m_40, m_41, m_42, m_43, m_44, m_45, m_46, m_47, m_48, m_49, m_50, m_51, m_52, m_53, m_54, m_55, m_56, m_57, m_58, m_59])), (w0, .inl (K 0, 5500, .inl fw)), (r0, .inl (K 0, 7, .inl frf))] sz) := by
  refine Met.ofW (cc := cX12_score) (maxL := 3) (ret := (some .int)) (by decide +kernel) rfl ?_
  intro p e s m args below meth c s₁ B hml hv
  obtain ⟨rfl, hsz, hP, hK, hD0, hN⟩ := hv
  have hx := B.exec
  have hb := B.bytes
  have hr := B.returns
  have hts := atoms_spec (ws := wsX12_score) B.pre
  have hown : s.vm.findClass RX12 = some m.cls := findClass_of_methodNamed B.named
  have hlocks := B.notSynchronized
  subst hsz
  have hD := hD0.self (sz := s.heap.size)
  generalize hAe : va_A [(m0, .inr (12, [.int thr, .int sta, .ref r0, .ref w0, m_4, m_5, m_6, m_7, m_8, m_9, m_10, m_11, m_12, m_13, m_14, m_15, m_16, m_17, m_18, m_19, m_20, m_21, m_22, m_23, m_24, m_25, m_26, m_27, m_28, m_29, m_30, m_31, m_32, m_33, m_34, m_35, m_36, m_37, m_38, m_39, m_40, m_41, m_42, m_43, m_44, m_45, m_46, m_47, m_48, m_49, m_50, m_51, m_52, m_53, m_54, m_55, m_56, m_57, m_58, m_59])), (w0, .inl (K 0, 5500, .inl fw)), (r0, .inl (K 0, 7, .inl frf))] s.heap.size = A at hD ⊢
  have hA : ∀ q : Nat, s.heap.size ≤ q → A q := fun q h => by rw [← hAe]; exact Or.inr h
  clear hAe
  have hS : va_S A s.heap s.heap [] := va_S.rf
  replace hP : va_P D vwCl [(m0, .inr (12, [.int thr, .int sta, .ref r0, .ref w0, m_4, m_5, m_6, m_7, m_8, m_9, m_10, m_11, m_12, m_13, m_14, m_15, m_16, m_17, m_18, m_19, m_20, m_21, m_22, m_23, m_24, m_25, m_26, m_27, m_28, m_29, m_30, m_31, m_32, m_33, m_34, m_35, m_36, m_37, m_38, m_39, m_40, m_41, m_42, m_43, m_44, m_45, m_46, m_47, m_48, m_49, m_50, m_51, m_52, m_53, m_54, m_55, m_56, m_57, m_58, m_59])), (w0, .inl (K 0, 5500, .inl fw)), (r0, .inl (K 0, 7, .inl frf))] s.heap := hP
  have hl := lv_entry [.ref m0, .int x, .int y] (n := 3) (Nat.le_of_ble_eq_true rfl)
  rw [lg_entry_eq]
  generalize (lg_sl [.ref m0, .int x, .int y] ++ List.replicate (3 - (lg_sl [.ref m0, .int x, .int y]).length) Slot.unset).toArray = ls at hl ⊢
  have hl : lv_has ls 3 [(0, .ref m0), (1, .int x), (2, .int y)] := hl
  have hw12 : ∀ w ∈ wsX120, w ∈ wsX12_score := fun w h => (List.mem_cons_of_mem _ (List.mem_append_right _ h))
  generalize hQ : MQ below _ _ s _ _ _ = Q
  have hE := E_v_score.eq_def x y thr sta fw frf
  refine lv_aload_n hx hb dX12_score_0 rfl (lv_at hl 0 rfl) ?_
  refine lv_iconst (v := 0) hx hb dX12_score_1 (by decide +kernel) ?_
  refine va_put (ci := 12) (v := .int 0) (ty := .int) (C := RX12) (T := TX12) (N := 60) hx hb hts hw12 tyX12 tyX12_ok nmX12 hown hK hP hD hS 0 rfl rfl 0 (by decide +kernel) (hts _ mm_X12_score_830) (fun _ h9 => h9) rfl (by decide +kernel) (by first | rfl | decide) (by first | rfl | decide) (Nat.le_of_ble_eq_true rfl) dX12_score_2 (fun H locs hP0 hD0 hS0 => ?_)
  clear hP hD hS
  have hP := hP0
  have hD := hD0
  have hS := hS0
  clear hP0 hD0 hS0
  replace hP : va_P D vwCl [(m0, .inr (12, [.int 0, .int sta, .ref r0, .ref w0, m_4, m_5, m_6, m_7, m_8, m_9, m_10, m_11, m_12, m_13, m_14, m_15, m_16, m_17, m_18, m_19, m_20, m_21, m_22, m_23, m_24, m_25, m_26, m_27, m_28, m_29, m_30, m_31, m_32, m_33, m_34, m_35, m_36, m_37, m_38, m_39, m_40, m_41, m_42, m_43, m_44, m_45, m_46, m_47, m_48, m_49, m_50, m_51, m_52, m_53, m_54, m_55, m_56, m_57, m_58, m_59])), (w0, .inl (K 0, 5500, .inl fw)), (r0, .inl (K 0, 7, .inl frf))] H := hP
  replace hD : va_D A [(m0, .inr (12, [.int 0, .int sta, .ref r0, .ref w0, m_4, m_5, m_6, m_7, m_8, m_9, m_10, m_11, m_12, m_13, m_14, m_15, m_16, m_17, m_18, m_19, m_20, m_21, m_22, m_23, m_24, m_25, m_26, m_27, m_28, m_29, m_30, m_31, m_32, m_33, m_34, m_35, m_36, m_37, m_38, m_39, m_40, m_41, m_42, m_43, m_44, m_45, m_46, m_47, m_48, m_49, m_50, m_51, m_52, m_53, m_54, m_55, m_56, m_57, m_58, m_59])), (w0, .inl (K 0, 5500, .inl fw)), (r0, .inl (K 0, 7, .inl frf))] := hD
  refine lv_iload_n hx hb dX12_score_5 rfl (lv_at hl 1 rfl) ?_
  refine lv_i2l hx hb dX12_score_6 rfl ?_
  refine lv_topl (fun x_165 ex_165 => ?_)
  replace hE := hE.trans (Lt_in ex_165)
  have hx_165 : x_165.toInt = x.toInt := by rw [ex_165]; exact i_wide rfl
  have hbx_165 := i_rng (a := x) rfl
  refine lv_lconst (v := 0) hx hb dX12_score_7 (by decide +kernel) ?_
  refine lv_ldc2 (v := 23) hx hb hown (hts _ mm_X12_score_1028) dX12_score_8 ?_
  have j_191 : ∀ (hE : E_v_score x y thr sta fw frf = E_v_score_j41 sta fw frf) (H : Heap) (locs : List Loc) (hP : va_P D vwCl [(m0, .inr (12, [.int 0, .int sta, .ref r0, .ref w0, m_4, m_5, m_6, m_7, m_8, m_9, m_10, m_11, m_12, m_13, m_14, m_15, m_16, m_17, m_18, m_19, m_20, m_21, m_22, m_23, m_24, m_25, m_26, m_27, m_28, m_29, m_30, m_31, m_32, m_33, m_34, m_35, m_36, m_37, m_38, m_39, m_40, m_41, m_42, m_43, m_44, m_45, m_46, m_47, m_48, m_49, m_50, m_51, m_52, m_53, m_54, m_55, m_56, m_57, m_58, m_59])), (w0, .inl (K 0, 5500, .inl fw)), (r0, .inl (K 0, 7, .inl frf))] H) (hD : va_D A [(m0, .inr (12, [.int 0, .int sta, .ref r0, .ref w0, m_4, m_5, m_6, m_7, m_8, m_9, m_10, m_11, m_12, m_13, m_14, m_15, m_16, m_17, m_18, m_19, m_20, m_21, m_22, m_23, m_24, m_25, m_26, m_27, m_28, m_29, m_30, m_31, m_32, m_33, m_34, m_35, m_36, m_37, m_38, m_39, m_40, m_41, m_42, m_43, m_44, m_45, m_46, m_47, m_48, m_49, m_50, m_51, m_52, m_53, m_54, m_55, m_56, m_57, m_58, m_59])), (w0, .inl (K 0, 5500, .inl fw)), (r0, .inl (K 0, 7, .inl frf))]) (hS : va_S A s.heap H locs) (ls : Array Slot) (hl : lv_has ls 3 [(0, .ref m0)]), W p l e ({ frames := 1, cells := 0, slots := 0, locals := 25 }) s m (([.ref m0, .int x, .int y] : List Value).toArray) below meth c H locs 0 0 Q (F0 m 41 ls []) := by
    clear hE hP hD hS hl
    intro hE H locs hP hD hS ls hl
    replace hE := hE.trans (E_v_score_j41.eq_def _ _ _)
    refine lv_aload_n hx hb dX12_score_41 rfl (lv_at hl 0 rfl) ?_
    refine lv_iconst (v := (-1)) hx hb dX12_score_42 (by decide +kernel) ?_
    refine kci (S := Su) (wr := [(w0, .inl (K 0, 5500, .inl fw))]) (va_runV (As := [.int (-1)]) (rest := []) ⟨hx, hb, hml, hown, hts⟩ (v_tell l D K m0 (-1) (.int 0) sta r0 (.ref w0) m_4 m_5 m_6 m_7 m_8 m_9 m_10 m_11 m_12 m_13 m_14 m_15 m_16 m_17 m_18 m_19 m_20 m_21 m_22 m_23 m_24 m_25 m_26 m_27 m_28 m_29 m_30 m_31 m_32 m_33 m_34 m_35 m_36 m_37 m_38 m_39 m_40 m_41 m_42 m_43 m_44 m_45 m_46 m_47 m_48 m_49 m_50 m_51 m_52 m_53 m_54 m_55 m_56 m_57 m_58 m_59 frf H.size (by first | omega | decide)) (cwV 1 hts gX12_score_X12_tell rfl rfl rfl (by decide +kernel) ⟨Nat.le_of_ble_eq_true rfl, Nat.le_of_ble_eq_true rfl⟩) (mkV hK hN (hP.sub [0, 2] rfl) (hD.sub [0, 2] (by decide +kernel) rfl) (ci := 12) (q0 := 0) rfl rfl) rfl rfl hl.1 rfl (lv_room (Nat.le_of_ble_eq_true rfl)) dX12_score_43 ⟨Nat.le_of_ble_eq_true rfl, Nat.le_of_ble_eq_true rfl⟩) hP hD hS hA [0, 2] [1] rfl rfl (by decide +kernel) (by decide +kernel) (fun r_192 u_193 H locs hw hP0 hD0 hS0 => ?_)
    clear hP hD hS
    have hP := hP0
    have hD := hD0
    have hS := hS0
    clear hP0 hD0 hS0
    replace hP : va_P D vwCl [(w0, .inl (K 0, 5500, .inl fw)), (m0, .inr (12, [.int 0, .int (u_193.2.2.2.1 0), .ref r0, .ref w0, m_4, m_5, m_6, m_7, m_8, m_9, m_10, m_11, m_12, m_13, m_14, m_15, m_16, m_17, m_18, m_19, m_20, m_21, m_22, m_23, m_24, m_25, m_26, m_27, m_28, m_29, m_30, m_31, m_32, m_33, m_34, m_35, m_36, m_37, m_38, m_39, m_40, m_41, m_42, m_43, m_44, m_45, m_46, m_47, m_48, m_49, m_50, m_51, m_52, m_53, m_54, m_55, m_56, m_57, m_58, m_59])), (r0, .inl (K 0, 7, .inl (u_193.2.1 0)))] H := hP
    replace hD : va_D A [(w0, .inl (K 0, 5500, .inl fw)), (m0, .inr (12, [.int 0, .int (u_193.2.2.2.1 0), .ref r0, .ref w0, m_4, m_5, m_6, m_7, m_8, m_9, m_10, m_11, m_12, m_13, m_14, m_15, m_16, m_17, m_18, m_19, m_20, m_21, m_22, m_23, m_24, m_25, m_26, m_27, m_28, m_29, m_30, m_31, m_32, m_33, m_34, m_35, m_36, m_37, m_38, m_39, m_40, m_41, m_42, m_43, m_44, m_45, m_46, m_47, m_48, m_49, m_50, m_51, m_52, m_53, m_54, m_55, m_56, m_57, m_58, m_59])), (r0, .inl (K 0, 7, .inl (u_193.2.1 0)))] := hD
    obtain ⟨h_196, k_194, k_195, -⟩ := hw
    replace hE := (hE.trans (Lt2_in k_195)).trans (Lt2_in rfl)
    rw [← hQ]
    have hP9 := hP.sub (ws' := [(m0, .inr (12, [.int 0, .int (u_193.2.2.2.1 0), .ref r0, .ref w0, m_4, m_5, m_6, m_7, m_8, m_9, m_10, m_11, m_12, m_13, m_14, m_15, m_16, m_17, m_18, m_19, m_20, m_21, m_22, m_23, m_24, m_25, m_26, m_27, m_28, m_29, m_30, m_31, m_32, m_33, m_34, m_35, m_36, m_37, m_38, m_39, m_40, m_41, m_42, m_43, m_44, m_45, m_46, m_47, m_48, m_49, m_50, m_51, m_52, m_53, m_54, m_55, m_56, m_57, m_58, m_59])), (w0, .inl (K 0, 5500, .inl fw)), (r0, .inl (K 0, 7, .inl (u_193.2.1 0)))]) [1, 0, 2] rfl
    have hD9 := hD.sub (ws' := [(m0, .inr (12, [.int 0, .int (u_193.2.2.2.1 0), .ref r0, .ref w0, m_4, m_5, m_6, m_7, m_8, m_9, m_10, m_11, m_12, m_13, m_14, m_15, m_16, m_17, m_18, m_19, m_20, m_21, m_22, m_23, m_24, m_25, m_26, m_27, m_28, m_29, m_30, m_31, m_32, m_33, m_34, m_35, m_36, m_37, m_38, m_39, m_40, m_41, m_42, m_43, m_44, m_45, m_46, m_47, m_48, m_49, m_50, m_51, m_52, m_53, m_54, m_55, m_56, m_57, m_58, m_59])), (w0, .inl (K 0, 5500, .inl fw)), (r0, .inl (K 0, 7, .inl (u_193.2.1 0)))]) [1, 0, 2] (by decide +kernel) rfl
    exact W.iret (v := r_192) hx hb hr (fun t ht hW => ⟨⟨r_192, ((fun _ => 0, fun i => match i with | 0 => fw | _ => (u_193.2.1 0), fun _ => fun _ => 0, fun i => match i with | _ => (u_193.2.2.2.1 0), fun _ => 0, fun _ => fun _ => none) : Su), rfl, ⟨(show (-6) ≤ ((u_193.2.2.2.1 0) : Int32).toInt ∧ ((u_193.2.2.2.1 0) : Int32).toInt ≤ 0 by omega), zfw, hE.symm, trivial⟩, (⟨by rw [ht]; exact hP9, hD9⟩ : Wd D A _ t)⟩, hS.F ht⟩) hS.2.2 dX12_score_46
  refine pci (va_runS (As := [.long x_165, .long 0, .long 23]) (rest := []) ⟨hx, hb, hml, hown, hts⟩ (v_in l D K x.toInt 0 23 x_165 0 23 H.size hx_165 (show (0 : Int64).toInt = 0 from rfl) (show (23 : Int64).toInt = 23 from rfl)) (va_cwS 3 hts gX12_score_X12_in rfl rfl rfl (by decide +kernel) ⟨Nat.le_of_ble_eq_true rfl, Nat.le_of_ble_eq_true rfl⟩) (mkS hK hN (va_P.nil) (va_D.nil (A := fun _ => True))) rfl rfl hl.1 rfl (lv_room (Nat.le_of_ble_eq_true rfl)) dX12_score_11 ⟨Nat.le_of_ble_eq_true rfl, Nat.le_of_ble_eq_true rfl⟩) (fun r_197 hw => ?_)
  obtain ⟨hw, k_198, -⟩ := hw
  replace hE := hE.trans (Lt_in k_198)
  rcases hw with ⟨rfl, h_199, h_200⟩ | ⟨rfl, h_201⟩
  · replace hE := (hE).trans (if_pos rfl)
    refine lv_if_eq (tgt := 41) hx hb dX12_score_14 (by decide +kernel) (fun c_202 => absurd c_202 (by decide +kernel)) (fun c_202 => ?_)
    refine lv_iload_n hx hb dX12_score_17 rfl (lv_at hl 2 rfl) ?_
    refine lv_i2l hx hb dX12_score_18 rfl ?_
    refine lv_topl (fun x_203 ex_203 => ?_)
    replace hE := hE.trans (Lt_in ex_203)
    have hx_203 : x_203.toInt = y.toInt := by rw [ex_203]; exact i_wide rfl
    have hbx_203 := i_rng (a := y) rfl
    refine lv_lconst (v := 0) hx hb dX12_score_19 (by decide +kernel) ?_
    refine lv_ldc2 (v := 127) hx hb hown (hts _ mm_X12_score_1029) dX12_score_20 ?_
    refine pci (va_runS (As := [.long x_203, .long 0, .long 127]) (rest := []) ⟨hx, hb, hml, hown, hts⟩ (v_in l D K y.toInt 0 127 x_203 0 127 H.size hx_203 (show (0 : Int64).toInt = 0 from rfl) (show (127 : Int64).toInt = 127 from rfl)) (va_cwS 3 hts gX12_score_X12_in rfl rfl rfl (by decide +kernel) ⟨Nat.le_of_ble_eq_true rfl, Nat.le_of_ble_eq_true rfl⟩) (mkS hK hN (va_P.nil) (va_D.nil (A := fun _ => True))) rfl rfl hl.1 rfl (lv_room (Nat.le_of_ble_eq_true rfl)) dX12_score_23 ⟨Nat.le_of_ble_eq_true rfl, Nat.le_of_ble_eq_true rfl⟩) (fun r_204 hw => ?_)
    obtain ⟨hw, k_205, -⟩ := hw
    replace hE := hE.trans (Lt_in k_205)
    rcases hw with ⟨rfl, h_206, h_207⟩ | ⟨rfl, h_208⟩
    · replace hE := (hE).trans (if_pos rfl)
      refine lv_if_eq (tgt := 41) hx hb dX12_score_26 (by decide +kernel) (fun c_209 => absurd c_209 (by decide +kernel)) (fun c_209 => ?_)
      refine lv_aload_n hx hb dX12_score_29 rfl (lv_at hl 0 rfl) ?_
      refine lv_bipush (v := 67) hx hb dX12_score_30 (by decide +kernel) ?_
      refine lv_iload_n hx hb dX12_score_32 rfl (lv_at hl 1 rfl) ?_
      refine lv_iadd hx hb dX12_score_33 ?_
      refine lv_topi (fun x_210 ex_210 => ?_)
      replace hE := hE.trans (Lt_in ex_210)
      have hx_210 : x_210.toInt = (67 + x.toInt) := by rw [ex_210]; exact i_add (show (67 : Int32).toInt = 67 from rfl) rfl (by omega)
      refine lv_iload_n hx hb dX12_score_34 rfl (lv_at hl 2 rfl) ?_
      refine kci (S := Su) (wr := [(r0, .inl (K 0, 7, .inl frf))]) (va_runV (As := [.int x_210, .int y]) (rest := []) ⟨hx, hb, hml, hown, hts⟩ (v_change l D K m0 x_210 y (.int 0) sta (.ref r0) w0 m_4 m_5 m_6 m_7 m_8 m_9 m_10 m_11 m_12 m_13 m_14 m_15 m_16 m_17 m_18 m_19 m_20 m_21 m_22 m_23 m_24 m_25 m_26 m_27 m_28 m_29 m_30 m_31 m_32 m_33 m_34 m_35 m_36 m_37 m_38 m_39 m_40 m_41 m_42 m_43 m_44 m_45 m_46 m_47 m_48 m_49 m_50 m_51 m_52 m_53 m_54 m_55 m_56 m_57 m_58 m_59 fw H.size (by first | omega | decide) (PR.free (by omega)) zfw) (cwV 2 hts gX12_score_X12_change rfl rfl rfl (by decide +kernel) ⟨Nat.le_of_ble_eq_true rfl, Nat.le_of_ble_eq_true rfl⟩) (mkV hK hN (hP.sub [0, 1] rfl) (hD.sub [0, 1] (by decide +kernel) rfl) (ci := 12) (q0 := 0) rfl rfl) rfl rfl hl.1 rfl (lv_room (Nat.le_of_ble_eq_true rfl)) dX12_score_35 ⟨Nat.le_of_ble_eq_true rfl, Nat.le_of_ble_eq_true rfl⟩) hP hD hS hA [0, 1] [2] rfl rfl (by decide +kernel) (by decide +kernel) (fun r_211 u_212 H locs hw hP0 hD0 hS0 => ?_)
      clear hP hD hS
      have hP := hP0
      have hD := hD0
      have hS := hS0
      clear hP0 hD0 hS0
      replace hP : va_P D vwCl [(r0, .inl (K 0, 7, .inl frf)), (m0, .inr (12, [.int 0, .int 0, .ref r0, .ref w0, m_4, m_5, m_6, m_7, m_8, m_9, m_10, m_11, m_12, m_13, m_14, m_15, m_16, m_17, m_18, m_19, m_20, m_21, m_22, m_23, m_24, m_25, m_26, m_27, m_28, m_29, m_30, m_31, m_32, m_33, m_34, m_35, m_36, m_37, m_38, m_39, m_40, m_41, m_42, m_43, m_44, m_45, m_46, m_47, m_48, m_49, m_50, m_51, m_52, m_53, m_54, m_55, m_56, m_57, m_58, m_59])), (w0, .inl (K 0, 5500, .inl (u_212.2.1 0)))] H := hP
      replace hD : va_D A [(r0, .inl (K 0, 7, .inl frf)), (m0, .inr (12, [.int 0, .int 0, .ref r0, .ref w0, m_4, m_5, m_6, m_7, m_8, m_9, m_10, m_11, m_12, m_13, m_14, m_15, m_16, m_17, m_18, m_19, m_20, m_21, m_22, m_23, m_24, m_25, m_26, m_27, m_28, m_29, m_30, m_31, m_32, m_33, m_34, m_35, m_36, m_37, m_38, m_39, m_40, m_41, m_42, m_43, m_44, m_45, m_46, m_47, m_48, m_49, m_50, m_51, m_52, m_53, m_54, m_55, m_56, m_57, m_58, m_59])), (w0, .inl (K 0, 5500, .inl (u_212.2.1 0)))] := hD
      obtain ⟨k_213, k_214, -⟩ := hw
      replace hE := hE.trans (Lt2_in k_214)
      refine lv_goto (tgt := 46) hx hb dX12_score_38 (by decide +kernel) ?_
      rw [← hQ]
      have hP9 := hP.sub (ws' := [(m0, .inr (12, [.int 0, .int 0, .ref r0, .ref w0, m_4, m_5, m_6, m_7, m_8, m_9, m_10, m_11, m_12, m_13, m_14, m_15, m_16, m_17, m_18, m_19, m_20, m_21, m_22, m_23, m_24, m_25, m_26, m_27, m_28, m_29, m_30, m_31, m_32, m_33, m_34, m_35, m_36, m_37, m_38, m_39, m_40, m_41, m_42, m_43, m_44, m_45, m_46, m_47, m_48, m_49, m_50, m_51, m_52, m_53, m_54, m_55, m_56, m_57, m_58, m_59])), (w0, .inl (K 0, 5500, .inl (u_212.2.1 0))), (r0, .inl (K 0, 7, .inl frf))]) [1, 2, 0] rfl
      have hD9 := hD.sub (ws' := [(m0, .inr (12, [.int 0, .int 0, .ref r0, .ref w0, m_4, m_5, m_6, m_7, m_8, m_9, m_10, m_11, m_12, m_13, m_14, m_15, m_16, m_17, m_18, m_19, m_20, m_21, m_22, m_23, m_24, m_25, m_26, m_27, m_28, m_29, m_30, m_31, m_32, m_33, m_34, m_35, m_36, m_37, m_38, m_39, m_40, m_41, m_42, m_43, m_44, m_45, m_46, m_47, m_48, m_49, m_50, m_51, m_52, m_53, m_54, m_55, m_56, m_57, m_58, m_59])), (w0, .inl (K 0, 5500, .inl (u_212.2.1 0))), (r0, .inl (K 0, 7, .inl frf))]) [1, 2, 0] (by decide +kernel) rfl
      exact W.iret (v := r_211) hx hb hr (fun t ht hW => ⟨⟨r_211, ((fun _ => 0, fun i => match i with | 0 => (u_212.2.1 0) | _ => frf, fun _ => fun _ => 0, fun i => match i with | _ => 0, fun _ => 0, fun _ => fun _ => none) : Su), rfl, ⟨(show (-6) ≤ (0 : Int32).toInt ∧ (0 : Int32).toInt ≤ 0 by decide), k_213, hE.symm, trivial⟩, (⟨by rw [ht]; exact hP9, hD9⟩ : Wd D A _ t)⟩, hS.F ht⟩) hS.2.2 dX12_score_46
    · replace hE := (hE).trans (if_neg (by first | decide | (intro h9; have h8 := congrArg Int32.toInt h9; omega)))
      refine lv_if_eq (tgt := 41) hx hb dX12_score_26 (by decide +kernel) (fun c_215 => ?_) (fun c_215 => absurd (by decide +kernel) c_215)
      exact j_191   hE _ _ hP hD hS ls (lv_sub hl [0] rfl)
  · replace hE := (hE).trans (if_neg (by first | decide | (intro h9; have h8 := congrArg Int32.toInt h9; omega)))
    refine lv_if_eq (tgt := 41) hx hb dX12_score_14 (by decide +kernel) (fun c_216 => ?_) (fun c_216 => absurd (by decide +kernel) c_216)
    exact j_191   hE _ _ hP hD hS ls (lv_sub hl [0] rfl)
set_option maxRecDepth 100000 in
noncomputable def E_v_chord (x : Int32) (thr : Int32) (fw : Nat → Int32) : Int32 :=
  Lt ((x : Int32).toInt64 : Int64) (fun x_81 => Lt (E_v_in x_81 0 23) (fun r_82 => if r_82 = 1 then (Lt (67 + x : Int32) (fun x_88 => Lt (fw (x_88 : Int32).toNatClampNeg : Int32) (fun x_89 => (x_89 : Int32)))) else (((-1) : Int32))))
set_option maxHeartbeats 4000000 in
set_option maxRecDepth 100000 in
theorem v_chord (l : Launch) (D : va_G) (K : Nat → ClassId) (m0 : Nat) (x : Int32) (thr : Int32) (m_1 : Value) (m_2 : Value) (w0 : Nat) (m_4 : Value) (m_5 : Value) (m_6 : Value) (m_7 : Value) (m_8 : Value) (m_9 : Value) (m_10 : Value) (m_11 : Value) (m_12 : Value) (m_13 : Value) (m_14 : Value) (m_15 : Value) (m_16 : Value) (m_17 : Value) (m_18 : Value) (m_19 : Value) (m_20 : Value) (m_21 : Value) (m_22 : Value) (m_23 : Value) (m_24 : Value) (m_25 : Value) (m_26 : Value) (m_27 : Value) (m_28 : Value) (m_29 : Value) (m_30 : Value) (m_31 : Value) (m_32 : Value) (m_33 : Value) (m_34 : Value) (m_35 : Value) (m_36 : Value) (m_37 : Value) (m_38 : Value) (m_39 : Value) (m_40 : Value) (m_41 : Value) (m_42 : Value) (m_43 : Value) (m_44 : Value) (m_45 : Value) (m_46 : Value) (m_47 : Value) (m_48 : Value) (m_49 : Value) (m_50 : Value) (m_51 : Value) (m_52 : Value) (m_53 : Value) (m_54 : Value) (m_55 : Value) (m_56 : Value) (m_57 : Value) (m_58 : Value) (m_59 : Value) (fw : Nat → Int32) (gr : Nat → Int32) (sz : Nat) (zfw : RwOK fw) (zgr : FzM gr fw) : Met l yX12_chord wsX12_chord ({ frames := 1, cells := 0, slots := 0, locals := 25 }) (va_Pc [.ref m0, .int x] (Pre D K [(m0, .inr (12, [.int thr, m_1, m_2, .ref w0, m_4, m_5, m_6, m_7, m_8, m_9, m_10, m_11, m_12, m_13, m_14, m_15, m_16, m_17, m_18, m_19, m_20, m_21, m_22, m_23, m_24, m_25, m_26, m_27, m_28, m_29, m_30, m_31, m_32, m_33, m_34, m_35, m_36, m_37, m_38, m_39, m_40, m_41, m_42, m_43, m_44, m_45, m_46, m_47, m_48, m_49, m_50, m_51, m_52, m_53, m_54, m_55, m_56, m_57, m_58, m_59])), (w0, .inl (K 0, 5500, .inl fw))] sz)) (va_Qi (S := Su) (fun (r : Int32) (u : Su) => (r = E_v_chord x thr fw) ∧ True) (fun u t => Wd D (va_A [(m0, .inr (12, [.int thr, m_1, m_2, .ref w0, m_4, m_5, m_6, m_7, m_8, m_9, m_10, m_11, m_12, m_13, m_14, m_15, m_16, m_17, m_18, m_19, m_20, m_21, m_22, m_23, m_24, m_25, m_26, m_27, m_28, m_29, m_30, m_31, m_32, m_33, m_34, m_35, m_36, m_37, m_38, m_39, m_40, m_41, m_42, m_43, m_44, m_45, m_46, m_47, m_48, m_49, m_50, m_51, m_52, m_53, m_54, m_55, m_56, m_57, m_58, m_59])), (w0, .inl (K 0, 5500, .inl fw))] sz) ((fun u => [(m0, .inr (12, [.int 0, m_1, m_2, .ref w0, m_4, m_5, m_6, m_7, m_8, m_9, m_10, m_11, m_12, m_13, m_14, m_15, m_16, m_17, m_18, m_19, m_20, m_21, m_22, m_23, m_24, m_25, m_26, m_27, m_28, m_29, m_30, m_31, m_32, m_33, m_34, m_35, m_36, m_37, m_38, m_39, m_40, m_41, m_42, m_43, m_44, m_45, m_46, m_47, m_48, m_49, m_50, m_51, m_52, m_53, m_54, m_55, m_56, m_57, m_58, m_59])), (w0, .inl (K 0, 5500, .inl fw))]) u) t) (va_A [(m0, .inr (12, [.int thr, m_1, m_2, .ref w0, m_4, m_5, m_6, m_7, m_8, m_9, m_10, m_11, m_12, m_13, m_14, m_15, m_16, m_17, m_18, m_19, m_20, m_21, m_22, m_23, m_24, m_25, m_26, m_27, m_28, m_29, m_30, m_31, m_32, m_33, m_34, m_35, m_36, m_37, m_38, m_39, m_40, m_41, m_42, m_43, m_44, m_45, m_46, m_47, m_48, m_49, m_50, m_51, m_52, m_53, m_54, m_55, m_56, m_57, m_58, m_59])), (w0, .inl (K 0, 5500, .inl fw))] sz)) 0 0 (va_A [(m0, .inr (12, [.int thr, m_1, m_2, .ref w0, m_4, m_5, m_6, m_7, m_8, m_9, m_10, m_11, m_12, m_13, m_14, m_15, m_16, m_17, m_18, m_19, m_20, m_21, m_22, m_23, m_24, m_25, m_26, m_27, m_28, m_29, m_30, m_31, m_32, m_33, m_34, m_35, m_36, m_37, m_38, m_39, m_40, m_41, m_42, m_43, m_44, m_45, m_46, m_47, m_48, m_49, m_50, m_51, m_52, m_53, m_54, m_55, m_56, m_57, m_58, m_59])), (w0, .inl (K 0, 5500, .inl fw))] sz) := by
  refine Met.ofW (cc := cX12_chord) (maxL := 2) (ret := (some .int)) (by decide +kernel) rfl ?_
  intro p e s m args below meth c s₁ B hml hv
  obtain ⟨rfl, hsz, hP, hK, hD0, hN⟩ := hv
  have hx := B.exec
  have hb := B.bytes
  have hr := B.returns
  have hts := atoms_spec (ws := wsX12_chord) B.pre
  have hown : s.vm.findClass RX12 = some m.cls := findClass_of_methodNamed B.named
  have hlocks := B.notSynchronized
  subst hsz
  have hD := hD0.self (sz := s.heap.size)
  generalize hAe : va_A [(m0, .inr (12, [.int thr, m_1, m_2, .ref w0, m_4, m_5, m_6, m_7, m_8, m_9, m_10, m_11, m_12, m_13, m_14, m_15, m_16, m_17, m_18, m_19, m_20, m_21, m_22, m_23, m_24, m_25, m_26, m_27, m_28, m_29, m_30, m_31, m_32, m_33, m_34, m_35, m_36, m_37, m_38, m_39, m_40, m_41, m_42, m_43, m_44, m_45, m_46, m_47, m_48, m_49, m_50, m_51, m_52, m_53, m_54, m_55, m_56, m_57, m_58, m_59])), (w0, .inl (K 0, 5500, .inl fw))] s.heap.size = A at hD ⊢
  have hA : ∀ q : Nat, s.heap.size ≤ q → A q := fun q h => by rw [← hAe]; exact Or.inr h
  clear hAe
  have hS : va_S A s.heap s.heap [] := va_S.rf
  replace hP : va_P D vwCl [(m0, .inr (12, [.int thr, m_1, m_2, .ref w0, m_4, m_5, m_6, m_7, m_8, m_9, m_10, m_11, m_12, m_13, m_14, m_15, m_16, m_17, m_18, m_19, m_20, m_21, m_22, m_23, m_24, m_25, m_26, m_27, m_28, m_29, m_30, m_31, m_32, m_33, m_34, m_35, m_36, m_37, m_38, m_39, m_40, m_41, m_42, m_43, m_44, m_45, m_46, m_47, m_48, m_49, m_50, m_51, m_52, m_53, m_54, m_55, m_56, m_57, m_58, m_59])), (w0, .inl (K 0, 5500, .inl fw))] s.heap := hP
  have hl := lv_entry [.ref m0, .int x] (n := 2) (Nat.le_of_ble_eq_true rfl)
  rw [lg_entry_eq]
  generalize (lg_sl [.ref m0, .int x] ++ List.replicate (2 - (lg_sl [.ref m0, .int x]).length) Slot.unset).toArray = ls at hl ⊢
  have hl : lv_has ls 2 [(0, .ref m0), (1, .int x)] := hl
  have hw12 : ∀ w ∈ wsX120, w ∈ wsX12_chord := fun w h => (List.mem_cons_of_mem _ (List.mem_append_right _ h))
  generalize hQ : MQ below _ _ s _ _ _ = Q
  have hE := E_v_chord.eq_def x thr fw
  refine lv_aload_n hx hb dX12_chord_0 rfl (lv_at hl 0 rfl) ?_
  refine lv_iconst (v := 0) hx hb dX12_chord_1 (by decide +kernel) ?_
  refine va_put (ci := 12) (v := .int 0) (ty := .int) (C := RX12) (T := TX12) (N := 60) hx hb hts hw12 tyX12 tyX12_ok nmX12 hown hK hP hD hS 0 rfl rfl 0 (by decide +kernel) (hts _ mm_X12_chord_830) (fun _ h9 => h9) rfl (by decide +kernel) (by first | rfl | decide) (by first | rfl | decide) (Nat.le_of_ble_eq_true rfl) dX12_chord_2 (fun H locs hP0 hD0 hS0 => ?_)
  clear hP hD hS
  have hP := hP0
  have hD := hD0
  have hS := hS0
  clear hP0 hD0 hS0
  replace hP : va_P D vwCl [(m0, .inr (12, [.int 0, m_1, m_2, .ref w0, m_4, m_5, m_6, m_7, m_8, m_9, m_10, m_11, m_12, m_13, m_14, m_15, m_16, m_17, m_18, m_19, m_20, m_21, m_22, m_23, m_24, m_25, m_26, m_27, m_28, m_29, m_30, m_31, m_32, m_33, m_34, m_35, m_36, m_37, m_38, m_39, m_40, m_41, m_42, m_43, m_44, m_45, m_46, m_47, m_48, m_49, m_50, m_51, m_52, m_53, m_54, m_55, m_56, m_57, m_58, m_59])), (w0, .inl (K 0, 5500, .inl fw))] H := hP
  replace hD : va_D A [(m0, .inr (12, [.int 0, m_1, m_2, .ref w0, m_4, m_5, m_6, m_7, m_8, m_9, m_10, m_11, m_12, m_13, m_14, m_15, m_16, m_17, m_18, m_19, m_20, m_21, m_22, m_23, m_24, m_25, m_26, m_27, m_28, m_29, m_30, m_31, m_32, m_33, m_34, m_35, m_36, m_37, m_38, m_39, m_40, m_41, m_42, m_43, m_44, m_45, m_46, m_47, m_48, m_49, m_50, m_51, m_52, m_53, m_54, m_55, m_56, m_57, m_58, m_59])), (w0, .inl (K 0, 5500, .inl fw))] := hD
  refine lv_iload_n hx hb dX12_chord_5 rfl (lv_at hl 1 rfl) ?_
  refine lv_i2l hx hb dX12_chord_6 rfl ?_
  refine lv_topl (fun x_81 ex_81 => ?_)
  replace hE := hE.trans (Lt_in ex_81)
  have hx_81 : x_81.toInt = x.toInt := by rw [ex_81]; exact i_wide rfl
  have hbx_81 := i_rng (a := x) rfl
  refine lv_lconst (v := 0) hx hb dX12_chord_7 (by decide +kernel) ?_
  refine lv_ldc2 (v := 23) hx hb hown (hts _ mm_X12_chord_1028) dX12_chord_8 ?_
  refine pci (va_runS (As := [.long x_81, .long 0, .long 23]) (rest := []) ⟨hx, hb, hml, hown, hts⟩ (v_in l D K x.toInt 0 23 x_81 0 23 H.size hx_81 (show (0 : Int64).toInt = 0 from rfl) (show (23 : Int64).toInt = 23 from rfl)) (va_cwS 3 hts gX12_chord_X12_in rfl rfl rfl (by decide +kernel) ⟨Nat.le_of_ble_eq_true rfl, Nat.le_of_ble_eq_true rfl⟩) (mkS hK hN (va_P.nil) (va_D.nil (A := fun _ => True))) rfl rfl hl.1 rfl (lv_room (Nat.le_of_ble_eq_true rfl)) dX12_chord_11 ⟨Nat.le_of_ble_eq_true rfl, Nat.le_of_ble_eq_true rfl⟩) (fun r_82 hw => ?_)
  obtain ⟨hw, k_83, -⟩ := hw
  replace hE := hE.trans (Lt_in k_83)
  rcases hw with ⟨rfl, h_84, h_85⟩ | ⟨rfl, h_86⟩
  · replace hE := (hE).trans (if_pos rfl)
    refine lv_if_eq (tgt := 29) hx hb dX12_chord_14 (by decide +kernel) (fun c_87 => absurd c_87 (by decide +kernel)) (fun c_87 => ?_)
    refine lv_aload_n hx hb dX12_chord_17 rfl (lv_at hl 0 rfl) ?_
    refine va_get (ci := 12) (v := .ref w0) (C := RX12) (T := TX12) (N := 60) hx hb hts hw12 hown hK hP 0 rfl rfl 3 (by decide +kernel) (hts _ mm_X12_chord_833) (fun _ h9 => h9) rfl dX12_chord_18 ?_
    refine lv_bipush (v := 67) hx hb dX12_chord_21 (by decide +kernel) ?_
    refine lv_iload_n hx hb dX12_chord_23 rfl (lv_at hl 1 rfl) ?_
    refine lv_iadd hx hb dX12_chord_24 ?_
    refine lv_topi (fun x_88 ex_88 => ?_)
    replace hE := hE.trans (Lt_in ex_88)
    have hx_88 : x_88.toInt = (67 + x.toInt) := by rw [ex_88]; exact i_add (show (67 : Int32).toInt = 67 from rfl) rfl (by omega)
    refine va_iald hx hb hK hP 1 0 rfl rfl (i_in hx_88 (by omega)) dX12_chord_25 ?_
    refine lv_topi (fun x_89 ex_89 => ?_)
    replace hE := hE.trans (Lt_in ex_89)
    have px_89 := RwOK.at zfw hx_88 (show 0 ≤ (67 + x.toInt) ∧ (67 + x.toInt) < 100 by omega)
    rw [← ex_89] at px_89
    refine lv_goto (tgt := 30) hx hb dX12_chord_26 (by decide +kernel) ?_
    rw [← hQ]
    have hP9 := hP.sub (ws' := [(m0, .inr (12, [.int 0, m_1, m_2, .ref w0, m_4, m_5, m_6, m_7, m_8, m_9, m_10, m_11, m_12, m_13, m_14, m_15, m_16, m_17, m_18, m_19, m_20, m_21, m_22, m_23, m_24, m_25, m_26, m_27, m_28, m_29, m_30, m_31, m_32, m_33, m_34, m_35, m_36, m_37, m_38, m_39, m_40, m_41, m_42, m_43, m_44, m_45, m_46, m_47, m_48, m_49, m_50, m_51, m_52, m_53, m_54, m_55, m_56, m_57, m_58, m_59])), (w0, .inl (K 0, 5500, .inl fw))]) [0, 1] rfl
    have hD9 := hD.sub (ws' := [(m0, .inr (12, [.int 0, m_1, m_2, .ref w0, m_4, m_5, m_6, m_7, m_8, m_9, m_10, m_11, m_12, m_13, m_14, m_15, m_16, m_17, m_18, m_19, m_20, m_21, m_22, m_23, m_24, m_25, m_26, m_27, m_28, m_29, m_30, m_31, m_32, m_33, m_34, m_35, m_36, m_37, m_38, m_39, m_40, m_41, m_42, m_43, m_44, m_45, m_46, m_47, m_48, m_49, m_50, m_51, m_52, m_53, m_54, m_55, m_56, m_57, m_58, m_59])), (w0, .inl (K 0, 5500, .inl fw))]) [0, 1] (by decide +kernel) rfl
    exact W.iret (v := x_89) hx hb hr (fun t ht hW => ⟨⟨x_89, ((fun _ => 0, fun _ => fun _ => 0, fun _ => fun _ => 0, fun _ => 0, fun _ => 0, fun _ => fun _ => none) : Su), rfl, ⟨hE.symm, trivial⟩, (⟨by rw [ht]; exact hP9, hD9⟩ : Wd D A _ t)⟩, hS.F ht⟩) hS.2.2 dX12_chord_30
  · replace hE := (hE).trans (if_neg (by first | decide | (intro h9; have h8 := congrArg Int32.toInt h9; omega)))
    refine lv_if_eq (tgt := 29) hx hb dX12_chord_14 (by decide +kernel) (fun c_90 => ?_) (fun c_90 => absurd (by decide +kernel) c_90)
    refine lv_iconst (v := (-1)) hx hb dX12_chord_29 (by decide +kernel) ?_
    rw [← hQ]
    have hP9 := hP.sub (ws' := [(m0, .inr (12, [.int 0, m_1, m_2, .ref w0, m_4, m_5, m_6, m_7, m_8, m_9, m_10, m_11, m_12, m_13, m_14, m_15, m_16, m_17, m_18, m_19, m_20, m_21, m_22, m_23, m_24, m_25, m_26, m_27, m_28, m_29, m_30, m_31, m_32, m_33, m_34, m_35, m_36, m_37, m_38, m_39, m_40, m_41, m_42, m_43, m_44, m_45, m_46, m_47, m_48, m_49, m_50, m_51, m_52, m_53, m_54, m_55, m_56, m_57, m_58, m_59])), (w0, .inl (K 0, 5500, .inl fw))]) [0, 1] rfl
    have hD9 := hD.sub (ws' := [(m0, .inr (12, [.int 0, m_1, m_2, .ref w0, m_4, m_5, m_6, m_7, m_8, m_9, m_10, m_11, m_12, m_13, m_14, m_15, m_16, m_17, m_18, m_19, m_20, m_21, m_22, m_23, m_24, m_25, m_26, m_27, m_28, m_29, m_30, m_31, m_32, m_33, m_34, m_35, m_36, m_37, m_38, m_39, m_40, m_41, m_42, m_43, m_44, m_45, m_46, m_47, m_48, m_49, m_50, m_51, m_52, m_53, m_54, m_55, m_56, m_57, m_58, m_59])), (w0, .inl (K 0, 5500, .inl fw))]) [0, 1] (by decide +kernel) rfl
    exact W.iret (v := (-1)) hx hb hr (fun t ht hW => ⟨⟨(-1), ((fun _ => 0, fun _ => fun _ => 0, fun _ => fun _ => 0, fun _ => 0, fun _ => 0, fun _ => fun _ => none) : Su), rfl, ⟨hE.symm, trivial⟩, (⟨by rw [ht]; exact hP9, hD9⟩ : Wd D A _ t)⟩, hS.F ht⟩) hS.2.2 dX12_chord_30
set_option maxRecDepth 100000 in
noncomputable def E_v_canBe (x : Int32) (y : Int32) : Int32 :=
  if (x : Int32).toInt = 0 then (Lt ((y : Int32).toInt64 : Int64) (fun x_142 => Lt (E_v_in x_142 0 23) (fun r_143 => if r_143 = 1 then ((1 : Int32)) else ((0 : Int32))))) else (if (x : Int32).toInt = 1 then (Lt ((y : Int32).toInt64 : Int64) (fun x_148 => Lt (E_v_in x_148 0 999) (fun r_149 => if r_149 = 1 then ((1 : Int32)) else ((0 : Int32))))) else (if (x : Int32).toInt = 2 then (Lt ((y : Int32).toInt64 : Int64) (fun x_154 => Lt (E_v_in x_154 1 20) (fun r_155 => if r_155 = 1 then ((1 : Int32)) else ((0 : Int32))))) else (if (x : Int32).toInt = 3 then (Lt ((y : Int32).toInt64 : Int64) (fun x_160 => Lt (E_v_in x_160 1 20) (fun r_161 => if r_161 = 1 then ((1 : Int32)) else ((0 : Int32))))) else (if (x : Int32).toInt = 4 then (Lt ((y : Int32).toInt64 : Int64) (fun x_166 => Lt (E_v_in x_166 0 10) (fun r_167 => if r_167 = 1 then ((1 : Int32)) else ((0 : Int32))))) else (if x = 5 then (Lt ((y : Int32).toInt64 : Int64) (fun x_173 => Lt (E_v_in x_173 0 9) (fun r_174 => if r_174 = 1 then ((1 : Int32)) else ((0 : Int32))))) else ((0 : Int32)))))))
set_option maxHeartbeats 4000000 in
set_option maxRecDepth 100000 in
theorem v_canBe (l : Launch) (D : va_G) (K : Nat → ClassId) (x : Int32) (y : Int32) (sz : Nat) : Met l yX12_canBe wsX12_canBe ({ frames := 1, cells := 0, slots := 0, locals := 25 }) (va_Pc [.int x, .int y] (Pre D K [] sz)) (vp_Si (fun r : Int32 => ((r = 1 ∧ ((x.toInt = 0 ∧ 0 ≤ y.toInt ∧ y.toInt ≤ 23) ∨ (1 ≤ x.toInt ∧ x.toInt ≤ 5))) ∨ (r = 0)) ∧ (r = E_v_canBe x y) ∧ True)) 0 0 (fun _ => False) := by
  refine Met.ofW (cc := cX12_canBe) (maxL := 2) (ret := (some .boolean)) (by decide +kernel) rfl ?_
  intro p e s m args below meth c s₁ B hml hv
  obtain ⟨rfl, hsz, hP, hK, hD0, hN⟩ := hv
  have hx := B.exec
  have hb := B.bytes
  have hr := B.returns
  have hts := atoms_spec (ws := wsX12_canBe) B.pre
  have hown : s.vm.findClass RX12 = some m.cls := findClass_of_methodNamed B.named
  have hlocks := B.notSynchronized
  subst hsz
  have hD := hD0
  replace hP : va_P D vwCl [] s.heap := hP
  have hl := lv_entry [.int x, .int y] (n := 2) (Nat.le_of_ble_eq_true rfl)
  rw [lg_entry_eq]
  generalize (lg_sl [.int x, .int y] ++ List.replicate (2 - (lg_sl [.int x, .int y]).length) Slot.unset).toArray = ls at hl ⊢
  have hl : lv_has ls 2 [(0, .int x), (1, .int y)] := hl
  generalize hQ : MQ below _ _ s _ _ _ = Q
  have hE := E_v_canBe.eq_def x y
  refine lv_iload_n hx hb dX12_canBe_0 rfl (lv_at hl 0 rfl) ?_
  have w_141 : x.toInt = 0 ∨ x.toInt = 1 ∨ x.toInt = 2 ∨ x.toInt = 3 ∨ x.toInt = 4 ∨ (x.toInt < 0 ∨ 4 < x.toInt) := by omega
  rcases w_141 with w_141 | w_141 | w_141 | w_141 | w_141 | w_141
  · replace hE := (hE).trans (if_pos (by first | omega | (rw [rfl]; omega)))
    refine lv_tableIn (tgt := 36) hx hb dX12_canBe_1 (by omega) (by omega) (by rw [w_141]; rfl) (by decide +kernel) ?_
    refine lv_iload_n hx hb dX12_canBe_36 rfl (lv_at hl 1 rfl) ?_
    refine lv_i2l hx hb dX12_canBe_37 rfl ?_
    refine lv_topl (fun x_142 ex_142 => ?_)
    replace hE := hE.trans (Lt_in ex_142)
    have hx_142 : x_142.toInt = y.toInt := by rw [ex_142]; exact i_wide rfl
    have hbx_142 := i_rng (a := y) rfl
    refine lv_lconst (v := 0) hx hb dX12_canBe_38 (by decide +kernel) ?_
    refine lv_ldc2 (v := 23) hx hb hown (hts _ mm_X12_canBe_1028) dX12_canBe_39 ?_
    refine pci (va_runS (As := [.long x_142, .long 0, .long 23]) (rest := []) ⟨hx, hb, hml, hown, hts⟩ (v_in l D K y.toInt 0 23 x_142 0 23 s.heap.size hx_142 (show (0 : Int64).toInt = 0 from rfl) (show (23 : Int64).toInt = 23 from rfl)) (va_cwS 3 hts gX12_canBe_X12_in rfl rfl rfl (by decide +kernel) ⟨Nat.le_of_ble_eq_true rfl, Nat.le_of_ble_eq_true rfl⟩) (mkS hK hN (va_P.nil) (va_D.nil (A := fun _ => True))) rfl rfl hl.1 rfl (lv_room (Nat.le_of_ble_eq_true rfl)) dX12_canBe_42 ⟨Nat.le_of_ble_eq_true rfl, Nat.le_of_ble_eq_true rfl⟩) (fun r_143 hw => ?_)
    obtain ⟨hw, k_144, -⟩ := hw
    replace hE := hE.trans (Lt_in k_144)
    rcases hw with ⟨rfl, h_145, h_146⟩ | ⟨rfl, h_147⟩
    · replace hE := (hE).trans (if_pos rfl)
      rw [← hQ]
      exact W.zret (v := 1) hx hb hr (by decide +kernel) (fun t ht hW => ⟨_, rfl, ⟨(by first | exact Or.inl ⟨rfl, by first | omega | decide | (subst_vars; assumption)⟩), hE.symm, trivial⟩, ht⟩) (fun q hq => by cases hq) dX12_canBe_45
    · replace hE := (hE).trans (if_neg (by first | decide | (intro h9; have h8 := congrArg Int32.toInt h9; omega)))
      rw [← hQ]
      exact W.zret (v := 0) hx hb hr (by decide +kernel) (fun t ht hW => ⟨_, rfl, ⟨(by first | exact Or.inr (rfl)), hE.symm, trivial⟩, ht⟩) (fun q hq => by cases hq) dX12_canBe_45
  · replace hE := ((hE).trans (if_neg (by first | omega | (rw [rfl]; omega)))).trans (if_pos (by first | omega | (rw [rfl]; omega)))
    refine lv_tableIn (tgt := 46) hx hb dX12_canBe_1 (by omega) (by omega) (by rw [w_141]; rfl) (by decide +kernel) ?_
    refine lv_iload_n hx hb dX12_canBe_46 rfl (lv_at hl 1 rfl) ?_
    refine lv_i2l hx hb dX12_canBe_47 rfl ?_
    refine lv_topl (fun x_148 ex_148 => ?_)
    replace hE := hE.trans (Lt_in ex_148)
    have hx_148 : x_148.toInt = y.toInt := by rw [ex_148]; exact i_wide rfl
    have hbx_148 := i_rng (a := y) rfl
    refine lv_lconst (v := 0) hx hb dX12_canBe_48 (by decide +kernel) ?_
    refine lv_ldc2 (v := 999) hx hb hown (hts _ mm_X12_canBe_978) dX12_canBe_49 ?_
    refine pci (va_runS (As := [.long x_148, .long 0, .long 999]) (rest := []) ⟨hx, hb, hml, hown, hts⟩ (v_in l D K y.toInt 0 999 x_148 0 999 s.heap.size hx_148 (show (0 : Int64).toInt = 0 from rfl) (show (999 : Int64).toInt = 999 from rfl)) (va_cwS 3 hts gX12_canBe_X12_in rfl rfl rfl (by decide +kernel) ⟨Nat.le_of_ble_eq_true rfl, Nat.le_of_ble_eq_true rfl⟩) (mkS hK hN (va_P.nil) (va_D.nil (A := fun _ => True))) rfl rfl hl.1 rfl (lv_room (Nat.le_of_ble_eq_true rfl)) dX12_canBe_52 ⟨Nat.le_of_ble_eq_true rfl, Nat.le_of_ble_eq_true rfl⟩) (fun r_149 hw => ?_)
    obtain ⟨hw, k_150, -⟩ := hw
    replace hE := hE.trans (Lt_in k_150)
    rcases hw with ⟨rfl, h_151, h_152⟩ | ⟨rfl, h_153⟩
    · replace hE := (hE).trans (if_pos rfl)
      rw [← hQ]
      exact W.zret (v := 1) hx hb hr (by decide +kernel) (fun t ht hW => ⟨_, rfl, ⟨(by first | exact Or.inl ⟨rfl, by first | omega | decide | (subst_vars; assumption)⟩), hE.symm, trivial⟩, ht⟩) (fun q hq => by cases hq) dX12_canBe_55
    · replace hE := (hE).trans (if_neg (by first | decide | (intro h9; have h8 := congrArg Int32.toInt h9; omega)))
      rw [← hQ]
      exact W.zret (v := 0) hx hb hr (by decide +kernel) (fun t ht hW => ⟨_, rfl, ⟨(by first | exact Or.inr (rfl)), hE.symm, trivial⟩, ht⟩) (fun q hq => by cases hq) dX12_canBe_55
  · replace hE := (((hE).trans (if_neg (by first | omega | (rw [rfl]; omega)))).trans (if_neg (by first | omega | (rw [rfl]; omega)))).trans (if_pos (by first | omega | (rw [rfl]; omega)))
    refine lv_tableIn (tgt := 56) hx hb dX12_canBe_1 (by omega) (by omega) (by rw [w_141]; rfl) (by decide +kernel) ?_
    refine lv_iload_n hx hb dX12_canBe_56 rfl (lv_at hl 1 rfl) ?_
    refine lv_i2l hx hb dX12_canBe_57 rfl ?_
    refine lv_topl (fun x_154 ex_154 => ?_)
    replace hE := hE.trans (Lt_in ex_154)
    have hx_154 : x_154.toInt = y.toInt := by rw [ex_154]; exact i_wide rfl
    have hbx_154 := i_rng (a := y) rfl
    refine lv_lconst (v := 1) hx hb dX12_canBe_58 (by decide +kernel) ?_
    refine lv_ldc2 (v := 20) hx hb hown (hts _ mm_X12_canBe_1044) dX12_canBe_59 ?_
    refine pci (va_runS (As := [.long x_154, .long 1, .long 20]) (rest := []) ⟨hx, hb, hml, hown, hts⟩ (v_in l D K y.toInt 1 20 x_154 1 20 s.heap.size hx_154 (show (1 : Int64).toInt = 1 from rfl) (show (20 : Int64).toInt = 20 from rfl)) (va_cwS 3 hts gX12_canBe_X12_in rfl rfl rfl (by decide +kernel) ⟨Nat.le_of_ble_eq_true rfl, Nat.le_of_ble_eq_true rfl⟩) (mkS hK hN (va_P.nil) (va_D.nil (A := fun _ => True))) rfl rfl hl.1 rfl (lv_room (Nat.le_of_ble_eq_true rfl)) dX12_canBe_62 ⟨Nat.le_of_ble_eq_true rfl, Nat.le_of_ble_eq_true rfl⟩) (fun r_155 hw => ?_)
    obtain ⟨hw, k_156, -⟩ := hw
    replace hE := hE.trans (Lt_in k_156)
    rcases hw with ⟨rfl, h_157, h_158⟩ | ⟨rfl, h_159⟩
    · replace hE := (hE).trans (if_pos rfl)
      rw [← hQ]
      exact W.zret (v := 1) hx hb hr (by decide +kernel) (fun t ht hW => ⟨_, rfl, ⟨(by first | exact Or.inl ⟨rfl, by first | omega | decide | (subst_vars; assumption)⟩), hE.symm, trivial⟩, ht⟩) (fun q hq => by cases hq) dX12_canBe_65
    · replace hE := (hE).trans (if_neg (by first | decide | (intro h9; have h8 := congrArg Int32.toInt h9; omega)))
      rw [← hQ]
      exact W.zret (v := 0) hx hb hr (by decide +kernel) (fun t ht hW => ⟨_, rfl, ⟨(by first | exact Or.inr (rfl)), hE.symm, trivial⟩, ht⟩) (fun q hq => by cases hq) dX12_canBe_65
  · replace hE := ((((hE).trans (if_neg (by first | omega | (rw [rfl]; omega)))).trans (if_neg (by first | omega | (rw [rfl]; omega)))).trans (if_neg (by first | omega | (rw [rfl]; omega)))).trans (if_pos (by first | omega | (rw [rfl]; omega)))
    refine lv_tableIn (tgt := 56) hx hb dX12_canBe_1 (by omega) (by omega) (by rw [w_141]; rfl) (by decide +kernel) ?_
    refine lv_iload_n hx hb dX12_canBe_56 rfl (lv_at hl 1 rfl) ?_
    refine lv_i2l hx hb dX12_canBe_57 rfl ?_
    refine lv_topl (fun x_160 ex_160 => ?_)
    replace hE := hE.trans (Lt_in ex_160)
    have hx_160 : x_160.toInt = y.toInt := by rw [ex_160]; exact i_wide rfl
    have hbx_160 := i_rng (a := y) rfl
    refine lv_lconst (v := 1) hx hb dX12_canBe_58 (by decide +kernel) ?_
    refine lv_ldc2 (v := 20) hx hb hown (hts _ mm_X12_canBe_1044) dX12_canBe_59 ?_
    refine pci (va_runS (As := [.long x_160, .long 1, .long 20]) (rest := []) ⟨hx, hb, hml, hown, hts⟩ (v_in l D K y.toInt 1 20 x_160 1 20 s.heap.size hx_160 (show (1 : Int64).toInt = 1 from rfl) (show (20 : Int64).toInt = 20 from rfl)) (va_cwS 3 hts gX12_canBe_X12_in rfl rfl rfl (by decide +kernel) ⟨Nat.le_of_ble_eq_true rfl, Nat.le_of_ble_eq_true rfl⟩) (mkS hK hN (va_P.nil) (va_D.nil (A := fun _ => True))) rfl rfl hl.1 rfl (lv_room (Nat.le_of_ble_eq_true rfl)) dX12_canBe_62 ⟨Nat.le_of_ble_eq_true rfl, Nat.le_of_ble_eq_true rfl⟩) (fun r_161 hw => ?_)
    obtain ⟨hw, k_162, -⟩ := hw
    replace hE := hE.trans (Lt_in k_162)
    rcases hw with ⟨rfl, h_163, h_164⟩ | ⟨rfl, h_165⟩
    · replace hE := (hE).trans (if_pos rfl)
      rw [← hQ]
      exact W.zret (v := 1) hx hb hr (by decide +kernel) (fun t ht hW => ⟨_, rfl, ⟨(by first | exact Or.inl ⟨rfl, by first | omega | decide | (subst_vars; assumption)⟩), hE.symm, trivial⟩, ht⟩) (fun q hq => by cases hq) dX12_canBe_65
    · replace hE := (hE).trans (if_neg (by first | decide | (intro h9; have h8 := congrArg Int32.toInt h9; omega)))
      rw [← hQ]
      exact W.zret (v := 0) hx hb hr (by decide +kernel) (fun t ht hW => ⟨_, rfl, ⟨(by first | exact Or.inr (rfl)), hE.symm, trivial⟩, ht⟩) (fun q hq => by cases hq) dX12_canBe_65
  · replace hE := (((((hE).trans (if_neg (by first | omega | (rw [rfl]; omega)))).trans (if_neg (by first | omega | (rw [rfl]; omega)))).trans (if_neg (by first | omega | (rw [rfl]; omega)))).trans (if_neg (by first | omega | (rw [rfl]; omega)))).trans (if_pos (by first | omega | (rw [rfl]; omega)))
    refine lv_tableIn (tgt := 66) hx hb dX12_canBe_1 (by omega) (by omega) (by rw [w_141]; rfl) (by decide +kernel) ?_
    refine lv_iload_n hx hb dX12_canBe_66 rfl (lv_at hl 1 rfl) ?_
    refine lv_i2l hx hb dX12_canBe_67 rfl ?_
    refine lv_topl (fun x_166 ex_166 => ?_)
    replace hE := hE.trans (Lt_in ex_166)
    have hx_166 : x_166.toInt = y.toInt := by rw [ex_166]; exact i_wide rfl
    have hbx_166 := i_rng (a := y) rfl
    refine lv_lconst (v := 0) hx hb dX12_canBe_68 (by decide +kernel) ?_
    refine lv_ldc2 (v := 10) hx hb hown (hts _ mm_X12_canBe_1045) dX12_canBe_69 ?_
    refine pci (va_runS (As := [.long x_166, .long 0, .long 10]) (rest := []) ⟨hx, hb, hml, hown, hts⟩ (v_in l D K y.toInt 0 10 x_166 0 10 s.heap.size hx_166 (show (0 : Int64).toInt = 0 from rfl) (show (10 : Int64).toInt = 10 from rfl)) (va_cwS 3 hts gX12_canBe_X12_in rfl rfl rfl (by decide +kernel) ⟨Nat.le_of_ble_eq_true rfl, Nat.le_of_ble_eq_true rfl⟩) (mkS hK hN (va_P.nil) (va_D.nil (A := fun _ => True))) rfl rfl hl.1 rfl (lv_room (Nat.le_of_ble_eq_true rfl)) dX12_canBe_72 ⟨Nat.le_of_ble_eq_true rfl, Nat.le_of_ble_eq_true rfl⟩) (fun r_167 hw => ?_)
    obtain ⟨hw, k_168, -⟩ := hw
    replace hE := hE.trans (Lt_in k_168)
    rcases hw with ⟨rfl, h_169, h_170⟩ | ⟨rfl, h_171⟩
    · replace hE := (hE).trans (if_pos rfl)
      rw [← hQ]
      exact W.zret (v := 1) hx hb hr (by decide +kernel) (fun t ht hW => ⟨_, rfl, ⟨(by first | exact Or.inl ⟨rfl, by first | omega | decide | (subst_vars; assumption)⟩), hE.symm, trivial⟩, ht⟩) (fun q hq => by cases hq) dX12_canBe_75
    · replace hE := (hE).trans (if_neg (by first | decide | (intro h9; have h8 := congrArg Int32.toInt h9; omega)))
      rw [← hQ]
      exact W.zret (v := 0) hx hb hr (by decide +kernel) (fun t ht hW => ⟨_, rfl, ⟨(by first | exact Or.inr (rfl)), hE.symm, trivial⟩, ht⟩) (fun q hq => by cases hq) dX12_canBe_75
  · replace hE := (((((hE).trans (if_neg (by first | omega | (rw [rfl]; omega)))).trans (if_neg (by first | omega | (rw [rfl]; omega)))).trans (if_neg (by first | omega | (rw [rfl]; omega)))).trans (if_neg (by first | omega | (rw [rfl]; omega)))).trans (if_neg (by first | omega | (rw [rfl]; omega)))
    refine lv_tableOut (tgt := 76) hx hb dX12_canBe_1 (by omega) (by decide +kernel) ?_
    refine lv_iload_n hx hb dX12_canBe_76 rfl (lv_at hl 0 rfl) ?_
    refine lv_iconst (v := 5) hx hb dX12_canBe_77 (by decide +kernel) ?_
    refine lv_icmp_ne (tgt := 97) hx hb dX12_canBe_78 (by decide +kernel) (fun c_172 => ?_) (fun c_172 => ?_)
    · have c_172i := i_ne (x := x.toInt) (y := 5) rfl rfl c_172
      replace hE := hE.trans (if_neg c_172)
      refine lv_iconst (v := 0) hx hb dX12_canBe_97 (by decide +kernel) ?_
      rw [← hQ]
      exact W.zret (v := 0) hx hb hr (by decide +kernel) (fun t ht hW => ⟨_, rfl, ⟨(by first | exact Or.inr (rfl)), hE.symm, trivial⟩, ht⟩) (fun q hq => by cases hq) dX12_canBe_98
    · have c_172i := i_eq (x := x.toInt) (y := 5) rfl rfl c_172
      replace hE := hE.trans (if_pos c_172)
      refine lv_iload_n hx hb dX12_canBe_81 rfl (lv_at hl 1 rfl) ?_
      refine lv_i2l hx hb dX12_canBe_82 rfl ?_
      refine lv_topl (fun x_173 ex_173 => ?_)
      replace hE := hE.trans (Lt_in ex_173)
      have hx_173 : x_173.toInt = y.toInt := by rw [ex_173]; exact i_wide rfl
      have hbx_173 := i_rng (a := y) rfl
      refine lv_lconst (v := 0) hx hb dX12_canBe_83 (by decide +kernel) ?_
      refine lv_ldc2 (v := 9) hx hb hown (hts _ mm_X12_canBe_1046) dX12_canBe_84 ?_
      refine pci (va_runS (As := [.long x_173, .long 0, .long 9]) (rest := []) ⟨hx, hb, hml, hown, hts⟩ (v_in l D K y.toInt 0 9 x_173 0 9 s.heap.size hx_173 (show (0 : Int64).toInt = 0 from rfl) (show (9 : Int64).toInt = 9 from rfl)) (va_cwS 3 hts gX12_canBe_X12_in rfl rfl rfl (by decide +kernel) ⟨Nat.le_of_ble_eq_true rfl, Nat.le_of_ble_eq_true rfl⟩) (mkS hK hN (va_P.nil) (va_D.nil (A := fun _ => True))) rfl rfl hl.1 rfl (lv_room (Nat.le_of_ble_eq_true rfl)) dX12_canBe_87 ⟨Nat.le_of_ble_eq_true rfl, Nat.le_of_ble_eq_true rfl⟩) (fun r_174 hw => ?_)
      obtain ⟨hw, k_175, -⟩ := hw
      replace hE := hE.trans (Lt_in k_175)
      rcases hw with ⟨rfl, h_176, h_177⟩ | ⟨rfl, h_178⟩
      · replace hE := (hE).trans (if_pos rfl)
        refine lv_if_eq (tgt := 97) hx hb dX12_canBe_90 (by decide +kernel) (fun c_179 => absurd c_179 (by decide +kernel)) (fun c_179 => ?_)
        refine lv_iconst (v := 1) hx hb dX12_canBe_93 (by decide +kernel) ?_
        refine lv_goto (tgt := 98) hx hb dX12_canBe_94 (by decide +kernel) ?_
        rw [← hQ]
        exact W.zret (v := 1) hx hb hr (by decide +kernel) (fun t ht hW => ⟨_, rfl, ⟨(by first | exact Or.inl ⟨rfl, by first | omega | decide | (subst_vars; assumption)⟩), hE.symm, trivial⟩, ht⟩) (fun q hq => by cases hq) dX12_canBe_98
      · replace hE := (hE).trans (if_neg (by first | decide | (intro h9; have h8 := congrArg Int32.toInt h9; omega)))
        refine lv_if_eq (tgt := 97) hx hb dX12_canBe_90 (by decide +kernel) (fun c_180 => ?_) (fun c_180 => absurd (by decide +kernel) c_180)
        refine lv_iconst (v := 0) hx hb dX12_canBe_97 (by decide +kernel) ?_
        rw [← hQ]
        exact W.zret (v := 0) hx hb hr (by decide +kernel) (fun t ht hW => ⟨_, rfl, ⟨(by first | exact Or.inr (rfl)), hE.symm, trivial⟩, ht⟩) (fun q hq => by cases hq) dX12_canBe_98
