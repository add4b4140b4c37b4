theorem dfv_X0 : ∀ j, j < 2 → defaultValue (tyX0 j) = vp_V [.null, .null] j := by decide +kernel
theorem dfv_X1 : ∀ j, j < 8 → defaultValue (tyX1 j) = vp_V [.null, .null, .null, .null, .null, .int 0, .int 0, .int 0] j := by decide +kernel
theorem dfv_X2 : ∀ j, j < 3 → defaultValue (tyX2 j) = vp_V [.null, .int 0, .int 0] j := by decide +kernel
theorem dfv_X3 : ∀ j, j < 2 → defaultValue (tyX3 j) = vp_V [.null, .int 0] j := by decide +kernel
theorem dfv_X4 : ∀ j, j < 5 → defaultValue (tyX4 j) = vp_V [.null, .null, .null, .null, .null] j := by decide +kernel
theorem dfv_X5 : ∀ j, j < 6 → defaultValue (tyX5 j) = vp_V [.null, .null, .null, .null, .null, .null] j := by decide +kernel
theorem dfv_X6 : ∀ j, j < 5 → defaultValue (tyX6 j) = vp_V [.null, .null, .int 0, .int 0, .int 0] j := by decide +kernel
theorem dfv_X7 : ∀ j, j < 4 → defaultValue (tyX7 j) = vp_V [.null, .null, .int 0, .int 0] j := by decide +kernel
theorem dfv_X8 : ∀ j, j < 6 → defaultValue (tyX8 j) = vp_V [.null, .int 0, .int 0, .int 0, .int 0, .int 0] j := by decide +kernel
theorem dfv_X9 : ∀ j, j < 10 → defaultValue (tyX9 j) = vp_V [.null, .null, .null, .null, .int 0, .int 0, .int 0, .int 0, .int 0, .int 0] j := by decide +kernel
theorem dfv_X10 : ∀ j, j < 1 → defaultValue (tyX10 j) = vp_V [.null] j := by decide +kernel
theorem dfv_X11 : ∀ j, j < 17 → defaultValue (tyX11 j) = vp_V [.null, .null, .null, .null, .null, .null, .null, .null, .null, .null, .null, .null, .null, .int 0, .int 0, .int 0, .int 0] j := by decide +kernel
theorem dfv_X12 : ∀ j, j < 60 → defaultValue (tyX12 j) = vp_V [.int 0, .int 0, .null, .null, .null, .null, .null, .null, .int 0, .null, .null, .int 0, .null, .int 0, .int 0, .int 0, .int 0, .long 0, .int 0, .int 0, .int 0, .int 0, .null, .int 0, .null, .null, .int 0, .null, .null, .int 0, .int 0, .null, .null, .null, .int 0, .null, .null, .null, .int 0, .long 0, .long 0, .null, .null, .null, .null, .null, .null, .null, .null, .null, .null, .null, .int 0, .int 0, .int 0, .int 0, .long 0, .null, .int 0, .int 0] j := by decide +kernel
theorem BX11_within_0 : bsegs (ByteArray.data cX11_within |>.toList.drop 0) 0 [(0, [26]), (1, [27]), (2, [161, 0, 12]), (5, [26]), (6, [28]), (7, [163, 0, 7]), (10, [4]), (11, [167, 0, 4]), (14, [3]), (15, [172])] = true := by decide +kernel
theorem dX11_within_0 : decode cX11_within 0 = .ok (.iload_n 0, 1) := dk_26 (bs_at BX11_within_0 0 rfl)
theorem dX11_within_1 : decode cX11_within 1 = .ok (.iload_n 1, 1) := dk_27 (bs_at BX11_within_0 1 rfl)
theorem dX11_within_2 : decode cX11_within 2 = .ok (.if_icmp .lt 12, 3) := dk_161 0 12 (bs_at BX11_within_0 2 rfl) rfl
theorem dX11_within_5 : decode cX11_within 5 = .ok (.iload_n 0, 1) := dk_26 (bs_at BX11_within_0 3 rfl)
theorem dX11_within_6 : decode cX11_within 6 = .ok (.iload_n 2, 1) := dk_28 (bs_at BX11_within_0 4 rfl)
theorem dX11_within_7 : decode cX11_within 7 = .ok (.if_icmp .gt 7, 3) := dk_163 0 7 (bs_at BX11_within_0 5 rfl) rfl
theorem dX11_within_10 : decode cX11_within 10 = .ok (.iconst 1, 1) := dk_4 (bs_at BX11_within_0 6 rfl)
theorem dX11_within_11 : decode cX11_within 11 = .ok (.goto 4, 3) := dk_167 0 4 (bs_at BX11_within_0 7 rfl) rfl
theorem dX11_within_14 : decode cX11_within 14 = .ok (.iconst 0, 1) := dk_3 (bs_at BX11_within_0 8 rfl)
theorem dX11_within_15 : decode cX11_within 15 = .ok (.ireturn, 1) := dk_172 (bs_at BX11_within_0 9 rfl)
theorem BX11_accept_0 : bsegs (ByteArray.data cX11_accept |>.toList.drop 0) 0 [(0, [42]), (1, [3]), (2, [181, 0, 83]), (5, [27]), (6, [172])] = true := by decide +kernel
theorem dX11_accept_0 : decode cX11_accept 0 = .ok (.aload_n 0, 1) := dk_42 (bs_at BX11_accept_0 0 rfl)
theorem dX11_accept_1 : decode cX11_accept 1 = .ok (.iconst 0, 1) := dk_3 (bs_at BX11_accept_0 1 rfl)
theorem dX11_accept_2 : decode cX11_accept 2 = .ok (.putfield 83, 3) := dk_181 0 83 (bs_at BX11_accept_0 2 rfl) rfl
theorem dX11_accept_5 : decode cX11_accept 5 = .ok (.iload_n 1, 1) := dk_27 (bs_at BX11_accept_0 3 rfl)
theorem dX11_accept_6 : decode cX11_accept 6 = .ok (.ireturn, 1) := dk_172 (bs_at BX11_accept_0 4 rfl)
theorem BX11_refuse_0 : bsegs (ByteArray.data cX11_refuse |>.toList.drop 0) 0 [(0, [27]), (1, [16, 252]), (3, [164, 0, 10]), (6, [27]), (7, [116]), (8, [4]), (9, [100]), (10, [167, 0, 7]), (13, [27]), (14, [116]), (15, [5]), (16, [100]), (17, [61]), (18, [28]), (19, [3]), (20, [42]), (21, [180, 0, 79]), (24, [190]), (25, [4]), (26, [100]), (27, [184, 0, 97]), (30, [153, 0, 13]), (33, [42]), (34, [180, 0, 79])] = true := by decide +kernel
theorem dX11_refuse_0 : decode cX11_refuse 0 = .ok (.iload_n 1, 1) := dk_27 (bs_at BX11_refuse_0 0 rfl)
theorem dX11_refuse_1 : decode cX11_refuse 1 = .ok (.bipush (-4), 2) := dk_16 252 (bs_at BX11_refuse_0 1 rfl) rfl
theorem dX11_refuse_3 : decode cX11_refuse 3 = .ok (.if_icmp .le 10, 3) := dk_164 0 10 (bs_at BX11_refuse_0 2 rfl) rfl
theorem dX11_refuse_6 : decode cX11_refuse 6 = .ok (.iload_n 1, 1) := dk_27 (bs_at BX11_refuse_0 3 rfl)
theorem dX11_refuse_7 : decode cX11_refuse 7 = .ok (.ineg, 1) := dk_116 (bs_at BX11_refuse_0 4 rfl)
theorem dX11_refuse_8 : decode cX11_refuse 8 = .ok (.iconst 1, 1) := dk_4 (bs_at BX11_refuse_0 5 rfl)
theorem dX11_refuse_9 : decode cX11_refuse 9 = .ok (.isub, 1) := dk_100 (bs_at BX11_refuse_0 6 rfl)
theorem dX11_refuse_10 : decode cX11_refuse 10 = .ok (.goto 7, 3) := dk_167 0 7 (bs_at BX11_refuse_0 7 rfl) rfl
theorem dX11_refuse_13 : decode cX11_refuse 13 = .ok (.iload_n 1, 1) := dk_27 (bs_at BX11_refuse_0 8 rfl)
theorem dX11_refuse_14 : decode cX11_refuse 14 = .ok (.ineg, 1) := dk_116 (bs_at BX11_refuse_0 9 rfl)
theorem dX11_refuse_15 : decode cX11_refuse 15 = .ok (.iconst 2, 1) := dk_5 (bs_at BX11_refuse_0 10 rfl)
theorem dX11_refuse_16 : decode cX11_refuse 16 = .ok (.isub, 1) := dk_100 (bs_at BX11_refuse_0 11 rfl)
theorem dX11_refuse_17 : decode cX11_refuse 17 = .ok (.istore_n 2, 1) := dk_61 (bs_at BX11_refuse_0 12 rfl)
theorem dX11_refuse_18 : decode cX11_refuse 18 = .ok (.iload_n 2, 1) := dk_28 (bs_at BX11_refuse_0 13 rfl)
theorem dX11_refuse_19 : decode cX11_refuse 19 = .ok (.iconst 0, 1) := dk_3 (bs_at BX11_refuse_0 14 rfl)
theorem dX11_refuse_20 : decode cX11_refuse 20 = .ok (.aload_n 0, 1) := dk_42 (bs_at BX11_refuse_0 15 rfl)
theorem dX11_refuse_21 : decode cX11_refuse 21 = .ok (.getfield 79, 3) := dk_180 0 79 (bs_at BX11_refuse_0 16 rfl) rfl
theorem dX11_refuse_24 : decode cX11_refuse 24 = .ok (.arraylength, 1) := dk_190 (bs_at BX11_refuse_0 17 rfl)
theorem dX11_refuse_25 : decode cX11_refuse 25 = .ok (.iconst 1, 1) := dk_4 (bs_at BX11_refuse_0 18 rfl)
theorem dX11_refuse_26 : decode cX11_refuse 26 = .ok (.isub, 1) := dk_100 (bs_at BX11_refuse_0 19 rfl)
theorem dX11_refuse_27 : decode cX11_refuse 27 = .ok (.invokestatic 97, 3) := dk_184 0 97 (bs_at BX11_refuse_0 20 rfl) rfl
theorem dX11_refuse_30 : decode cX11_refuse 30 = .ok (.ifCond .eq 13, 3) := dk_153 0 13 (bs_at BX11_refuse_0 21 rfl) rfl
theorem dX11_refuse_33 : decode cX11_refuse 33 = .ok (.aload_n 0, 1) := dk_42 (bs_at BX11_refuse_0 22 rfl)
theorem dX11_refuse_34 : decode cX11_refuse 34 = .ok (.getfield 79, 3) := dk_180 0 79 (bs_at BX11_refuse_0 23 rfl) rfl
theorem BX11_refuse_37 : bsegs (ByteArray.data cX11_refuse |>.toList.drop 37) 37 [(37, [28]), (38, [92]), (39, [46]), (40, [4]), (41, [96]), (42, [79]), (43, [42]), (44, [27]), (45, [181, 0, 83]), (48, [27]), (49, [172])] = true := by decide +kernel
theorem dX11_refuse_37 : decode cX11_refuse 37 = .ok (.iload_n 2, 1) := dk_28 (bs_at BX11_refuse_37 0 rfl)
theorem dX11_refuse_38 : decode cX11_refuse 38 = .ok (.dup2, 1) := dk_92 (bs_at BX11_refuse_37 1 rfl)
theorem dX11_refuse_39 : decode cX11_refuse 39 = .ok (.iaload, 1) := dk_46 (bs_at BX11_refuse_37 2 rfl)
theorem dX11_refuse_40 : decode cX11_refuse 40 = .ok (.iconst 1, 1) := dk_4 (bs_at BX11_refuse_37 3 rfl)
theorem dX11_refuse_41 : decode cX11_refuse 41 = .ok (.iadd, 1) := dk_96 (bs_at BX11_refuse_37 4 rfl)
theorem dX11_refuse_42 : decode cX11_refuse 42 = .ok (.iastore, 1) := dk_79 (bs_at BX11_refuse_37 5 rfl)
theorem dX11_refuse_43 : decode cX11_refuse 43 = .ok (.aload_n 0, 1) := dk_42 (bs_at BX11_refuse_37 6 rfl)
theorem dX11_refuse_44 : decode cX11_refuse 44 = .ok (.iload_n 1, 1) := dk_27 (bs_at BX11_refuse_37 7 rfl)
theorem dX11_refuse_45 : decode cX11_refuse 45 = .ok (.putfield 83, 3) := dk_181 0 83 (bs_at BX11_refuse_37 8 rfl) rfl
theorem dX11_refuse_48 : decode cX11_refuse 48 = .ok (.iload_n 1, 1) := dk_27 (bs_at BX11_refuse_37 9 rfl)
theorem dX11_refuse_49 : decode cX11_refuse 49 = .ok (.ireturn, 1) := dk_172 (bs_at BX11_refuse_37 10 rfl)
theorem BX2_clear_0 : bsegs (ByteArray.data cX2_clear |>.toList.drop 0) 0 [(0, [42]), (1, [3]), (2, [181, 0, 19]), (5, [177])] = true := by decide +kernel
theorem dX2_clear_0 : decode cX2_clear 0 = .ok (.aload_n 0, 1) := dk_42 (bs_at BX2_clear_0 0 rfl)
theorem dX2_clear_1 : decode cX2_clear 1 = .ok (.iconst 0, 1) := dk_3 (bs_at BX2_clear_0 1 rfl)
theorem dX2_clear_2 : decode cX2_clear 2 = .ok (.putfield 19, 3) := dk_181 0 19 (bs_at BX2_clear_0 2 rfl) rfl
theorem dX2_clear_5 : decode cX2_clear 5 = .ok (.return_, 1) := dk_177 (bs_at BX2_clear_0 3 rfl)
theorem BX2_changing_0 : bsegs (ByteArray.data cX2_changing |>.toList.drop 0) 0 [(0, [26]), (1, [154, 0, 7]), (4, [5]), (5, [167, 0, 14]), (8, [26]), (9, [4]), (10, [160, 0, 7]), (13, [8]), (14, [167, 0, 5]), (17, [16, 6]), (19, [172])] = true := by decide +kernel
theorem dX2_changing_0 : decode cX2_changing 0 = .ok (.iload_n 0, 1) := dk_26 (bs_at BX2_changing_0 0 rfl)
theorem dX2_changing_1 : decode cX2_changing 1 = .ok (.ifCond .ne 7, 3) := dk_154 0 7 (bs_at BX2_changing_0 1 rfl) rfl
theorem dX2_changing_4 : decode cX2_changing 4 = .ok (.iconst 2, 1) := dk_5 (bs_at BX2_changing_0 2 rfl)
theorem dX2_changing_5 : decode cX2_changing 5 = .ok (.goto 14, 3) := dk_167 0 14 (bs_at BX2_changing_0 3 rfl) rfl
theorem dX2_changing_8 : decode cX2_changing 8 = .ok (.iload_n 0, 1) := dk_26 (bs_at BX2_changing_0 4 rfl)
theorem dX2_changing_9 : decode cX2_changing 9 = .ok (.iconst 1, 1) := dk_4 (bs_at BX2_changing_0 5 rfl)
theorem dX2_changing_10 : decode cX2_changing 10 = .ok (.if_icmp .ne 7, 3) := dk_160 0 7 (bs_at BX2_changing_0 6 rfl) rfl
theorem dX2_changing_13 : decode cX2_changing 13 = .ok (.iconst 5, 1) := dk_8 (bs_at BX2_changing_0 7 rfl)
theorem dX2_changing_14 : decode cX2_changing 14 = .ok (.goto 5, 3) := dk_167 0 5 (bs_at BX2_changing_0 8 rfl) rfl
theorem dX2_changing_17 : decode cX2_changing 17 = .ok (.bipush 6, 2) := dk_16 6 (bs_at BX2_changing_0 9 rfl) rfl
theorem dX2_changing_19 : decode cX2_changing 19 = .ok (.ireturn, 1) := dk_172 (bs_at BX2_changing_0 10 rfl)
theorem BX12_in_0 : bsegs (ByteArray.data cX12_in |>.toList.drop 0) 0 [(0, [30]), (1, [32]), (2, [148]), (3, [155, 0, 14]), (6, [30]), (7, [22, 4]), (9, [148]), (10, [157, 0, 7]), (13, [4]), (14, [167, 0, 4]), (17, [3]), (18, [172])] = true := by decide +kernel
theorem dX12_in_0 : decode cX12_in 0 = .ok (.lload_n 0, 1) := dk_30 (bs_at BX12_in_0 0 rfl)
theorem dX12_in_1 : decode cX12_in 1 = .ok (.lload_n 2, 1) := dk_32 (bs_at BX12_in_0 1 rfl)
theorem dX12_in_2 : decode cX12_in 2 = .ok (.lcmp, 1) := dk_148 (bs_at BX12_in_0 2 rfl)
theorem dX12_in_3 : decode cX12_in 3 = .ok (.ifCond .lt 14, 3) := dk_155 0 14 (bs_at BX12_in_0 3 rfl) rfl
theorem dX12_in_6 : decode cX12_in 6 = .ok (.lload_n 0, 1) := dk_30 (bs_at BX12_in_0 4 rfl)
theorem dX12_in_7 : decode cX12_in 7 = .ok (.lload 4, 2) := dk_22 4 (bs_at BX12_in_0 5 rfl)
theorem dX12_in_9 : decode cX12_in 9 = .ok (.lcmp, 1) := dk_148 (bs_at BX12_in_0 6 rfl)
theorem dX12_in_10 : decode cX12_in 10 = .ok (.ifCond .gt 7, 3) := dk_157 0 7 (bs_at BX12_in_0 7 rfl) rfl
theorem dX12_in_13 : decode cX12_in 13 = .ok (.iconst 1, 1) := dk_4 (bs_at BX12_in_0 8 rfl)
theorem dX12_in_14 : decode cX12_in 14 = .ok (.goto 4, 3) := dk_167 0 4 (bs_at BX12_in_0 9 rfl) rfl
theorem dX12_in_17 : decode cX12_in 17 = .ok (.iconst 0, 1) := dk_3 (bs_at BX12_in_0 10 rfl)
theorem dX12_in_18 : decode cX12_in 18 = .ok (.ireturn, 1) := dk_172 (bs_at BX12_in_0 11 rfl)
theorem BX12_tell_0 : bsegs (ByteArray.data cX12_tell |>.toList.drop 0) 0 [(0, [42]), (1, [27]), (2, [156, 0, 7]), (5, [27]), (6, [167, 0, 4]), (9, [3]), (10, [181, 0, 161]), (13, [27]), (14, [156, 0, 14]), (17, [42]), (18, [180, 0, 7]), (21, [27]), (22, [116]), (23, [92]), (24, [46]), (25, [4]), (26, [96]), (27, [79]), (28, [27]), (29, [172])] = true := by decide +kernel
theorem dX12_tell_0 : decode cX12_tell 0 = .ok (.aload_n 0, 1) := dk_42 (bs_at BX12_tell_0 0 rfl)
theorem dX12_tell_1 : decode cX12_tell 1 = .ok (.iload_n 1, 1) := dk_27 (bs_at BX12_tell_0 1 rfl)
theorem dX12_tell_2 : decode cX12_tell 2 = .ok (.ifCond .ge 7, 3) := dk_156 0 7 (bs_at BX12_tell_0 2 rfl) rfl
theorem dX12_tell_5 : decode cX12_tell 5 = .ok (.iload_n 1, 1) := dk_27 (bs_at BX12_tell_0 3 rfl)
theorem dX12_tell_6 : decode cX12_tell 6 = .ok (.goto 4, 3) := dk_167 0 4 (bs_at BX12_tell_0 4 rfl) rfl
theorem dX12_tell_9 : decode cX12_tell 9 = .ok (.iconst 0, 1) := dk_3 (bs_at BX12_tell_0 5 rfl)
theorem dX12_tell_10 : decode cX12_tell 10 = .ok (.putfield 161, 3) := dk_181 0 161 (bs_at BX12_tell_0 6 rfl) rfl
theorem dX12_tell_13 : decode cX12_tell 13 = .ok (.iload_n 1, 1) := dk_27 (bs_at BX12_tell_0 7 rfl)
theorem dX12_tell_14 : decode cX12_tell 14 = .ok (.ifCond .ge 14, 3) := dk_156 0 14 (bs_at BX12_tell_0 8 rfl) rfl
theorem dX12_tell_17 : decode cX12_tell 17 = .ok (.aload_n 0, 1) := dk_42 (bs_at BX12_tell_0 9 rfl)
theorem dX12_tell_18 : decode cX12_tell 18 = .ok (.getfield 7, 3) := dk_180 0 7 (bs_at BX12_tell_0 10 rfl) rfl
theorem dX12_tell_21 : decode cX12_tell 21 = .ok (.iload_n 1, 1) := dk_27 (bs_at BX12_tell_0 11 rfl)
theorem dX12_tell_22 : decode cX12_tell 22 = .ok (.ineg, 1) := dk_116 (bs_at BX12_tell_0 12 rfl)
theorem dX12_tell_23 : decode cX12_tell 23 = .ok (.dup2, 1) := dk_92 (bs_at BX12_tell_0 13 rfl)
theorem dX12_tell_24 : decode cX12_tell 24 = .ok (.iaload, 1) := dk_46 (bs_at BX12_tell_0 14 rfl)
theorem dX12_tell_25 : decode cX12_tell 25 = .ok (.iconst 1, 1) := dk_4 (bs_at BX12_tell_0 15 rfl)
theorem dX12_tell_26 : decode cX12_tell 26 = .ok (.iadd, 1) := dk_96 (bs_at BX12_tell_0 16 rfl)
theorem dX12_tell_27 : decode cX12_tell 27 = .ok (.iastore, 1) := dk_79 (bs_at BX12_tell_0 17 rfl)
theorem dX12_tell_28 : decode cX12_tell 28 = .ok (.iload_n 1, 1) := dk_27 (bs_at BX12_tell_0 18 rfl)
theorem dX12_tell_29 : decode cX12_tell 29 = .ok (.ireturn, 1) := dk_172 (bs_at BX12_tell_0 19 rfl)
theorem BX12_is_0 : bsegs (ByteArray.data cX12_is |>.toList.drop 0) 0 [(0, [26]), (1, [27]), (2, [122]), (3, [4]), (4, [126]), (5, [4]), (6, [160, 0, 7]), (9, [4]), (10, [167, 0, 4]), (13, [3]), (14, [172])] = true := by decide +kernel
theorem dX12_is_0 : decode cX12_is 0 = .ok (.iload_n 0, 1) := dk_26 (bs_at BX12_is_0 0 rfl)
theorem dX12_is_1 : decode cX12_is 1 = .ok (.iload_n 1, 1) := dk_27 (bs_at BX12_is_0 1 rfl)
theorem dX12_is_2 : decode cX12_is 2 = .ok (.ishr, 1) := dk_122 (bs_at BX12_is_0 2 rfl)
theorem dX12_is_3 : decode cX12_is 3 = .ok (.iconst 1, 1) := dk_4 (bs_at BX12_is_0 3 rfl)
theorem dX12_is_4 : decode cX12_is 4 = .ok (.iand, 1) := dk_126 (bs_at BX12_is_0 4 rfl)
theorem dX12_is_5 : decode cX12_is 5 = .ok (.iconst 1, 1) := dk_4 (bs_at BX12_is_0 5 rfl)
theorem dX12_is_6 : decode cX12_is 6 = .ok (.if_icmp .ne 7, 3) := dk_160 0 7 (bs_at BX12_is_0 6 rfl) rfl
theorem dX12_is_9 : decode cX12_is 9 = .ok (.iconst 1, 1) := dk_4 (bs_at BX12_is_0 7 rfl)
theorem dX12_is_10 : decode cX12_is 10 = .ok (.goto 4, 3) := dk_167 0 4 (bs_at BX12_is_0 8 rfl) rfl
theorem dX12_is_13 : decode cX12_is 13 = .ok (.iconst 0, 1) := dk_3 (bs_at BX12_is_0 9 rfl)
theorem dX12_is_14 : decode cX12_is 14 = .ok (.ireturn, 1) := dk_172 (bs_at BX12_is_0 10 rfl)
theorem BX12_four_0 : bsegs (ByteArray.data cX12_four |>.toList.drop 0) 0 [(0, [16, 24]), (2, [61]), (3, [28]), (4, [155, 0, 35]), (7, [42]), (8, [180, 0, 35]), (11, [42]), (12, [180, 0, 227]), (15, [27]), (16, [28]), (17, [122]), (18, [17, 0, 255]), (21, [126]), (22, [79]), (23, [42]), (24, [89]), (25, [180, 0, 227]), (28, [4]), (29, [96]), (30, [181, 0, 227]), (33, [132, 2, 248]), (36, [167, 255, 223]), (39, [177])] = true := by decide +kernel
theorem dX12_four_0 : decode cX12_four 0 = .ok (.bipush 24, 2) := dk_16 24 (bs_at BX12_four_0 0 rfl) rfl
theorem dX12_four_2 : decode cX12_four 2 = .ok (.istore_n 2, 1) := dk_61 (bs_at BX12_four_0 1 rfl)
theorem dX12_four_3 : decode cX12_four 3 = .ok (.iload_n 2, 1) := dk_28 (bs_at BX12_four_0 2 rfl)
theorem dX12_four_4 : decode cX12_four 4 = .ok (.ifCond .lt 35, 3) := dk_155 0 35 (bs_at BX12_four_0 3 rfl) rfl
theorem dX12_four_7 : decode cX12_four 7 = .ok (.aload_n 0, 1) := dk_42 (bs_at BX12_four_0 4 rfl)
theorem dX12_four_8 : decode cX12_four 8 = .ok (.getfield 35, 3) := dk_180 0 35 (bs_at BX12_four_0 5 rfl) rfl
theorem dX12_four_11 : decode cX12_four 11 = .ok (.aload_n 0, 1) := dk_42 (bs_at BX12_four_0 6 rfl)
theorem dX12_four_12 : decode cX12_four 12 = .ok (.getfield 227, 3) := dk_180 0 227 (bs_at BX12_four_0 7 rfl) rfl
theorem dX12_four_15 : decode cX12_four 15 = .ok (.iload_n 1, 1) := dk_27 (bs_at BX12_four_0 8 rfl)
theorem dX12_four_16 : decode cX12_four 16 = .ok (.iload_n 2, 1) := dk_28 (bs_at BX12_four_0 9 rfl)
theorem dX12_four_17 : decode cX12_four 17 = .ok (.ishr, 1) := dk_122 (bs_at BX12_four_0 10 rfl)
theorem dX12_four_18 : decode cX12_four 18 = .ok (.sipush 255, 3) := dk_17 0 255 (bs_at BX12_four_0 11 rfl) rfl
theorem dX12_four_21 : decode cX12_four 21 = .ok (.iand, 1) := dk_126 (bs_at BX12_four_0 12 rfl)
theorem dX12_four_22 : decode cX12_four 22 = .ok (.iastore, 1) := dk_79 (bs_at BX12_four_0 13 rfl)
theorem dX12_four_23 : decode cX12_four 23 = .ok (.aload_n 0, 1) := dk_42 (bs_at BX12_four_0 14 rfl)
theorem dX12_four_24 : decode cX12_four 24 = .ok (.dup, 1) := dk_89 (bs_at BX12_four_0 15 rfl)
theorem dX12_four_25 : decode cX12_four 25 = .ok (.getfield 227, 3) := dk_180 0 227 (bs_at BX12_four_0 16 rfl) rfl
theorem dX12_four_28 : decode cX12_four 28 = .ok (.iconst 1, 1) := dk_4 (bs_at BX12_four_0 17 rfl)
theorem dX12_four_29 : decode cX12_four 29 = .ok (.iadd, 1) := dk_96 (bs_at BX12_four_0 18 rfl)
theorem dX12_four_30 : decode cX12_four 30 = .ok (.putfield 227, 3) := dk_181 0 227 (bs_at BX12_four_0 19 rfl) rfl
theorem dX12_four_33 : decode cX12_four 33 = .ok (.iinc 2 (-8), 3) := dk_132 2 248 (bs_at BX12_four_0 20 rfl) rfl
theorem dX12_four_36 : decode cX12_four 36 = .ok (.goto (-33), 3) := dk_167 255 223 (bs_at BX12_four_0 21 rfl) rfl
theorem dX12_four_39 : decode cX12_four 39 = .ok (.return_, 1) := dk_177 (bs_at BX12_four_0 22 rfl)
theorem BX8_take_0 : bsegs (ByteArray.data cX8_take |>.toList.drop 0) 0 [(0, [16, 24]), (2, [61]), (3, [28]), (4, [155, 0, 45]), (7, [42]), (8, [180, 0, 15]), (11, [17, 1, 144]), (14, [162, 0, 35]), (17, [42]), (18, [180, 0, 11]), (21, [42]), (22, [180, 0, 15]), (25, [27]), (26, [28]), (27, [122]), (28, [17, 0, 255]), (31, [126]), (32, [79]), (33, [42]), (34, [89]), (35, [180, 0, 15]), (38, [4]), (39, [96]), (40, [181, 0, 15])] = true := by decide +kernel
theorem dX8_take_0 : decode cX8_take 0 = .ok (.bipush 24, 2) := dk_16 24 (bs_at BX8_take_0 0 rfl) rfl
theorem dX8_take_2 : decode cX8_take 2 = .ok (.istore_n 2, 1) := dk_61 (bs_at BX8_take_0 1 rfl)
theorem dX8_take_3 : decode cX8_take 3 = .ok (.iload_n 2, 1) := dk_28 (bs_at BX8_take_0 2 rfl)
theorem dX8_take_4 : decode cX8_take 4 = .ok (.ifCond .lt 45, 3) := dk_155 0 45 (bs_at BX8_take_0 3 rfl) rfl
theorem dX8_take_7 : decode cX8_take 7 = .ok (.aload_n 0, 1) := dk_42 (bs_at BX8_take_0 4 rfl)
theorem dX8_take_8 : decode cX8_take 8 = .ok (.getfield 15, 3) := dk_180 0 15 (bs_at BX8_take_0 5 rfl) rfl
theorem dX8_take_11 : decode cX8_take 11 = .ok (.sipush 400, 3) := dk_17 1 144 (bs_at BX8_take_0 6 rfl) rfl
theorem dX8_take_14 : decode cX8_take 14 = .ok (.if_icmp .ge 35, 3) := dk_162 0 35 (bs_at BX8_take_0 7 rfl) rfl
theorem dX8_take_17 : decode cX8_take 17 = .ok (.aload_n 0, 1) := dk_42 (bs_at BX8_take_0 8 rfl)
theorem dX8_take_18 : decode cX8_take 18 = .ok (.getfield 11, 3) := dk_180 0 11 (bs_at BX8_take_0 9 rfl) rfl
theorem dX8_take_21 : decode cX8_take 21 = .ok (.aload_n 0, 1) := dk_42 (bs_at BX8_take_0 10 rfl)
theorem dX8_take_22 : decode cX8_take 22 = .ok (.getfield 15, 3) := dk_180 0 15 (bs_at BX8_take_0 11 rfl) rfl
theorem dX8_take_25 : decode cX8_take 25 = .ok (.iload_n 1, 1) := dk_27 (bs_at BX8_take_0 12 rfl)
theorem dX8_take_26 : decode cX8_take 26 = .ok (.iload_n 2, 1) := dk_28 (bs_at BX8_take_0 13 rfl)
theorem dX8_take_27 : decode cX8_take 27 = .ok (.ishr, 1) := dk_122 (bs_at BX8_take_0 14 rfl)
theorem dX8_take_28 : decode cX8_take 28 = .ok (.sipush 255, 3) := dk_17 0 255 (bs_at BX8_take_0 15 rfl) rfl
theorem dX8_take_31 : decode cX8_take 31 = .ok (.iand, 1) := dk_126 (bs_at BX8_take_0 16 rfl)
theorem dX8_take_32 : decode cX8_take 32 = .ok (.iastore, 1) := dk_79 (bs_at BX8_take_0 17 rfl)
theorem dX8_take_33 : decode cX8_take 33 = .ok (.aload_n 0, 1) := dk_42 (bs_at BX8_take_0 18 rfl)
theorem dX8_take_34 : decode cX8_take 34 = .ok (.dup, 1) := dk_89 (bs_at BX8_take_0 19 rfl)
theorem dX8_take_35 : decode cX8_take 35 = .ok (.getfield 15, 3) := dk_180 0 15 (bs_at BX8_take_0 20 rfl) rfl
theorem dX8_take_38 : decode cX8_take 38 = .ok (.iconst 1, 1) := dk_4 (bs_at BX8_take_0 21 rfl)
theorem dX8_take_39 : decode cX8_take 39 = .ok (.iadd, 1) := dk_96 (bs_at BX8_take_0 22 rfl)
theorem dX8_take_40 : decode cX8_take 40 = .ok (.putfield 15, 3) := dk_181 0 15 (bs_at BX8_take_0 23 rfl) rfl
theorem BX8_take_43 : bsegs (ByteArray.data cX8_take |>.toList.drop 43) 43 [(43, [132, 2, 248]), (46, [167, 255, 213]), (49, [177])] = true := by decide +kernel
theorem dX8_take_43 : decode cX8_take 43 = .ok (.iinc 2 (-8), 3) := dk_132 2 248 (bs_at BX8_take_43 0 rfl) rfl
theorem dX8_take_46 : decode cX8_take 46 = .ok (.goto (-43), 3) := dk_167 255 213 (bs_at BX8_take_43 1 rfl) rfl
theorem dX8_take_49 : decode cX8_take 49 = .ok (.return_, 1) := dk_177 (bs_at BX8_take_43 2 rfl)
theorem ggX11_refuse_X11_within : GoodIn wsX11_refuse wsX11_within := gi_ch ch_X11_refuse ch_X11_within (by decide +kernel)
theorem gX11_refuse_X11_within : GoodIn wsX11_refuse (va_wsS RX11 97 yX11_within wsX11_within) := gi_ch ch_X11_refuse (ch_s [372, 373, 144] rfl ch_X11_within) (by decide +kernel)
set_option maxHeartbeats 4000000 in
set_option maxRecDepth 100000 in
theorem c_within (l : Launch) (D : va_G) (K : Nat → ClassId) (v : Int32) (lo : Int32) (hi : Int32) (V : Int) (LO : Int) (HI : Int) (sz : Nat) (qv : v.toInt = V) (qlo : lo.toInt = LO) (qhi : hi.toInt = HI) : Met l yX11_within wsX11_within ({ frames := 0, cells := 0, slots := 0, locals := 0 }) (va_Pc [.int v, .int lo, .int hi] (Pre D K [] sz)) (vp_Si (fun r : Int32 => (r = 1 ∧ LO ≤ V ∧ V ≤ HI) ∨ (r = 0 ∧ (V < LO ∨ HI < V)))) 0 0 (fun _ => False) := by
  refine Met.ofW (cc := cX11_within) (maxL := 3) (ret := (some .boolean)) (by decide) rfl ?_
  intro p e s m args below meth c s₁ B hml hv
  obtain ⟨rfl, hsz, hP, hK, hD0, hN⟩ := hv
  have hx := B.exec
  have hb := B.bytes
  have hr := B.returns
  have hts := atoms_spec (ws := wsX11_within) B.pre
  have hown : s.vm.findClass RX11 = some m.cls := findClass_of_methodNamed B.named
  have hlocks := B.notSynchronized
  subst hsz
  have hD := hD0
  have hP : va_P D vwCl [] s.heap := hP
  have hl := lv_entry [.int v, .int lo, .int hi] (n := 3) (Nat.le_of_ble_eq_true rfl)
  rw [lg_entry_eq]
  generalize (lg_sl [.int v, .int lo, .int hi] ++ List.replicate (3 - (lg_sl [.int v, .int lo, .int hi]).length) Slot.unset).toArray = ls at hl ⊢
  have hl : lv_has ls 3 [(0, .int v), (1, .int lo), (2, .int hi)] := hl
  refine lv_iload_n hx hb dX11_within_0 rfl (lv_at hl 0 rfl) ?_
  refine lv_iload_n hx hb dX11_within_1 rfl (lv_at hl 1 rfl) ?_
  refine lv_icmp_lt (tgt := 14) hx hb dX11_within_2 (by decide) (fun c_1 => ?_) (fun c_1 => ?_)
  · have c_1i := i_lt (x := V) (y := LO) qv qlo c_1
    refine lv_iconst (v := 0) hx hb dX11_within_14 (by decide) ?_
    exact W.zret (v := 0) hx hb hr (by first | rfl | decide) (fun t ht hW => ⟨_, rfl, (by first | exact Or.inr (⟨rfl, by first | omega | decide | (subst_vars; assumption) | (subst_vars; symm; assumption)⟩)), ht⟩) (fun q hq => by cases hq) dX11_within_15
  · have c_1i := i_nlt (x := V) (y := LO) qv qlo c_1
    refine lv_iload_n hx hb dX11_within_5 rfl (lv_at hl 0 rfl) ?_
    refine lv_iload_n hx hb dX11_within_6 rfl (lv_at hl 2 rfl) ?_
    refine lv_icmp_gt (tgt := 14) hx hb dX11_within_7 (by decide) (fun c_2 => ?_) (fun c_2 => ?_)
    · have c_2i := i_lt (x := HI) (y := V) qhi qv c_2
      refine lv_iconst (v := 0) hx hb dX11_within_14 (by decide) ?_
      exact W.zret (v := 0) hx hb hr (by first | rfl | decide) (fun t ht hW => ⟨_, rfl, (by first | exact Or.inr (⟨rfl, by first | omega | decide | (subst_vars; assumption) | (subst_vars; symm; assumption)⟩)), ht⟩) (fun q hq => by cases hq) dX11_within_15
    · have c_2i := i_nlt (x := HI) (y := V) qhi qv c_2
      refine lv_iconst (v := 1) hx hb dX11_within_10 (by decide) ?_
      refine lv_goto (tgt := 15) hx hb dX11_within_11 (by decide) ?_
      exact W.zret (v := 1) hx hb hr (by first | rfl | decide) (fun t ht hW => ⟨_, rfl, (by first | exact Or.inl (⟨rfl, by first | omega | decide | (subst_vars; assumption) | (subst_vars; symm; assumption), by first | omega | decide | (subst_vars; assumption) | (subst_vars; symm; assumption)⟩)), ht⟩) (fun q hq => by cases hq) dX11_within_15
set_option maxHeartbeats 4000000 in
set_option maxRecDepth 100000 in
theorem c_accept (l : Launch) (D : va_G) (K : Nat → ClassId) (a0 : Nat) (x : Int32) (g0 : Value) (g1 : Value) (g2 : Value) (g3 : Value) (g4 : Value) (g5 : Value) (g6 : Value) (g7 : Value) (g8 : Value) (g9 : Value) (g10 : Value) (g11 : Value) (g12 : Value) (g13 : Value) (g14 : Value) (g15 : Value) (g16 : Value) (sz : Nat) : Met l yX11_accept wsX11_accept ({ frames := 0, cells := 0, slots := 0, locals := 0 }) (va_Pc [.ref a0, .int x] (Pre D K [(a0, .inr (11, [g0, g1, g2, g3, g4, g5, g6, g7, g8, g9, g10, g11, g12, g13, g14, g15, g16]))] sz)) (va_Qi (S := Unit) (fun (r : Int32) (_ : Unit) => (r = x)) (fun u t => Wd D (va_A [(a0, .inr (11, [g0, g1, g2, g3, g4, g5, g6, g7, g8, g9, g10, g11, g12, g13, g14, g15, g16]))] sz) ((fun _ => []) u) t) (va_A [(a0, .inr (11, [g0, g1, g2, g3, g4, g5, g6, g7, g8, g9, g10, g11, g12, g13, g14, g15, g16]))] sz)) 0 0 (va_A [(a0, .inr (11, [g0, g1, g2, g3, g4, g5, g6, g7, g8, g9, g10, g11, g12, g13, g14, g15, g16]))] sz) := by
  refine Met.ofW (cc := cX11_accept) (maxL := 2) (ret := (some .int)) (by decide) rfl ?_
  intro p e s m args below meth c s₁ B hml hv
  obtain ⟨rfl, hsz, hP, hK, hD0, hN⟩ := hv
  have hx := B.exec
  have hb := B.bytes
  have hr := B.returns
  have hts := atoms_spec (ws := wsX11_accept) B.pre
  have hown : s.vm.findClass RX11 = some m.cls := findClass_of_methodNamed B.named
  have hlocks := B.notSynchronized
  subst hsz
  have hD := hD0.self (sz := s.heap.size)
  generalize hAe : va_A [(a0, .inr (11, [g0, g1, g2, g3, g4, g5, g6, g7, g8, g9, g10, g11, g12, g13, g14, g15, g16]))] s.heap.size = A at hD ⊢
  have hA : ∀ q : Nat, s.heap.size ≤ q → A q := fun q h => by rw [← hAe]; exact Or.inr h
  have hS : va_S A s.heap s.heap [] := va_S.rf
  have hP : va_P D vwCl [(a0, .inr (11, [g0, g1, g2, g3, g4, g5, g6, g7, g8, g9, g10, g11, g12, g13, g14, g15, g16]))] s.heap := hP
  have hl := lv_entry [.ref a0, .int x] (n := 2) (Nat.le_of_ble_eq_true rfl)
  rw [lg_entry_eq]
  generalize (lg_sl [.ref a0, .int x] ++ List.replicate (2 - (lg_sl [.ref a0, .int x]).length) Slot.unset).toArray = ls at hl ⊢
  have hl : lv_has ls 2 [(0, .ref a0), (1, .int x)] := hl
  have hw11 : ∀ w ∈ wsX110, w ∈ wsX11_accept := fun w h => (List.mem_cons_of_mem _ (List.mem_append_right _ h))
  refine lv_aload_n hx hb dX11_accept_0 rfl (lv_at hl 0 rfl) ?_
  refine lv_iconst (v := 0) hx hb dX11_accept_1 (by decide) ?_
  refine va_put (ci := 11) (v := .int 0) (ty := .int) (C := RX11) (T := TX11) (N := 17) hx hb hts hw11 tyX11 tyX11_ok nmX11 hown hK hP hD hS 0 rfl rfl 13 (by decide) (hts (.fieldLink RX11 83 "SmokeTune" "refusedBy" "I") (List.mem_cons_of_mem _ (List.mem_append_left _ (List.mem_of_getElem? (i := 0) rfl)))) (fun _ h9 => h9) rfl (by decide +kernel) (by first | rfl | decide) (by first | rfl | decide) (Nat.le_of_ble_eq_true rfl) dX11_accept_2 (fun H locs hP hD hS => ?_)
  have hP : va_P D vwCl [(a0, .inr (11, [g0, g1, g2, g3, g4, g5, g6, g7, g8, g9, g10, g11, g12, .int 0, g14, g15, g16]))] H := hP
  have hD : va_D A [(a0, .inr (11, [g0, g1, g2, g3, g4, g5, g6, g7, g8, g9, g10, g11, g12, .int 0, g14, g15, g16]))] := hD
  refine lv_iload_n hx hb dX11_accept_5 rfl (lv_at hl 1 rfl) ?_
  exact W.iret (v := x) hx hb hr (fun t ht hW => ⟨⟨x, (), rfl, (by first | exact rfl), Wd.nil⟩, hS.F ht⟩) hS.2.2 dX11_accept_6
set_option maxHeartbeats 4000000 in
set_option maxRecDepth 100000 in
theorem c_refuse_1 (l : Launch) (D : va_G) (K : Nat → ClassId) (a0 : Nat) (g0 : Value) (g1 : Value) (g2 : Value) (g3 : Value) (g4 : Value) (g5 : Value) (g6 : Value) (g7 : Value) (g8 : Value) (g9 : Value) (g10 : Value) (g11 : Value) (a1 : Nat) (g13 : Value) (g14 : Value) (g15 : Value) (g16 : Value) (f : Nat → Int32) (sz : Nat) : Met l yX11_refuse wsX11_refuse ({ frames := 1, cells := 0, slots := 0, locals := 22 }) (va_Pc [.ref a0, .int (-1)] (Pre D K [(a0, .inr (11, [g0, g1, g2, g3, g4, g5, g6, g7, g8, g9, g10, g11, .ref a1, g13, g14, g15, g16])), (a1, .inl (K 0, 5, .inl f))] sz)) (va_Qi (S := Unit) (fun (r : Int32) (_ : Unit) => (r = (-1))) (fun u t => Wd D (va_A [(a0, .inr (11, [g0, g1, g2, g3, g4, g5, g6, g7, g8, g9, g10, g11, .ref a1, g13, g14, g15, g16])), (a1, .inl (K 0, 5, .inl f))] sz) ((fun _ => []) u) t) (va_A [(a0, .inr (11, [g0, g1, g2, g3, g4, g5, g6, g7, g8, g9, g10, g11, .ref a1, g13, g14, g15, g16])), (a1, .inl (K 0, 5, .inl f))] sz)) 0 0 (va_A [(a0, .inr (11, [g0, g1, g2, g3, g4, g5, g6, g7, g8, g9, g10, g11, .ref a1, g13, g14, g15, g16])), (a1, .inl (K 0, 5, .inl f))] sz) := by
  refine Met.ofW (cc := cX11_refuse) (maxL := 3) (ret := (some .int)) (by decide) rfl ?_
  intro p e s m args below meth c s₁ B hml hv
  obtain ⟨rfl, hsz, hP, hK, hD0, hN⟩ := hv
  have hx := B.exec
  have hb := B.bytes
  have hr := B.returns
  have hts := atoms_spec (ws := wsX11_refuse) B.pre
  have hown : s.vm.findClass RX11 = some m.cls := findClass_of_methodNamed B.named
  have hlocks := B.notSynchronized
  subst hsz
  have hD := hD0.self (sz := s.heap.size)
  generalize hAe : va_A [(a0, .inr (11, [g0, g1, g2, g3, g4, g5, g6, g7, g8, g9, g10, g11, .ref a1, g13, g14, g15, g16])), (a1, .inl (K 0, 5, .inl f))] s.heap.size = A at hD ⊢
  have hA : ∀ q : Nat, s.heap.size ≤ q → A q := fun q h => by rw [← hAe]; exact Or.inr h
  have hS : va_S A s.heap s.heap [] := va_S.rf
  have hP : va_P D vwCl [(a0, .inr (11, [g0, g1, g2, g3, g4, g5, g6, g7, g8, g9, g10, g11, .ref a1, g13, g14, g15, g16])), (a1, .inl (K 0, 5, .inl f))] s.heap := hP
  have hl := lv_entry [.ref a0, .int (-1)] (n := 3) (Nat.le_of_ble_eq_true rfl)
  rw [lg_entry_eq]
  generalize (lg_sl [.ref a0, .int (-1)] ++ List.replicate (3 - (lg_sl [.ref a0, .int (-1)]).length) Slot.unset).toArray = ls at hl ⊢
  have hl : lv_has ls 3 [(0, .ref a0), (1, .int (-1))] := hl
  have hw11 : ∀ w ∈ wsX110, w ∈ wsX11_refuse := fun w h => (List.mem_cons_of_mem _ (List.mem_append_right _ h))
  refine lv_iload_n hx hb dX11_refuse_0 rfl (lv_at hl 1 rfl) ?_
  refine lv_bipush (v := (-4)) hx hb dX11_refuse_1 (by decide) ?_
  refine lv_icmp_le (tgt := 13) hx hb dX11_refuse_3 (by decide) (fun c_1 => absurd c_1 (by decide)) (fun c_1 => ?_)
  refine lv_iload_n hx hb dX11_refuse_6 rfl (lv_at hl 1 rfl) ?_
  refine lv_ineg hx hb dX11_refuse_7 ?_
  refine lv_topi (fun x_2 ex_2 => ?_)
  obtain rfl : x_2 = 1 := ex_2.trans (by first | rfl | decide)
  refine lv_iconst (v := 1) hx hb dX11_refuse_8 (by decide) ?_
  refine lv_isub hx hb dX11_refuse_9 ?_
  refine lv_topi (fun x_3 ex_3 => ?_)
  obtain rfl : x_3 = 0 := ex_3.trans (by first | rfl | decide)
  refine lv_goto (tgt := 17) hx hb dX11_refuse_10 (by decide) ?_
  refine lv_istore_n (lv' := [(2, .int 0), (0, .ref a0), (1, .int (-1))]) hx hb dX11_refuse_17 rfl hl (by decide) rfl (fun ls hl => ?_)
  refine lv_iload_n hx hb dX11_refuse_18 rfl (lv_at hl 0 rfl) ?_
  refine lv_iconst (v := 0) hx hb dX11_refuse_19 (by decide) ?_
  refine lv_aload_n hx hb dX11_refuse_20 rfl (lv_at hl 1 rfl) ?_
  refine va_get (ci := 11) (v := .ref a1) (C := RX11) (T := TX11) (N := 17) hx hb hts hw11 hown hK hP 0 rfl rfl 12 (by decide) (hts (.fieldLink RX11 79 "SmokeTune" "refusals" "[I") (List.mem_cons_of_mem _ (List.mem_append_left _ (List.mem_of_getElem? (i := 0) rfl)))) (fun _ h9 => h9) rfl dX11_refuse_21 ?_
  refine va_alen (v := 5) hx hb hK hP 1 0 rfl rfl rfl dX11_refuse_24 ?_
  refine lv_iconst (v := 1) hx hb dX11_refuse_25 (by decide) ?_
  refine lv_isub hx hb dX11_refuse_26 ?_
  refine lv_topi (fun x_4 ex_4 => ?_)
  obtain rfl : x_4 = 4 := ex_4.trans (by first | rfl | decide)
  refine pci (va_runS (As := [.int 0, .int 0, .int 4]) (rest := []) ⟨hx, hb, hml, hown, hts⟩ (c_within l D K 0 0 4 0 0 4 s.heap.size rfl rfl rfl) (va_cwS 3 hts gX11_refuse_X11_within rfl rfl rfl (by decide +kernel) ⟨Nat.le_of_ble_eq_true rfl, Nat.le_of_ble_eq_true rfl⟩) (mkS hK hN (hP.sub [] rfl) (hD.sub [] (by decide) rfl)) rfl rfl hl.1 rfl (lv_room (Nat.le_of_ble_eq_true rfl)) dX11_refuse_27 ⟨Nat.le_of_ble_eq_true rfl, Nat.le_of_ble_eq_true rfl⟩) (fun r_5 hw => ?_)
  rcases hw with ⟨rfl, h_6, h_7⟩ | ⟨rfl, h_8⟩
  · refine lv_if_eq (tgt := 43) hx hb dX11_refuse_30 (by decide) (fun c_9 => absurd c_9 (by decide)) (fun c_9 => ?_)
    refine lv_aload_n hx hb dX11_refuse_33 rfl (lv_at hl 1 rfl) ?_
    refine va_get (ci := 11) (v := .ref a1) (C := RX11) (T := TX11) (N := 17) hx hb hts hw11 hown hK hP 0 rfl rfl 12 (by decide) (hts (.fieldLink RX11 79 "SmokeTune" "refusals" "[I") (List.mem_cons_of_mem _ (List.mem_append_left _ (List.mem_of_getElem? (i := 0) rfl)))) (fun _ h9 => h9) rfl dX11_refuse_34 ?_
    refine lv_iload_n hx hb dX11_refuse_37 rfl (lv_at hl 0 rfl) ?_
    refine lv_dup2_11 hx hb dX11_refuse_38 rfl rfl ?_
    refine va_iald hx hb hK hP 1 0 rfl rfl (i_in (x := 0) rfl (by omega)) dX11_refuse_39 ?_
    refine lv_topi (fun x_10 ex_10 => ?_)
    refine lv_iconst (v := 1) hx hb dX11_refuse_40 (by decide) ?_
    refine lv_iadd hx hb dX11_refuse_41 ?_
    refine lv_topi (fun x_11 ex_11 => ?_)
    refine va_iast hx hb hK hP hD hS 1 0 rfl rfl (i_in (x := 0) rfl (by omega)) dX11_refuse_42 (fun H locs hP hD hS => ?_)
    generalize hf_12 : (upd f (0 : Int32).toNatClampNeg x_11) = f_12 at hP hD
    have hP : va_P D vwCl [(a0, .inr (11, [g0, g1, g2, g3, g4, g5, g6, g7, g8, g9, g10, g11, .ref a1, g13, g14, g15, g16])), (a1, .inl (K 0, 5, .inl f_12))] H := hP
    have hD : va_D A [(a0, .inr (11, [g0, g1, g2, g3, g4, g5, g6, g7, g8, g9, g10, g11, .ref a1, g13, g14, g15, g16])), (a1, .inl (K 0, 5, .inl f_12))] := hD
    refine lv_aload_n hx hb dX11_refuse_43 rfl (lv_at hl 1 rfl) ?_
    refine lv_iload_n hx hb dX11_refuse_44 rfl (lv_at hl 2 rfl) ?_
    refine va_put (ci := 11) (v := .int (-1)) (ty := .int) (C := RX11) (T := TX11) (N := 17) hx hb hts hw11 tyX11 tyX11_ok nmX11 hown hK hP hD hS 0 rfl rfl 13 (by decide) (hts (.fieldLink RX11 83 "SmokeTune" "refusedBy" "I") (List.mem_cons_of_mem _ (List.mem_append_left _ (List.mem_of_getElem? (i := 1) rfl)))) (fun _ h9 => h9) rfl (by decide +kernel) (by first | rfl | decide) (by first | rfl | decide) (Nat.le_of_ble_eq_true rfl) dX11_refuse_45 (fun H locs hP hD hS => ?_)
    have hP : va_P D vwCl [(a0, .inr (11, [g0, g1, g2, g3, g4, g5, g6, g7, g8, g9, g10, g11, .ref a1, .int (-1), g14, g15, g16])), (a1, .inl (K 0, 5, .inl f_12))] H := hP
    have hD : va_D A [(a0, .inr (11, [g0, g1, g2, g3, g4, g5, g6, g7, g8, g9, g10, g11, .ref a1, .int (-1), g14, g15, g16])), (a1, .inl (K 0, 5, .inl f_12))] := hD
    refine lv_iload_n hx hb dX11_refuse_48 rfl (lv_at hl 2 rfl) ?_
    exact W.iret (v := (-1)) hx hb hr (fun t ht hW => ⟨⟨(-1), (), rfl, (by first | exact rfl), Wd.nil⟩, hS.F ht⟩) hS.2.2 dX11_refuse_49
  · exfalso; omega
set_option maxHeartbeats 4000000 in
set_option maxRecDepth 100000 in
theorem c_refuse_2 (l : Launch) (D : va_G) (K : Nat → ClassId) (a0 : Nat) (g0 : Value) (g1 : Value) (g2 : Value) (g3 : Value) (g4 : Value) (g5 : Value) (g6 : Value) (g7 : Value) (g8 : Value) (g9 : Value) (g10 : Value) (g11 : Value) (a1 : Nat) (g13 : Value) (g14 : Value) (g15 : Value) (g16 : Value) (f : Nat → Int32) (sz : Nat) : Met l yX11_refuse wsX11_refuse ({ frames := 1, cells := 0, slots := 0, locals := 22 }) (va_Pc [.ref a0, .int (-2)] (Pre D K [(a0, .inr (11, [g0, g1, g2, g3, g4, g5, g6, g7, g8, g9, g10, g11, .ref a1, g13, g14, g15, g16])), (a1, .inl (K 0, 5, .inl f))] sz)) (va_Qi (S := Unit) (fun (r : Int32) (_ : Unit) => (r = (-2))) (fun u t => Wd D (va_A [(a0, .inr (11, [g0, g1, g2, g3, g4, g5, g6, g7, g8, g9, g10, g11, .ref a1, g13, g14, g15, g16])), (a1, .inl (K 0, 5, .inl f))] sz) ((fun _ => []) u) t) (va_A [(a0, .inr (11, [g0, g1, g2, g3, g4, g5, g6, g7, g8, g9, g10, g11, .ref a1, g13, g14, g15, g16])), (a1, .inl (K 0, 5, .inl f))] sz)) 0 0 (va_A [(a0, .inr (11, [g0, g1, g2, g3, g4, g5, g6, g7, g8, g9, g10, g11, .ref a1, g13, g14, g15, g16])), (a1, .inl (K 0, 5, .inl f))] sz) := by
  refine Met.ofW (cc := cX11_refuse) (maxL := 3) (ret := (some .int)) (by decide) rfl ?_
  intro p e s m args below meth c s₁ B hml hv
  obtain ⟨rfl, hsz, hP, hK, hD0, hN⟩ := hv
  have hx := B.exec
  have hb := B.bytes
  have hr := B.returns
  have hts := atoms_spec (ws := wsX11_refuse) B.pre
  have hown : s.vm.findClass RX11 = some m.cls := findClass_of_methodNamed B.named
  have hlocks := B.notSynchronized
  subst hsz
  have hD := hD0.self (sz := s.heap.size)
  generalize hAe : va_A [(a0, .inr (11, [g0, g1, g2, g3, g4, g5, g6, g7, g8, g9, g10, g11, .ref a1, g13, g14, g15, g16])), (a1, .inl (K 0, 5, .inl f))] s.heap.size = A at hD ⊢
  have hA : ∀ q : Nat, s.heap.size ≤ q → A q := fun q h => by rw [← hAe]; exact Or.inr h
  have hS : va_S A s.heap s.heap [] := va_S.rf
  have hP : va_P D vwCl [(a0, .inr (11, [g0, g1, g2, g3, g4, g5, g6, g7, g8, g9, g10, g11, .ref a1, g13, g14, g15, g16])), (a1, .inl (K 0, 5, .inl f))] s.heap := hP
  have hl := lv_entry [.ref a0, .int (-2)] (n := 3) (Nat.le_of_ble_eq_true rfl)
  rw [lg_entry_eq]
  generalize (lg_sl [.ref a0, .int (-2)] ++ List.replicate (3 - (lg_sl [.ref a0, .int (-2)]).length) Slot.unset).toArray = ls at hl ⊢
  have hl : lv_has ls 3 [(0, .ref a0), (1, .int (-2))] := hl
  have hw11 : ∀ w ∈ wsX110, w ∈ wsX11_refuse := fun w h => (List.mem_cons_of_mem _ (List.mem_append_right _ h))
  refine lv_iload_n hx hb dX11_refuse_0 rfl (lv_at hl 1 rfl) ?_
  refine lv_bipush (v := (-4)) hx hb dX11_refuse_1 (by decide) ?_
  refine lv_icmp_le (tgt := 13) hx hb dX11_refuse_3 (by decide) (fun c_1 => absurd c_1 (by decide)) (fun c_1 => ?_)
  refine lv_iload_n hx hb dX11_refuse_6 rfl (lv_at hl 1 rfl) ?_
  refine lv_ineg hx hb dX11_refuse_7 ?_
  refine lv_topi (fun x_2 ex_2 => ?_)
  obtain rfl : x_2 = 2 := ex_2.trans (by first | rfl | decide)
  refine lv_iconst (v := 1) hx hb dX11_refuse_8 (by decide) ?_
  refine lv_isub hx hb dX11_refuse_9 ?_
  refine lv_topi (fun x_3 ex_3 => ?_)
  obtain rfl : x_3 = 1 := ex_3.trans (by first | rfl | decide)
  refine lv_goto (tgt := 17) hx hb dX11_refuse_10 (by decide) ?_
  refine lv_istore_n (lv' := [(2, .int 1), (0, .ref a0), (1, .int (-2))]) hx hb dX11_refuse_17 rfl hl (by decide) rfl (fun ls hl => ?_)
  refine lv_iload_n hx hb dX11_refuse_18 rfl (lv_at hl 0 rfl) ?_
  refine lv_iconst (v := 0) hx hb dX11_refuse_19 (by decide) ?_
  refine lv_aload_n hx hb dX11_refuse_20 rfl (lv_at hl 1 rfl) ?_
  refine va_get (ci := 11) (v := .ref a1) (C := RX11) (T := TX11) (N := 17) hx hb hts hw11 hown hK hP 0 rfl rfl 12 (by decide) (hts (.fieldLink RX11 79 "SmokeTune" "refusals" "[I") (List.mem_cons_of_mem _ (List.mem_append_left _ (List.mem_of_getElem? (i := 0) rfl)))) (fun _ h9 => h9) rfl dX11_refuse_21 ?_
  refine va_alen (v := 5) hx hb hK hP 1 0 rfl rfl rfl dX11_refuse_24 ?_
  refine lv_iconst (v := 1) hx hb dX11_refuse_25 (by decide) ?_
  refine lv_isub hx hb dX11_refuse_26 ?_
  refine lv_topi (fun x_4 ex_4 => ?_)
  obtain rfl : x_4 = 4 := ex_4.trans (by first | rfl | decide)
  refine pci (va_runS (As := [.int 1, .int 0, .int 4]) (rest := []) ⟨hx, hb, hml, hown, hts⟩ (c_within l D K 1 0 4 1 0 4 s.heap.size rfl rfl rfl) (va_cwS 3 hts gX11_refuse_X11_within rfl rfl rfl (by decide +kernel) ⟨Nat.le_of_ble_eq_true rfl, Nat.le_of_ble_eq_true rfl⟩) (mkS hK hN (hP.sub [] rfl) (hD.sub [] (by decide) rfl)) rfl rfl hl.1 rfl (lv_room (Nat.le_of_ble_eq_true rfl)) dX11_refuse_27 ⟨Nat.le_of_ble_eq_true rfl, Nat.le_of_ble_eq_true rfl⟩) (fun r_5 hw => ?_)
  rcases hw with ⟨rfl, h_6, h_7⟩ | ⟨rfl, h_8⟩
  · refine lv_if_eq (tgt := 43) hx hb dX11_refuse_30 (by decide) (fun c_9 => absurd c_9 (by decide)) (fun c_9 => ?_)
    refine lv_aload_n hx hb dX11_refuse_33 rfl (lv_at hl 1 rfl) ?_
    refine va_get (ci := 11) (v := .ref a1) (C := RX11) (T := TX11) (N := 17) hx hb hts hw11 hown hK hP 0 rfl rfl 12 (by decide) (hts (.fieldLink RX11 79 "SmokeTune" "refusals" "[I") (List.mem_cons_of_mem _ (List.mem_append_left _ (List.mem_of_getElem? (i := 0) rfl)))) (fun _ h9 => h9) rfl dX11_refuse_34 ?_
    refine lv_iload_n hx hb dX11_refuse_37 rfl (lv_at hl 0 rfl) ?_
    refine lv_dup2_11 hx hb dX11_refuse_38 rfl rfl ?_
    refine va_iald hx hb hK hP 1 0 rfl rfl (i_in (x := 1) rfl (by omega)) dX11_refuse_39 ?_
    refine lv_topi (fun x_10 ex_10 => ?_)
    refine lv_iconst (v := 1) hx hb dX11_refuse_40 (by decide) ?_
    refine lv_iadd hx hb dX11_refuse_41 ?_
    refine lv_topi (fun x_11 ex_11 => ?_)
    refine va_iast hx hb hK hP hD hS 1 0 rfl rfl (i_in (x := 1) rfl (by omega)) dX11_refuse_42 (fun H locs hP hD hS => ?_)
    generalize hf_12 : (upd f (1 : Int32).toNatClampNeg x_11) = f_12 at hP hD
    have hP : va_P D vwCl [(a0, .inr (11, [g0, g1, g2, g3, g4, g5, g6, g7, g8, g9, g10, g11, .ref a1, g13, g14, g15, g16])), (a1, .inl (K 0, 5, .inl f_12))] H := hP
    have hD : va_D A [(a0, .inr (11, [g0, g1, g2, g3, g4, g5, g6, g7, g8, g9, g10, g11, .ref a1, g13, g14, g15, g16])), (a1, .inl (K 0, 5, .inl f_12))] := hD
    refine lv_aload_n hx hb dX11_refuse_43 rfl (lv_at hl 1 rfl) ?_
    refine lv_iload_n hx hb dX11_refuse_44 rfl (lv_at hl 2 rfl) ?_
    refine va_put (ci := 11) (v := .int (-2)) (ty := .int) (C := RX11) (T := TX11) (N := 17) hx hb hts hw11 tyX11 tyX11_ok nmX11 hown hK hP hD hS 0 rfl rfl 13 (by decide) (hts (.fieldLink RX11 83 "SmokeTune" "refusedBy" "I") (List.mem_cons_of_mem _ (List.mem_append_left _ (List.mem_of_getElem? (i := 1) rfl)))) (fun _ h9 => h9) rfl (by decide +kernel) (by first | rfl | decide) (by first | rfl | decide) (Nat.le_of_ble_eq_true rfl) dX11_refuse_45 (fun H locs hP hD hS => ?_)
    have hP : va_P D vwCl [(a0, .inr (11, [g0, g1, g2, g3, g4, g5, g6, g7, g8, g9, g10, g11, .ref a1, .int (-2), g14, g15, g16])), (a1, .inl (K 0, 5, .inl f_12))] H := hP
    have hD : va_D A [(a0, .inr (11, [g0, g1, g2, g3, g4, g5, g6, g7, g8, g9, g10, g11, .ref a1, .int (-2), g14, g15, g16])), (a1, .inl (K 0, 5, .inl f_12))] := hD
    refine lv_iload_n hx hb dX11_refuse_48 rfl (lv_at hl 2 rfl) ?_
    exact W.iret (v := (-2)) hx hb hr (fun t ht hW => ⟨⟨(-2), (), rfl, (by first | exact rfl), Wd.nil⟩, hS.F ht⟩) hS.2.2 dX11_refuse_49
  · exfalso; omega
set_option maxHeartbeats 4000000 in
set_option maxRecDepth 100000 in
theorem c_refuse_3 (l : Launch) (D : va_G) (K : Nat → ClassId) (a0 : Nat) (g0 : Value) (g1 : Value) (g2 : Value) (g3 : Value) (g4 : Value) (g5 : Value) (g6 : Value) (g7 : Value) (g8 : Value) (g9 : Value) (g10 : Value) (g11 : Value) (a1 : Nat) (g13 : Value) (g14 : Value) (g15 : Value) (g16 : Value) (f : Nat → Int32) (sz : Nat) : Met l yX11_refuse wsX11_refuse ({ frames := 1, cells := 0, slots := 0, locals := 22 }) (va_Pc [.ref a0, .int (-3)] (Pre D K [(a0, .inr (11, [g0, g1, g2, g3, g4, g5, g6, g7, g8, g9, g10, g11, .ref a1, g13, g14, g15, g16])), (a1, .inl (K 0, 5, .inl f))] sz)) (va_Qi (S := Unit) (fun (r : Int32) (_ : Unit) => (r = (-3))) (fun u t => Wd D (va_A [(a0, .inr (11, [g0, g1, g2, g3, g4, g5, g6, g7, g8, g9, g10, g11, .ref a1, g13, g14, g15, g16])), (a1, .inl (K 0, 5, .inl f))] sz) ((fun _ => []) u) t) (va_A [(a0, .inr (11, [g0, g1, g2, g3, g4, g5, g6, g7, g8, g9, g10, g11, .ref a1, g13, g14, g15, g16])), (a1, .inl (K 0, 5, .inl f))] sz)) 0 0 (va_A [(a0, .inr (11, [g0, g1, g2, g3, g4, g5, g6, g7, g8, g9, g10, g11, .ref a1, g13, g14, g15, g16])), (a1, .inl (K 0, 5, .inl f))] sz) := by
  refine Met.ofW (cc := cX11_refuse) (maxL := 3) (ret := (some .int)) (by decide) rfl ?_
  intro p e s m args below meth c s₁ B hml hv
  obtain ⟨rfl, hsz, hP, hK, hD0, hN⟩ := hv
  have hx := B.exec
  have hb := B.bytes
  have hr := B.returns
  have hts := atoms_spec (ws := wsX11_refuse) B.pre
  have hown : s.vm.findClass RX11 = some m.cls := findClass_of_methodNamed B.named
  have hlocks := B.notSynchronized
  subst hsz
  have hD := hD0.self (sz := s.heap.size)
  generalize hAe : va_A [(a0, .inr (11, [g0, g1, g2, g3, g4, g5, g6, g7, g8, g9, g10, g11, .ref a1, g13, g14, g15, g16])), (a1, .inl (K 0, 5, .inl f))] s.heap.size = A at hD ⊢
  have hA : ∀ q : Nat, s.heap.size ≤ q → A q := fun q h => by rw [← hAe]; exact Or.inr h
  have hS : va_S A s.heap s.heap [] := va_S.rf
  have hP : va_P D vwCl [(a0, .inr (11, [g0, g1, g2, g3, g4, g5, g6, g7, g8, g9, g10, g11, .ref a1, g13, g14, g15, g16])), (a1, .inl (K 0, 5, .inl f))] s.heap := hP
  have hl := lv_entry [.ref a0, .int (-3)] (n := 3) (Nat.le_of_ble_eq_true rfl)
  rw [lg_entry_eq]
  generalize (lg_sl [.ref a0, .int (-3)] ++ List.replicate (3 - (lg_sl [.ref a0, .int (-3)]).length) Slot.unset).toArray = ls at hl ⊢
  have hl : lv_has ls 3 [(0, .ref a0), (1, .int (-3))] := hl
  have hw11 : ∀ w ∈ wsX110, w ∈ wsX11_refuse := fun w h => (List.mem_cons_of_mem _ (List.mem_append_right _ h))
  refine lv_iload_n hx hb dX11_refuse_0 rfl (lv_at hl 1 rfl) ?_
  refine lv_bipush (v := (-4)) hx hb dX11_refuse_1 (by decide) ?_
  refine lv_icmp_le (tgt := 13) hx hb dX11_refuse_3 (by decide) (fun c_1 => absurd c_1 (by decide)) (fun c_1 => ?_)
  refine lv_iload_n hx hb dX11_refuse_6 rfl (lv_at hl 1 rfl) ?_
  refine lv_ineg hx hb dX11_refuse_7 ?_
  refine lv_topi (fun x_2 ex_2 => ?_)
  obtain rfl : x_2 = 3 := ex_2.trans (by first | rfl | decide)
  refine lv_iconst (v := 1) hx hb dX11_refuse_8 (by decide) ?_
  refine lv_isub hx hb dX11_refuse_9 ?_
  refine lv_topi (fun x_3 ex_3 => ?_)
  obtain rfl : x_3 = 2 := ex_3.trans (by first | rfl | decide)
  refine lv_goto (tgt := 17) hx hb dX11_refuse_10 (by decide) ?_
  refine lv_istore_n (lv' := [(2, .int 2), (0, .ref a0), (1, .int (-3))]) hx hb dX11_refuse_17 rfl hl (by decide) rfl (fun ls hl => ?_)
  refine lv_iload_n hx hb dX11_refuse_18 rfl (lv_at hl 0 rfl) ?_
  refine lv_iconst (v := 0) hx hb dX11_refuse_19 (by decide) ?_
  refine lv_aload_n hx hb dX11_refuse_20 rfl (lv_at hl 1 rfl) ?_
  refine va_get (ci := 11) (v := .ref a1) (C := RX11) (T := TX11) (N := 17) hx hb hts hw11 hown hK hP 0 rfl rfl 12 (by decide) (hts (.fieldLink RX11 79 "SmokeTune" "refusals" "[I") (List.mem_cons_of_mem _ (List.mem_append_left _ (List.mem_of_getElem? (i := 0) rfl)))) (fun _ h9 => h9) rfl dX11_refuse_21 ?_
  refine va_alen (v := 5) hx hb hK hP 1 0 rfl rfl rfl dX11_refuse_24 ?_
  refine lv_iconst (v := 1) hx hb dX11_refuse_25 (by decide) ?_
  refine lv_isub hx hb dX11_refuse_26 ?_
  refine lv_topi (fun x_4 ex_4 => ?_)
  obtain rfl : x_4 = 4 := ex_4.trans (by first | rfl | decide)
  refine pci (va_runS (As := [.int 2, .int 0, .int 4]) (rest := []) ⟨hx, hb, hml, hown, hts⟩ (c_within l D K 2 0 4 2 0 4 s.heap.size rfl rfl rfl) (va_cwS 3 hts gX11_refuse_X11_within rfl rfl rfl (by decide +kernel) ⟨Nat.le_of_ble_eq_true rfl, Nat.le_of_ble_eq_true rfl⟩) (mkS hK hN (hP.sub [] rfl) (hD.sub [] (by decide) rfl)) rfl rfl hl.1 rfl (lv_room (Nat.le_of_ble_eq_true rfl)) dX11_refuse_27 ⟨Nat.le_of_ble_eq_true rfl, Nat.le_of_ble_eq_true rfl⟩) (fun r_5 hw => ?_)
  rcases hw with ⟨rfl, h_6, h_7⟩ | ⟨rfl, h_8⟩
  · refine lv_if_eq (tgt := 43) hx hb dX11_refuse_30 (by decide) (fun c_9 => absurd c_9 (by decide)) (fun c_9 => ?_)
    refine lv_aload_n hx hb dX11_refuse_33 rfl (lv_at hl 1 rfl) ?_
    refine va_get (ci := 11) (v := .ref a1) (C := RX11) (T := TX11) (N := 17) hx hb hts hw11 hown hK hP 0 rfl rfl 12 (by decide) (hts (.fieldLink RX11 79 "SmokeTune" "refusals" "[I") (List.mem_cons_of_mem _ (List.mem_append_left _ (List.mem_of_getElem? (i := 0) rfl)))) (fun _ h9 => h9) rfl dX11_refuse_34 ?_
    refine lv_iload_n hx hb dX11_refuse_37 rfl (lv_at hl 0 rfl) ?_
    refine lv_dup2_11 hx hb dX11_refuse_38 rfl rfl ?_
    refine va_iald hx hb hK hP 1 0 rfl rfl (i_in (x := 2) rfl (by omega)) dX11_refuse_39 ?_
    refine lv_topi (fun x_10 ex_10 => ?_)
    refine lv_iconst (v := 1) hx hb dX11_refuse_40 (by decide) ?_
    refine lv_iadd hx hb dX11_refuse_41 ?_
    refine lv_topi (fun x_11 ex_11 => ?_)
    refine va_iast hx hb hK hP hD hS 1 0 rfl rfl (i_in (x := 2) rfl (by omega)) dX11_refuse_42 (fun H locs hP hD hS => ?_)
    generalize hf_12 : (upd f (2 : Int32).toNatClampNeg x_11) = f_12 at hP hD
    have hP : va_P D vwCl [(a0, .inr (11, [g0, g1, g2, g3, g4, g5, g6, g7, g8, g9, g10, g11, .ref a1, g13, g14, g15, g16])), (a1, .inl (K 0, 5, .inl f_12))] H := hP
    have hD : va_D A [(a0, .inr (11, [g0, g1, g2, g3, g4, g5, g6, g7, g8, g9, g10, g11, .ref a1, g13, g14, g15, g16])), (a1, .inl (K 0, 5, .inl f_12))] := hD
    refine lv_aload_n hx hb dX11_refuse_43 rfl (lv_at hl 1 rfl) ?_
    refine lv_iload_n hx hb dX11_refuse_44 rfl (lv_at hl 2 rfl) ?_
    refine va_put (ci := 11) (v := .int (-3)) (ty := .int) (C := RX11) (T := TX11) (N := 17) hx hb hts hw11 tyX11 tyX11_ok nmX11 hown hK hP hD hS 0 rfl rfl 13 (by decide) (hts (.fieldLink RX11 83 "SmokeTune" "refusedBy" "I") (List.mem_cons_of_mem _ (List.mem_append_left _ (List.mem_of_getElem? (i := 1) rfl)))) (fun _ h9 => h9) rfl (by decide +kernel) (by first | rfl | decide) (by first | rfl | decide) (Nat.le_of_ble_eq_true rfl) dX11_refuse_45 (fun H locs hP hD hS => ?_)
    have hP : va_P D vwCl [(a0, .inr (11, [g0, g1, g2, g3, g4, g5, g6, g7, g8, g9, g10, g11, .ref a1, .int (-3), g14, g15, g16])), (a1, .inl (K 0, 5, .inl f_12))] H := hP
    have hD : va_D A [(a0, .inr (11, [g0, g1, g2, g3, g4, g5, g6, g7, g8, g9, g10, g11, .ref a1, .int (-3), g14, g15, g16])), (a1, .inl (K 0, 5, .inl f_12))] := hD
    refine lv_iload_n hx hb dX11_refuse_48 rfl (lv_at hl 2 rfl) ?_
    exact W.iret (v := (-3)) hx hb hr (fun t ht hW => ⟨⟨(-3), (), rfl, (by first | exact rfl), Wd.nil⟩, hS.F ht⟩) hS.2.2 dX11_refuse_49
  · exfalso; omega
set_option maxHeartbeats 4000000 in
set_option maxRecDepth 100000 in
theorem c_refuse_5 (l : Launch) (D : va_G) (K : Nat → ClassId) (a0 : Nat) (g0 : Value) (g1 : Value) (g2 : Value) (g3 : Value) (g4 : Value) (g5 : Value) (g6 : Value) (g7 : Value) (g8 : Value) (g9 : Value) (g10 : Value) (g11 : Value) (a1 : Nat) (g13 : Value) (g14 : Value) (g15 : Value) (g16 : Value) (f : Nat → Int32) (sz : Nat) : Met l yX11_refuse wsX11_refuse ({ frames := 1, cells := 0, slots := 0, locals := 22 }) (va_Pc [.ref a0, .int (-5)] (Pre D K [(a0, .inr (11, [g0, g1, g2, g3, g4, g5, g6, g7, g8, g9, g10, g11, .ref a1, g13, g14, g15, g16])), (a1, .inl (K 0, 5, .inl f))] sz)) (va_Qi (S := Unit) (fun (r : Int32) (_ : Unit) => (r = (-5))) (fun u t => Wd D (va_A [(a0, .inr (11, [g0, g1, g2, g3, g4, g5, g6, g7, g8, g9, g10, g11, .ref a1, g13, g14, g15, g16])), (a1, .inl (K 0, 5, .inl f))] sz) ((fun _ => []) u) t) (va_A [(a0, .inr (11, [g0, g1, g2, g3, g4, g5, g6, g7, g8, g9, g10, g11, .ref a1, g13, g14, g15, g16])), (a1, .inl (K 0, 5, .inl f))] sz)) 0 0 (va_A [(a0, .inr (11, [g0, g1, g2, g3, g4, g5, g6, g7, g8, g9, g10, g11, .ref a1, g13, g14, g15, g16])), (a1, .inl (K 0, 5, .inl f))] sz) := by
  refine Met.ofW (cc := cX11_refuse) (maxL := 3) (ret := (some .int)) (by decide) rfl ?_
  intro p e s m args below meth c s₁ B hml hv
  obtain ⟨rfl, hsz, hP, hK, hD0, hN⟩ := hv
  have hx := B.exec
  have hb := B.bytes
  have hr := B.returns
  have hts := atoms_spec (ws := wsX11_refuse) B.pre
  have hown : s.vm.findClass RX11 = some m.cls := findClass_of_methodNamed B.named
  have hlocks := B.notSynchronized
  subst hsz
  have hD := hD0.self (sz := s.heap.size)
  generalize hAe : va_A [(a0, .inr (11, [g0, g1, g2, g3, g4, g5, g6, g7, g8, g9, g10, g11, .ref a1, g13, g14, g15, g16])), (a1, .inl (K 0, 5, .inl f))] s.heap.size = A at hD ⊢
  have hA : ∀ q : Nat, s.heap.size ≤ q → A q := fun q h => by rw [← hAe]; exact Or.inr h
  have hS : va_S A s.heap s.heap [] := va_S.rf
  have hP : va_P D vwCl [(a0, .inr (11, [g0, g1, g2, g3, g4, g5, g6, g7, g8, g9, g10, g11, .ref a1, g13, g14, g15, g16])), (a1, .inl (K 0, 5, .inl f))] s.heap := hP
  have hl := lv_entry [.ref a0, .int (-5)] (n := 3) (Nat.le_of_ble_eq_true rfl)
  rw [lg_entry_eq]
  generalize (lg_sl [.ref a0, .int (-5)] ++ List.replicate (3 - (lg_sl [.ref a0, .int (-5)]).length) Slot.unset).toArray = ls at hl ⊢
  have hl : lv_has ls 3 [(0, .ref a0), (1, .int (-5))] := hl
  have hw11 : ∀ w ∈ wsX110, w ∈ wsX11_refuse := fun w h => (List.mem_cons_of_mem _ (List.mem_append_right _ h))
  refine lv_iload_n hx hb dX11_refuse_0 rfl (lv_at hl 1 rfl) ?_
  refine lv_bipush (v := (-4)) hx hb dX11_refuse_1 (by decide) ?_
  refine lv_icmp_le (tgt := 13) hx hb dX11_refuse_3 (by decide) (fun c_1 => ?_) (fun c_1 => absurd (by decide) c_1)
  refine lv_iload_n hx hb dX11_refuse_13 rfl (lv_at hl 1 rfl) ?_
  refine lv_ineg hx hb dX11_refuse_14 ?_
  refine lv_topi (fun x_2 ex_2 => ?_)
  obtain rfl : x_2 = 5 := ex_2.trans (by first | rfl | decide)
  refine lv_iconst (v := 2) hx hb dX11_refuse_15 (by decide) ?_
  refine lv_isub hx hb dX11_refuse_16 ?_
  refine lv_topi (fun x_3 ex_3 => ?_)
  obtain rfl : x_3 = 3 := ex_3.trans (by first | rfl | decide)
  refine lv_istore_n (lv' := [(2, .int 3), (0, .ref a0), (1, .int (-5))]) hx hb dX11_refuse_17 rfl hl (by decide) rfl (fun ls hl => ?_)
  refine lv_iload_n hx hb dX11_refuse_18 rfl (lv_at hl 0 rfl) ?_
  refine lv_iconst (v := 0) hx hb dX11_refuse_19 (by decide) ?_
  refine lv_aload_n hx hb dX11_refuse_20 rfl (lv_at hl 1 rfl) ?_
  refine va_get (ci := 11) (v := .ref a1) (C := RX11) (T := TX11) (N := 17) hx hb hts hw11 hown hK hP 0 rfl rfl 12 (by decide) (hts (.fieldLink RX11 79 "SmokeTune" "refusals" "[I") (List.mem_cons_of_mem _ (List.mem_append_left _ (List.mem_of_getElem? (i := 0) rfl)))) (fun _ h9 => h9) rfl dX11_refuse_21 ?_
  refine va_alen (v := 5) hx hb hK hP 1 0 rfl rfl rfl dX11_refuse_24 ?_
  refine lv_iconst (v := 1) hx hb dX11_refuse_25 (by decide) ?_
  refine lv_isub hx hb dX11_refuse_26 ?_
  refine lv_topi (fun x_4 ex_4 => ?_)
  obtain rfl : x_4 = 4 := ex_4.trans (by first | rfl | decide)
  refine pci (va_runS (As := [.int 3, .int 0, .int 4]) (rest := []) ⟨hx, hb, hml, hown, hts⟩ (c_within l D K 3 0 4 3 0 4 s.heap.size rfl rfl rfl) (va_cwS 3 hts gX11_refuse_X11_within rfl rfl rfl (by decide +kernel) ⟨Nat.le_of_ble_eq_true rfl, Nat.le_of_ble_eq_true rfl⟩) (mkS hK hN (hP.sub [] rfl) (hD.sub [] (by decide) rfl)) rfl rfl hl.1 rfl (lv_room (Nat.le_of_ble_eq_true rfl)) dX11_refuse_27 ⟨Nat.le_of_ble_eq_true rfl, Nat.le_of_ble_eq_true rfl⟩) (fun r_5 hw => ?_)
  rcases hw with ⟨rfl, h_6, h_7⟩ | ⟨rfl, h_8⟩
  · refine lv_if_eq (tgt := 43) hx hb dX11_refuse_30 (by decide) (fun c_9 => absurd c_9 (by decide)) (fun c_9 => ?_)
    refine lv_aload_n hx hb dX11_refuse_33 rfl (lv_at hl 1 rfl) ?_
    refine va_get (ci := 11) (v := .ref a1) (C := RX11) (T := TX11) (N := 17) hx hb hts hw11 hown hK hP 0 rfl rfl 12 (by decide) (hts (.fieldLink RX11 79 "SmokeTune" "refusals" "[I") (List.mem_cons_of_mem _ (List.mem_append_left _ (List.mem_of_getElem? (i := 0) rfl)))) (fun _ h9 => h9) rfl dX11_refuse_34 ?_
    refine lv_iload_n hx hb dX11_refuse_37 rfl (lv_at hl 0 rfl) ?_
    refine lv_dup2_11 hx hb dX11_refuse_38 rfl rfl ?_
    refine va_iald hx hb hK hP 1 0 rfl rfl (i_in (x := 3) rfl (by omega)) dX11_refuse_39 ?_
    refine lv_topi (fun x_10 ex_10 => ?_)
    refine lv_iconst (v := 1) hx hb dX11_refuse_40 (by decide) ?_
    refine lv_iadd hx hb dX11_refuse_41 ?_
    refine lv_topi (fun x_11 ex_11 => ?_)
    refine va_iast hx hb hK hP hD hS 1 0 rfl rfl (i_in (x := 3) rfl (by omega)) dX11_refuse_42 (fun H locs hP hD hS => ?_)
    generalize hf_12 : (upd f (3 : Int32).toNatClampNeg x_11) = f_12 at hP hD
    have hP : va_P D vwCl [(a0, .inr (11, [g0, g1, g2, g3, g4, g5, g6, g7, g8, g9, g10, g11, .ref a1, g13, g14, g15, g16])), (a1, .inl (K 0, 5, .inl f_12))] H := hP
    have hD : va_D A [(a0, .inr (11, [g0, g1, g2, g3, g4, g5, g6, g7, g8, g9, g10, g11, .ref a1, g13, g14, g15, g16])), (a1, .inl (K 0, 5, .inl f_12))] := hD
    refine lv_aload_n hx hb dX11_refuse_43 rfl (lv_at hl 1 rfl) ?_
    refine lv_iload_n hx hb dX11_refuse_44 rfl (lv_at hl 2 rfl) ?_
    refine va_put (ci := 11) (v := .int (-5)) (ty := .int) (C := RX11) (T := TX11) (N := 17) hx hb hts hw11 tyX11 tyX11_ok nmX11 hown hK hP hD hS 0 rfl rfl 13 (by decide) (hts (.fieldLink RX11 83 "SmokeTune" "refusedBy" "I") (List.mem_cons_of_mem _ (List.mem_append_left _ (List.mem_of_getElem? (i := 1) rfl)))) (fun _ h9 => h9) rfl (by decide +kernel) (by first | rfl | decide) (by first | rfl | decide) (Nat.le_of_ble_eq_true rfl) dX11_refuse_45 (fun H locs hP hD hS => ?_)
    have hP : va_P D vwCl [(a0, .inr (11, [g0, g1, g2, g3, g4, g5, g6, g7, g8, g9, g10, g11, .ref a1, .int (-5), g14, g15, g16])), (a1, .inl (K 0, 5, .inl f_12))] H := hP
    have hD : va_D A [(a0, .inr (11, [g0, g1, g2, g3, g4, g5, g6, g7, g8, g9, g10, g11, .ref a1, .int (-5), g14, g15, g16])), (a1, .inl (K 0, 5, .inl f_12))] := hD
    refine lv_iload_n hx hb dX11_refuse_48 rfl (lv_at hl 2 rfl) ?_
    exact W.iret (v := (-5)) hx hb hr (fun t ht hW => ⟨⟨(-5), (), rfl, (by first | exact rfl), Wd.nil⟩, hS.F ht⟩) hS.2.2 dX11_refuse_49
  · exfalso; omega
set_option maxHeartbeats 4000000 in
set_option maxRecDepth 100000 in
theorem c_refuse_6 (l : Launch) (D : va_G) (K : Nat → ClassId) (a0 : Nat) (g0 : Value) (g1 : Value) (g2 : Value) (g3 : Value) (g4 : Value) (g5 : Value) (g6 : Value) (g7 : Value) (g8 : Value) (g9 : Value) (g10 : Value) (g11 : Value) (a1 : Nat) (g13 : Value) (g14 : Value) (g15 : Value) (g16 : Value) (f : Nat → Int32) (sz : Nat) : Met l yX11_refuse wsX11_refuse ({ frames := 1, cells := 0, slots := 0, locals := 22 }) (va_Pc [.ref a0, .int (-6)] (Pre D K [(a0, .inr (11, [g0, g1, g2, g3, g4, g5, g6, g7, g8, g9, g10, g11, .ref a1, g13, g14, g15, g16])), (a1, .inl (K 0, 5, .inl f))] sz)) (va_Qi (S := Unit) (fun (r : Int32) (_ : Unit) => (r = (-6))) (fun u t => Wd D (va_A [(a0, .inr (11, [g0, g1, g2, g3, g4, g5, g6, g7, g8, g9, g10, g11, .ref a1, g13, g14, g15, g16])), (a1, .inl (K 0, 5, .inl f))] sz) ((fun _ => []) u) t) (va_A [(a0, .inr (11, [g0, g1, g2, g3, g4, g5, g6, g7, g8, g9, g10, g11, .ref a1, g13, g14, g15, g16])), (a1, .inl (K 0, 5, .inl f))] sz)) 0 0 (va_A [(a0, .inr (11, [g0, g1, g2, g3, g4, g5, g6, g7, g8, g9, g10, g11, .ref a1, g13, g14, g15, g16])), (a1, .inl (K 0, 5, .inl f))] sz) := by
  refine Met.ofW (cc := cX11_refuse) (maxL := 3) (ret := (some .int)) (by decide) rfl ?_
  intro p e s m args below meth c s₁ B hml hv
  obtain ⟨rfl, hsz, hP, hK, hD0, hN⟩ := hv
  have hx := B.exec
  have hb := B.bytes
  have hr := B.returns
  have hts := atoms_spec (ws := wsX11_refuse) B.pre
  have hown : s.vm.findClass RX11 = some m.cls := findClass_of_methodNamed B.named
  have hlocks := B.notSynchronized
  subst hsz
  have hD := hD0.self (sz := s.heap.size)
  generalize hAe : va_A [(a0, .inr (11, [g0, g1, g2, g3, g4, g5, g6, g7, g8, g9, g10, g11, .ref a1, g13, g14, g15, g16])), (a1, .inl (K 0, 5, .inl f))] s.heap.size = A at hD ⊢
  have hA : ∀ q : Nat, s.heap.size ≤ q → A q := fun q h => by rw [← hAe]; exact Or.inr h
  have hS : va_S A s.heap s.heap [] := va_S.rf
  have hP : va_P D vwCl [(a0, .inr (11, [g0, g1, g2, g3, g4, g5, g6, g7, g8, g9, g10, g11, .ref a1, g13, g14, g15, g16])), (a1, .inl (K 0, 5, .inl f))] s.heap := hP
  have hl := lv_entry [.ref a0, .int (-6)] (n := 3) (Nat.le_of_ble_eq_true rfl)
  rw [lg_entry_eq]
  generalize (lg_sl [.ref a0, .int (-6)] ++ List.replicate (3 - (lg_sl [.ref a0, .int (-6)]).length) Slot.unset).toArray = ls at hl ⊢
  have hl : lv_has ls 3 [(0, .ref a0), (1, .int (-6))] := hl
  have hw11 : ∀ w ∈ wsX110, w ∈ wsX11_refuse := fun w h => (List.mem_cons_of_mem _ (List.mem_append_right _ h))
  refine lv_iload_n hx hb dX11_refuse_0 rfl (lv_at hl 1 rfl) ?_
  refine lv_bipush (v := (-4)) hx hb dX11_refuse_1 (by decide) ?_
  refine lv_icmp_le (tgt := 13) hx hb dX11_refuse_3 (by decide) (fun c_1 => ?_) (fun c_1 => absurd (by decide) c_1)
  refine lv_iload_n hx hb dX11_refuse_13 rfl (lv_at hl 1 rfl) ?_
  refine lv_ineg hx hb dX11_refuse_14 ?_
  refine lv_topi (fun x_2 ex_2 => ?_)
  obtain rfl : x_2 = 6 := ex_2.trans (by first | rfl | decide)
  refine lv_iconst (v := 2) hx hb dX11_refuse_15 (by decide) ?_
  refine lv_isub hx hb dX11_refuse_16 ?_
  refine lv_topi (fun x_3 ex_3 => ?_)
  obtain rfl : x_3 = 4 := ex_3.trans (by first | rfl | decide)
  refine lv_istore_n (lv' := [(2, .int 4), (0, .ref a0), (1, .int (-6))]) hx hb dX11_refuse_17 rfl hl (by decide) rfl (fun ls hl => ?_)
  refine lv_iload_n hx hb dX11_refuse_18 rfl (lv_at hl 0 rfl) ?_
  refine lv_iconst (v := 0) hx hb dX11_refuse_19 (by decide) ?_
  refine lv_aload_n hx hb dX11_refuse_20 rfl (lv_at hl 1 rfl) ?_
  refine va_get (ci := 11) (v := .ref a1) (C := RX11) (T := TX11) (N := 17) hx hb hts hw11 hown hK hP 0 rfl rfl 12 (by decide) (hts (.fieldLink RX11 79 "SmokeTune" "refusals" "[I") (List.mem_cons_of_mem _ (List.mem_append_left _ (List.mem_of_getElem? (i := 0) rfl)))) (fun _ h9 => h9) rfl dX11_refuse_21 ?_
  refine va_alen (v := 5) hx hb hK hP 1 0 rfl rfl rfl dX11_refuse_24 ?_
  refine lv_iconst (v := 1) hx hb dX11_refuse_25 (by decide) ?_
  refine lv_isub hx hb dX11_refuse_26 ?_
  refine lv_topi (fun x_4 ex_4 => ?_)
  obtain rfl : x_4 = 4 := ex_4.trans (by first | rfl | decide)
  refine pci (va_runS (As := [.int 4, .int 0, .int 4]) (rest := []) ⟨hx, hb, hml, hown, hts⟩ (c_within l D K 4 0 4 4 0 4 s.heap.size rfl rfl rfl) (va_cwS 3 hts gX11_refuse_X11_within rfl rfl rfl (by decide +kernel) ⟨Nat.le_of_ble_eq_true rfl, Nat.le_of_ble_eq_true rfl⟩) (mkS hK hN (hP.sub [] rfl) (hD.sub [] (by decide) rfl)) rfl rfl hl.1 rfl (lv_room (Nat.le_of_ble_eq_true rfl)) dX11_refuse_27 ⟨Nat.le_of_ble_eq_true rfl, Nat.le_of_ble_eq_true rfl⟩) (fun r_5 hw => ?_)
  rcases hw with ⟨rfl, h_6, h_7⟩ | ⟨rfl, h_8⟩
  · refine lv_if_eq (tgt := 43) hx hb dX11_refuse_30 (by decide) (fun c_9 => absurd c_9 (by decide)) (fun c_9 => ?_)
    refine lv_aload_n hx hb dX11_refuse_33 rfl (lv_at hl 1 rfl) ?_
    refine va_get (ci := 11) (v := .ref a1) (C := RX11) (T := TX11) (N := 17) hx hb hts hw11 hown hK hP 0 rfl rfl 12 (by decide) (hts (.fieldLink RX11 79 "SmokeTune" "refusals" "[I") (List.mem_cons_of_mem _ (List.mem_append_left _ (List.mem_of_getElem? (i := 0) rfl)))) (fun _ h9 => h9) rfl dX11_refuse_34 ?_
    refine lv_iload_n hx hb dX11_refuse_37 rfl (lv_at hl 0 rfl) ?_
    refine lv_dup2_11 hx hb dX11_refuse_38 rfl rfl ?_
    refine va_iald hx hb hK hP 1 0 rfl rfl (i_in (x := 4) rfl (by omega)) dX11_refuse_39 ?_
    refine lv_topi (fun x_10 ex_10 => ?_)
    refine lv_iconst (v := 1) hx hb dX11_refuse_40 (by decide) ?_
    refine lv_iadd hx hb dX11_refuse_41 ?_
    refine lv_topi (fun x_11 ex_11 => ?_)
    refine va_iast hx hb hK hP hD hS 1 0 rfl rfl (i_in (x := 4) rfl (by omega)) dX11_refuse_42 (fun H locs hP hD hS => ?_)
    generalize hf_12 : (upd f (4 : Int32).toNatClampNeg x_11) = f_12 at hP hD
    have hP : va_P D vwCl [(a0, .inr (11, [g0, g1, g2, g3, g4, g5, g6, g7, g8, g9, g10, g11, .ref a1, g13, g14, g15, g16])), (a1, .inl (K 0, 5, .inl f_12))] H := hP
    have hD : va_D A [(a0, .inr (11, [g0, g1, g2, g3, g4, g5, g6, g7, g8, g9, g10, g11, .ref a1, g13, g14, g15, g16])), (a1, .inl (K 0, 5, .inl f_12))] := hD
    refine lv_aload_n hx hb dX11_refuse_43 rfl (lv_at hl 1 rfl) ?_
    refine lv_iload_n hx hb dX11_refuse_44 rfl (lv_at hl 2 rfl) ?_
    refine va_put (ci := 11) (v := .int (-6)) (ty := .int) (C := RX11) (T := TX11) (N := 17) hx hb hts hw11 tyX11 tyX11_ok nmX11 hown hK hP hD hS 0 rfl rfl 13 (by decide) (hts (.fieldLink RX11 83 "SmokeTune" "refusedBy" "I") (List.mem_cons_of_mem _ (List.mem_append_left _ (List.mem_of_getElem? (i := 1) rfl)))) (fun _ h9 => h9) rfl (by decide +kernel) (by first | rfl | decide) (by first | rfl | decide) (Nat.le_of_ble_eq_true rfl) dX11_refuse_45 (fun H locs hP hD hS => ?_)
    have hP : va_P D vwCl [(a0, .inr (11, [g0, g1, g2, g3, g4, g5, g6, g7, g8, g9, g10, g11, .ref a1, .int (-6), g14, g15, g16])), (a1, .inl (K 0, 5, .inl f_12))] H := hP
    have hD : va_D A [(a0, .inr (11, [g0, g1, g2, g3, g4, g5, g6, g7, g8, g9, g10, g11, .ref a1, .int (-6), g14, g15, g16])), (a1, .inl (K 0, 5, .inl f_12))] := hD
    refine lv_iload_n hx hb dX11_refuse_48 rfl (lv_at hl 2 rfl) ?_
    exact W.iret (v := (-6)) hx hb hr (fun t ht hW => ⟨⟨(-6), (), rfl, (by first | exact rfl), Wd.nil⟩, hS.F ht⟩) hS.2.2 dX11_refuse_49
  · exfalso; omega
set_option maxHeartbeats 4000000 in
set_option maxRecDepth 100000 in
theorem c_clear (l : Launch) (D : va_G) (K : Nat → ClassId) (a0 : Nat) (g0 : Value) (g1 : Value) (g2 : Value) (sz : Nat) : Met l yX2_clear wsX2_clear ({ frames := 0, cells := 0, slots := 0, locals := 0 }) (va_Pc [.ref a0] (Pre D K [(a0, .inr (2, [g0, g1, g2]))] sz)) (va_Qv (S := Unit) (fun _ => True) (fun u t => Wd D (va_A [(a0, .inr (2, [g0, g1, g2]))] sz) ((fun _ => []) u) t) (va_A [(a0, .inr (2, [g0, g1, g2]))] sz)) 0 0 (va_A [(a0, .inr (2, [g0, g1, g2]))] sz) := by
  refine Met.ofW (cc := cX2_clear) (maxL := 1) (ret := none) (by decide) rfl ?_
  intro p e s m args below meth c s₁ B hml hv
  obtain ⟨rfl, hsz, hP, hK, hD0, hN⟩ := hv
  have hx := B.exec
  have hb := B.bytes
  have hr := B.returns
  have hts := atoms_spec (ws := wsX2_clear) B.pre
  have hown : s.vm.findClass RX2 = some m.cls := findClass_of_methodNamed B.named
  have hlocks := B.notSynchronized
  subst hsz
  have hD := hD0.self (sz := s.heap.size)
  generalize hAe : va_A [(a0, .inr (2, [g0, g1, g2]))] s.heap.size = A at hD ⊢
  have hA : ∀ q : Nat, s.heap.size ≤ q → A q := fun q h => by rw [← hAe]; exact Or.inr h
  have hS : va_S A s.heap s.heap [] := va_S.rf
  have hP : va_P D vwCl [(a0, .inr (2, [g0, g1, g2]))] s.heap := hP
  have hl := lv_entry [.ref a0] (n := 1) (Nat.le_of_ble_eq_true rfl)
  rw [lg_entry_eq]
  generalize (lg_sl [.ref a0] ++ List.replicate (1 - (lg_sl [.ref a0]).length) Slot.unset).toArray = ls at hl ⊢
  have hl : lv_has ls 1 [(0, .ref a0)] := hl
  have hw2 : ∀ w ∈ wsX20, w ∈ wsX2_clear := fun w h => (List.mem_cons_of_mem _ (List.mem_append_right _ h))
  refine lv_aload_n hx hb dX2_clear_0 rfl (lv_at hl 0 rfl) ?_
  refine lv_iconst (v := 0) hx hb dX2_clear_1 (by decide) ?_
  refine va_put (ci := 2) (v := .int 0) (ty := .int) (C := RX2) (T := TX2) (N := 3) hx hb hts hw2 tyX2 tyX2_ok nmX2 hown hK hP hD hS 0 rfl rfl 2 (by decide) (hts (.fieldLink RX2 19 "SmokeTune$History" "kept" "I") (List.mem_cons_of_mem _ (List.mem_append_left _ (List.mem_of_getElem? (i := 0) rfl)))) (fun _ h9 => h9) rfl (by decide +kernel) (by first | rfl | decide) (by first | rfl | decide) (Nat.le_of_ble_eq_true rfl) dX2_clear_2 (fun H locs hP hD hS => ?_)
  have hP : va_P D vwCl [(a0, .inr (2, [g0, g1, .int 0]))] H := hP
  have hD : va_D A [(a0, .inr (2, [g0, g1, .int 0]))] := hD
  exact W.vret hx hb hr (fun t ht hW => ⟨⟨(), rfl, trivial, Wd.nil⟩, hS.F ht⟩) hS.2.2 dX2_clear_5
set_option maxHeartbeats 4000000 in
set_option maxRecDepth 100000 in
theorem c_changing_0 (l : Launch) (D : va_G) (K : Nat → ClassId) (sz : Nat) : Met l yX2_changing wsX2_changing ({ frames := 0, cells := 0, slots := 0, locals := 0 }) (va_Pc [.int 0] (Pre D K [] sz)) (vp_Si (fun r : Int32 => (r = 2))) 0 0 (fun _ => False) := by
  refine Met.ofW (cc := cX2_changing) (maxL := 1) (ret := (some .int)) (by decide) rfl ?_
  intro p e s m args below meth c s₁ B hml hv
  obtain ⟨rfl, hsz, hP, hK, hD0, hN⟩ := hv
  have hx := B.exec
  have hb := B.bytes
  have hr := B.returns
  have hts := atoms_spec (ws := wsX2_changing) B.pre
  have hown : s.vm.findClass RX2 = some m.cls := findClass_of_methodNamed B.named
  have hlocks := B.notSynchronized
  subst hsz
  have hD := hD0
  have hP : va_P D vwCl [] s.heap := hP
  have hl := lv_entry [.int 0] (n := 1) (Nat.le_of_ble_eq_true rfl)
  rw [lg_entry_eq]
  generalize (lg_sl [.int 0] ++ List.replicate (1 - (lg_sl [.int 0]).length) Slot.unset).toArray = ls at hl ⊢
  have hl : lv_has ls 1 [(0, .int 0)] := hl
  refine lv_iload_n hx hb dX2_changing_0 rfl (lv_at hl 0 rfl) ?_
  refine lv_if_ne (tgt := 8) hx hb dX2_changing_1 (by decide) (fun c_1 => absurd (by decide) c_1) (fun c_1 => ?_)
  refine lv_iconst (v := 2) hx hb dX2_changing_4 (by decide) ?_
  refine lv_goto (tgt := 19) hx hb dX2_changing_5 (by decide) ?_
  exact W.iret (v := 2) hx hb hr (fun t ht hW => ⟨_, rfl, (by first | exact rfl), ht⟩) (fun q hq => by cases hq) dX2_changing_19
set_option maxHeartbeats 4000000 in
set_option maxRecDepth 100000 in
theorem c_changing_1 (l : Launch) (D : va_G) (K : Nat → ClassId) (sz : Nat) : Met l yX2_changing wsX2_changing ({ frames := 0, cells := 0, slots := 0, locals := 0 }) (va_Pc [.int 1] (Pre D K [] sz)) (vp_Si (fun r : Int32 => (r = 5))) 0 0 (fun _ => False) := by
  refine Met.ofW (cc := cX2_changing) (maxL := 1) (ret := (some .int)) (by decide) rfl ?_
  intro p e s m args below meth c s₁ B hml hv
  obtain ⟨rfl, hsz, hP, hK, hD0, hN⟩ := hv
  have hx := B.exec
  have hb := B.bytes
  have hr := B.returns
  have hts := atoms_spec (ws := wsX2_changing) B.pre
  have hown : s.vm.findClass RX2 = some m.cls := findClass_of_methodNamed B.named
  have hlocks := B.notSynchronized
  subst hsz
  have hD := hD0
  have hP : va_P D vwCl [] s.heap := hP
  have hl := lv_entry [.int 1] (n := 1) (Nat.le_of_ble_eq_true rfl)
  rw [lg_entry_eq]
  generalize (lg_sl [.int 1] ++ List.replicate (1 - (lg_sl [.int 1]).length) Slot.unset).toArray = ls at hl ⊢
  have hl : lv_has ls 1 [(0, .int 1)] := hl
  refine lv_iload_n hx hb dX2_changing_0 rfl (lv_at hl 0 rfl) ?_
  refine lv_if_ne (tgt := 8) hx hb dX2_changing_1 (by decide) (fun c_1 => ?_) (fun c_1 => absurd c_1 (by decide))
  refine lv_iload_n hx hb dX2_changing_8 rfl (lv_at hl 0 rfl) ?_
  refine lv_iconst (v := 1) hx hb dX2_changing_9 (by decide) ?_
  refine lv_icmp_ne (tgt := 17) hx hb dX2_changing_10 (by decide) (fun c_2 => absurd (by decide) c_2) (fun c_2 => ?_)
  refine lv_iconst (v := 5) hx hb dX2_changing_13 (by decide) ?_
  refine lv_goto (tgt := 19) hx hb dX2_changing_14 (by decide) ?_
  exact W.iret (v := 5) hx hb hr (fun t ht hW => ⟨_, rfl, (by first | exact rfl), ht⟩) (fun q hq => by cases hq) dX2_changing_19
set_option maxHeartbeats 4000000 in
set_option maxRecDepth 100000 in
theorem c_changing_2 (l : Launch) (D : va_G) (K : Nat → ClassId) (sz : Nat) : Met l yX2_changing wsX2_changing ({ frames := 0, cells := 0, slots := 0, locals := 0 }) (va_Pc [.int 2] (Pre D K [] sz)) (vp_Si (fun r : Int32 => (r = 6))) 0 0 (fun _ => False) := by
  refine Met.ofW (cc := cX2_changing) (maxL := 1) (ret := (some .int)) (by decide) rfl ?_
  intro p e s m args below meth c s₁ B hml hv
  obtain ⟨rfl, hsz, hP, hK, hD0, hN⟩ := hv
  have hx := B.exec
  have hb := B.bytes
  have hr := B.returns
  have hts := atoms_spec (ws := wsX2_changing) B.pre
  have hown : s.vm.findClass RX2 = some m.cls := findClass_of_methodNamed B.named
  have hlocks := B.notSynchronized
  subst hsz
  have hD := hD0
  have hP : va_P D vwCl [] s.heap := hP
  have hl := lv_entry [.int 2] (n := 1) (Nat.le_of_ble_eq_true rfl)
  rw [lg_entry_eq]
  generalize (lg_sl [.int 2] ++ List.replicate (1 - (lg_sl [.int 2]).length) Slot.unset).toArray = ls at hl ⊢
  have hl : lv_has ls 1 [(0, .int 2)] := hl
  refine lv_iload_n hx hb dX2_changing_0 rfl (lv_at hl 0 rfl) ?_
  refine lv_if_ne (tgt := 8) hx hb dX2_changing_1 (by decide) (fun c_1 => ?_) (fun c_1 => absurd c_1 (by decide))
  refine lv_iload_n hx hb dX2_changing_8 rfl (lv_at hl 0 rfl) ?_
  refine lv_iconst (v := 1) hx hb dX2_changing_9 (by decide) ?_
  refine lv_icmp_ne (tgt := 17) hx hb dX2_changing_10 (by decide) (fun c_2 => ?_) (fun c_2 => absurd c_2 (by decide))
  refine lv_bipush (v := 6) hx hb dX2_changing_17 (by decide) ?_
  exact W.iret (v := 6) hx hb hr (fun t ht hW => ⟨_, rfl, (by first | exact rfl), ht⟩) (fun q hq => by cases hq) dX2_changing_19
set_option maxHeartbeats 4000000 in
set_option maxRecDepth 100000 in
theorem c_in (l : Launch) (D : va_G) (K : Nat → ClassId) (v : Int64) (lo : Int64) (hi : Int64) (V : Int) (LO : Int) (HI : Int) (sz : Nat) (qv : v.toInt = V) (qlo : lo.toInt = LO) (qhi : hi.toInt = HI) : Met l yX12_in wsX12_in ({ frames := 0, cells := 0, slots := 0, locals := 0 }) (va_Pc [.long v, .long lo, .long hi] (Pre D K [] sz)) (vp_Si (fun r : Int32 => (r = 1 ∧ LO ≤ V ∧ V ≤ HI) ∨ (r = 0 ∧ (V < LO ∨ HI < V)))) 0 0 (fun _ => False) := by
  refine Met.ofW (cc := cX12_in) (maxL := 6) (ret := (some .boolean)) (by decide) rfl ?_
  intro p e s m args below meth c s₁ B hml hv
  obtain ⟨rfl, hsz, hP, hK, hD0, hN⟩ := hv
  have hx := B.exec
  have hb := B.bytes
  have hr := B.returns
  have hts := atoms_spec (ws := wsX12_in) B.pre
  have hown : s.vm.findClass RX12 = some m.cls := findClass_of_methodNamed B.named
  have hlocks := B.notSynchronized
  subst hsz
  have hD := hD0
  have hP : va_P D vwCl [] s.heap := hP
  have hl := lv_entry [.long v, .long lo, .long hi] (n := 6) (Nat.le_of_ble_eq_true rfl)
  rw [lg_entry_eq]
  generalize (lg_sl [.long v, .long lo, .long hi] ++ List.replicate (6 - (lg_sl [.long v, .long lo, .long hi]).length) Slot.unset).toArray = ls at hl ⊢
  have hl : lv_has ls 6 [(0, .long v), (2, .long lo), (4, .long hi)] := hl
  refine lv_lload_n hx hb dX12_in_0 rfl (lv_at hl 0 rfl) ?_
  refine lv_lload_n hx hb dX12_in_1 rfl (lv_at hl 1 rfl) ?_
  refine W.lcmp hx hb dX12_in_2 ?_
  refine lv_if_lt (tgt := 17) hx hb dX12_in_3 (by decide) (fun c_1 => ?_) (fun c_1 => ?_)
  · have c_1i := l_lt (x := V) (y := LO) qv qlo ((lg_cmp_lt v lo).mp c_1)
    refine lv_iconst (v := 0) hx hb dX12_in_17 (by decide) ?_
    exact W.zret (v := 0) hx hb hr (by first | rfl | decide) (fun t ht hW => ⟨_, rfl, (by first | exact Or.inr (⟨rfl, by first | omega | decide | (subst_vars; assumption) | (subst_vars; symm; assumption)⟩)), ht⟩) (fun q hq => by cases hq) dX12_in_18
  · have c_1i := l_nlt (x := V) (y := LO) qv qlo (fun q => c_1 ((lg_cmp_lt v lo).mpr q))
    refine lv_lload_n hx hb dX12_in_6 rfl (lv_at hl 0 rfl) ?_
    refine lv_lload hx hb dX12_in_7 (lv_at hl 2 rfl) ?_
    refine W.lcmp hx hb dX12_in_9 ?_
    refine lv_if_gt (tgt := 17) hx hb dX12_in_10 (by decide) (fun c_2 => ?_) (fun c_2 => ?_)
    · have c_2i := l_lt (x := HI) (y := V) qhi qv ((lg_cmp_gt v hi).mp c_2)
      refine lv_iconst (v := 0) hx hb dX12_in_17 (by decide) ?_
      exact W.zret (v := 0) hx hb hr (by first | rfl | decide) (fun t ht hW => ⟨_, rfl, (by first | exact Or.inr (⟨rfl, by first | omega | decide | (subst_vars; assumption) | (subst_vars; symm; assumption)⟩)), ht⟩) (fun q hq => by cases hq) dX12_in_18
    · have c_2i := l_nlt (x := HI) (y := V) qhi qv (fun q => c_2 ((lg_cmp_gt v hi).mpr q))
      refine lv_iconst (v := 1) hx hb dX12_in_13 (by decide) ?_
      refine lv_goto (tgt := 18) hx hb dX12_in_14 (by decide) ?_
      exact W.zret (v := 1) hx hb hr (by first | rfl | decide) (fun t ht hW => ⟨_, rfl, (by first | exact Or.inl (⟨rfl, by first | omega | decide | (subst_vars; assumption) | (subst_vars; symm; assumption), by first | omega | decide | (subst_vars; assumption) | (subst_vars; symm; assumption)⟩)), ht⟩) (fun q hq => by cases hq) dX12_in_18
set_option maxHeartbeats 4000000 in
set_option maxRecDepth 100000 in
theorem m_tell_1 (l : Launch) (D : va_G) (K : Nat → ClassId) (a0 : Nat) (w0 : Value) (w1 : Value) (a2 : Nat) (w3 : Value) (w4 : Value) (w5 : Value) (w6 : Value) (w7 : Value) (w8 : Value) (w9 : Value) (w10 : Value) (w11 : Value) (w12 : Value) (w13 : Value) (w14 : Value) (w15 : Value) (w16 : Value) (w17 : Value) (w18 : Value) (w19 : Value) (w20 : Value) (w21 : Value) (w22 : Value) (w23 : Value) (w24 : Value) (w25 : Value) (w26 : Value) (w27 : Value) (w28 : Value) (w29 : Value) (w30 : Value) (w31 : Value) (w32 : Value) (w33 : Value) (w34 : Value) (w35 : Value) (w36 : Value) (w37 : Value) (w38 : Value) (w39 : Value) (w40 : Value) (w41 : Value) (w42 : Value) (w43 : Value) (w44 : Value) (w45 : Value) (w46 : Value) (w47 : Value) (w48 : Value) (w49 : Value) (w50 : Value) (w51 : Value) (w52 : Value) (w53 : Value) (w54 : Value) (w55 : Value) (w56 : Value) (w57 : Value) (w58 : Value) (w59 : Value) (f : Nat → Int32) (sz : Nat) : Met l yX12_tell wsX12_tell ({ frames := 0, cells := 0, slots := 0, locals := 0 }) (va_Pc [.ref a0, .int (-1)] (Pre D K [(a0, .inr (12, [w0, w1, .ref a2, w3, w4, w5, w6, w7, w8, w9, w10, w11, w12, w13, w14, w15, w16, w17, w18, w19, w20, w21, w22, w23, w24, w25, w26, w27, w28, w29, w30, w31, w32, w33, w34, w35, w36, w37, w38, w39, w40, w41, w42, w43, w44, w45, w46, w47, w48, w49, w50, w51, w52, w53, w54, w55, w56, w57, w58, w59])), (a2, .inl (K 0, 7, .inl f))] sz)) (va_Qi (S := Unit) (fun (r : Int32) (_ : Unit) => (r = (-1))) (fun u t => Wd D (va_A [(a0, .inr (12, [w0, w1, .ref a2, w3, w4, w5, w6, w7, w8, w9, w10, w11, w12, w13, w14, w15, w16, w17, w18, w19, w20, w21, w22, w23, w24, w25, w26, w27, w28, w29, w30, w31, w32, w33, w34, w35, w36, w37, w38, w39, w40, w41, w42, w43, w44, w45, w46, w47, w48, w49, w50, w51, w52, w53, w54, w55, w56, w57, w58, w59])), (a2, .inl (K 0, 7, .inl f))] sz) ((fun _ => []) u) t) (va_A [(a0, .inr (12, [w0, w1, .ref a2, w3, w4, w5, w6, w7, w8, w9, w10, w11, w12, w13, w14, w15, w16, w17, w18, w19, w20, w21, w22, w23, w24, w25, w26, w27, w28, w29, w30, w31, w32, w33, w34, w35, w36, w37, w38, w39, w40, w41, w42, w43, w44, w45, w46, w47, w48, w49, w50, w51, w52, w53, w54, w55, w56, w57, w58, w59])), (a2, .inl (K 0, 7, .inl f))] sz)) 0 0 (va_A [(a0, .inr (12, [w0, w1, .ref a2, w3, w4, w5, w6, w7, w8, w9, w10, w11, w12, w13, w14, w15, w16, w17, w18, w19, w20, w21, w22, w23, w24, w25, w26, w27, w28, w29, w30, w31, w32, w33, w34, w35, w36, w37, w38, w39, w40, w41, w42, w43, w44, w45, w46, w47, w48, w49, w50, w51, w52, w53, w54, w55, w56, w57, w58, w59])), (a2, .inl (K 0, 7, .inl f))] sz) := by
  refine Met.ofW (cc := cX12_tell) (maxL := 2) (ret := (some .int)) (by decide) rfl ?_
  intro p e s m args below meth c s₁ B hml hv
  obtain ⟨rfl, hsz, hP, hK, hD0, hN⟩ := hv
  have hx := B.exec
  have hb := B.bytes
  have hr := B.returns
  have hts := atoms_spec (ws := wsX12_tell) B.pre
  have hown : s.vm.findClass RX12 = some m.cls := findClass_of_methodNamed B.named
  have hlocks := B.notSynchronized
  subst hsz
  have hD := hD0.self (sz := s.heap.size)
  generalize hAe : va_A [(a0, .inr (12, [w0, w1, .ref a2, w3, w4, w5, w6, w7, w8, w9, w10, w11, w12, w13, w14, w15, w16, w17, w18, w19, w20, w21, w22, w23, w24, w25, w26, w27, w28, w29, w30, w31, w32, w33, w34, w35, w36, w37, w38, w39, w40, w41, w42, w43, w44, w45, w46, w47, w48, w49, w50, w51, w52, w53, w54, w55, w56, w57, w58, w59])), (a2, .inl (K 0, 7, .inl f))] s.heap.size = A at hD ⊢
  have hA : ∀ q : Nat, s.heap.size ≤ q → A q := fun q h => by rw [← hAe]; exact Or.inr h
  have hS : va_S A s.heap s.heap [] := va_S.rf
  have hP : va_P D vwCl [(a0, .inr (12, [w0, w1, .ref a2, w3, w4, w5, w6, w7, w8, w9, w10, w11, w12, w13, w14, w15, w16, w17, w18, w19, w20, w21, w22, w23, w24, w25, w26, w27, w28, w29, w30, w31, w32, w33, w34, w35, w36, w37, w38, w39, w40, w41, w42, w43, w44, w45, w46, w47, w48, w49, w50, w51, w52, w53, w54, w55, w56, w57, w58, w59])), (a2, .inl (K 0, 7, .inl f))] s.heap := hP
  have hl := lv_entry [.ref a0, .int (-1)] (n := 2) (Nat.le_of_ble_eq_true rfl)
  rw [lg_entry_eq]
  generalize (lg_sl [.ref a0, .int (-1)] ++ List.replicate (2 - (lg_sl [.ref a0, .int (-1)]).length) Slot.unset).toArray = ls at hl ⊢
  have hl : lv_has ls 2 [(0, .ref a0), (1, .int (-1))] := hl
  have hw12 : ∀ w ∈ wsX120, w ∈ wsX12_tell := fun w h => (List.mem_cons_of_mem _ (List.mem_append_right _ h))
  refine lv_aload_n hx hb dX12_tell_0 rfl (lv_at hl 0 rfl) ?_
  refine lv_iload_n hx hb dX12_tell_1 rfl (lv_at hl 1 rfl) ?_
  refine lv_if_ge (tgt := 9) hx hb dX12_tell_2 (by decide) (fun c_1 => absurd c_1 (by decide)) (fun c_1 => ?_)
  refine lv_iload_n hx hb dX12_tell_5 rfl (lv_at hl 1 rfl) ?_
  refine lv_goto (tgt := 10) hx hb dX12_tell_6 (by decide) ?_
  refine va_put (ci := 12) (v := .int (-1)) (ty := .int) (C := RX12) (T := TX12) (N := 60) hx hb hts hw12 tyX12 tyX12_ok nmX12 hown hK hP hD hS 0 rfl rfl 1 (by decide) (hts (.fieldLink RX12 161 "SmokeTuneModel" "status" "I") (List.mem_cons_of_mem _ (List.mem_append_left _ (List.mem_of_getElem? (i := 0) rfl)))) (fun _ h9 => h9) rfl (by decide +kernel) (by first | rfl | decide) (by first | rfl | decide) (Nat.le_of_ble_eq_true rfl) dX12_tell_10 (fun H locs hP hD hS => ?_)
  have hP : va_P D vwCl [(a0, .inr (12, [w0, .int (-1), .ref a2, w3, w4, w5, w6, w7, w8, w9, w10, w11, w12, w13, w14, w15, w16, w17, w18, w19, w20, w21, w22, w23, w24, w25, w26, w27, w28, w29, w30, w31, w32, w33, w34, w35, w36, w37, w38, w39, w40, w41, w42, w43, w44, w45, w46, w47, w48, w49, w50, w51, w52, w53, w54, w55, w56, w57, w58, w59])), (a2, .inl (K 0, 7, .inl f))] H := hP
  have hD : va_D A [(a0, .inr (12, [w0, .int (-1), .ref a2, w3, w4, w5, w6, w7, w8, w9, w10, w11, w12, w13, w14, w15, w16, w17, w18, w19, w20, w21, w22, w23, w24, w25, w26, w27, w28, w29, w30, w31, w32, w33, w34, w35, w36, w37, w38, w39, w40, w41, w42, w43, w44, w45, w46, w47, w48, w49, w50, w51, w52, w53, w54, w55, w56, w57, w58, w59])), (a2, .inl (K 0, 7, .inl f))] := hD
  refine lv_iload_n hx hb dX12_tell_13 rfl (lv_at hl 1 rfl) ?_
  refine lv_if_ge (tgt := 28) hx hb dX12_tell_14 (by decide) (fun c_2 => absurd c_2 (by decide)) (fun c_2 => ?_)
  refine lv_aload_n hx hb dX12_tell_17 rfl (lv_at hl 0 rfl) ?_
  refine va_get (ci := 12) (v := .ref a2) (C := RX12) (T := TX12) (N := 60) hx hb hts hw12 hown hK hP 0 rfl rfl 2 (by decide) (hts (.fieldLink RX12 7 "SmokeTuneModel" "refusals" "[I") (List.mem_cons_of_mem _ (List.mem_append_left _ (List.mem_of_getElem? (i := 1) rfl)))) (fun _ h9 => h9) rfl dX12_tell_18 ?_
  refine lv_iload_n hx hb dX12_tell_21 rfl (lv_at hl 1 rfl) ?_
  refine lv_ineg hx hb dX12_tell_22 ?_
  refine lv_topi (fun x_3 ex_3 => ?_)
  obtain rfl : x_3 = 1 := ex_3.trans (by first | rfl | decide)
  refine lv_dup2_11 hx hb dX12_tell_23 rfl rfl ?_
  refine va_iald hx hb hK hP 1 0 rfl rfl (i_in (x := 1) rfl (by omega)) dX12_tell_24 ?_
  refine lv_topi (fun x_4 ex_4 => ?_)
  refine lv_iconst (v := 1) hx hb dX12_tell_25 (by decide) ?_
  refine lv_iadd hx hb dX12_tell_26 ?_
  refine lv_topi (fun x_5 ex_5 => ?_)
  refine va_iast hx hb hK hP hD hS 1 0 rfl rfl (i_in (x := 1) rfl (by omega)) dX12_tell_27 (fun H locs hP hD hS => ?_)
  generalize hf_6 : (upd f (1 : Int32).toNatClampNeg x_5) = f_6 at hP hD
  have hP : va_P D vwCl [(a0, .inr (12, [w0, .int (-1), .ref a2, w3, w4, w5, w6, w7, w8, w9, w10, w11, w12, w13, w14, w15, w16, w17, w18, w19, w20, w21, w22, w23, w24, w25, w26, w27, w28, w29, w30, w31, w32, w33, w34, w35, w36, w37, w38, w39, w40, w41, w42, w43, w44, w45, w46, w47, w48, w49, w50, w51, w52, w53, w54, w55, w56, w57, w58, w59])), (a2, .inl (K 0, 7, .inl f_6))] H := hP
  have hD : va_D A [(a0, .inr (12, [w0, .int (-1), .ref a2, w3, w4, w5, w6, w7, w8, w9, w10, w11, w12, w13, w14, w15, w16, w17, w18, w19, w20, w21, w22, w23, w24, w25, w26, w27, w28, w29, w30, w31, w32, w33, w34, w35, w36, w37, w38, w39, w40, w41, w42, w43, w44, w45, w46, w47, w48, w49, w50, w51, w52, w53, w54, w55, w56, w57, w58, w59])), (a2, .inl (K 0, 7, .inl f_6))] := hD
  refine lv_iload_n hx hb dX12_tell_28 rfl (lv_at hl 1 rfl) ?_
  exact W.iret (v := (-1)) hx hb hr (fun t ht hW => ⟨⟨(-1), (), rfl, (by first | exact rfl), Wd.nil⟩, hS.F ht⟩) hS.2.2 dX12_tell_29
set_option maxHeartbeats 4000000 in
set_option maxRecDepth 100000 in
theorem m_tell_2 (l : Launch) (D : va_G) (K : Nat → ClassId) (a0 : Nat) (w0 : Value) (w1 : Value) (a2 : Nat) (w3 : Value) (w4 : Value) (w5 : Value) (w6 : Value) (w7 : Value) (w8 : Value) (w9 : Value) (w10 : Value) (w11 : Value) (w12 : Value) (w13 : Value) (w14 : Value) (w15 : Value) (w16 : Value) (w17 : Value) (w18 : Value) (w19 : Value) (w20 : Value) (w21 : Value) (w22 : Value) (w23 : Value) (w24 : Value) (w25 : Value) (w26 : Value) (w27 : Value) (w28 : Value) (w29 : Value) (w30 : Value) (w31 : Value) (w32 : Value) (w33 : Value) (w34 : Value) (w35 : Value) (w36 : Value) (w37 : Value) (w38 : Value) (w39 : Value) (w40 : Value) (w41 : Value) (w42 : Value) (w43 : Value) (w44 : Value) (w45 : Value) (w46 : Value) (w47 : Value) (w48 : Value) (w49 : Value) (w50 : Value) (w51 : Value) (w52 : Value) (w53 : Value) (w54 : Value) (w55 : Value) (w56 : Value) (w57 : Value) (w58 : Value) (w59 : Value) (f : Nat → Int32) (sz : Nat) : Met l yX12_tell wsX12_tell ({ frames := 0, cells := 0, slots := 0, locals := 0 }) (va_Pc [.ref a0, .int (-2)] (Pre D K [(a0, .inr (12, [w0, w1, .ref a2, w3, w4, w5, w6, w7, w8, w9, w10, w11, w12, w13, w14, w15, w16, w17, w18, w19, w20, w21, w22, w23, w24, w25, w26, w27, w28, w29, w30, w31, w32, w33, w34, w35, w36, w37, w38, w39, w40, w41, w42, w43, w44, w45, w46, w47, w48, w49, w50, w51, w52, w53, w54, w55, w56, w57, w58, w59])), (a2, .inl (K 0, 7, .inl f))] sz)) (va_Qi (S := Unit) (fun (r : Int32) (_ : Unit) => (r = (-2))) (fun u t => Wd D (va_A [(a0, .inr (12, [w0, w1, .ref a2, w3, w4, w5, w6, w7, w8, w9, w10, w11, w12, w13, w14, w15, w16, w17, w18, w19, w20, w21, w22, w23, w24, w25, w26, w27, w28, w29, w30, w31, w32, w33, w34, w35, w36, w37, w38, w39, w40, w41, w42, w43, w44, w45, w46, w47, w48, w49, w50, w51, w52, w53, w54, w55, w56, w57, w58, w59])), (a2, .inl (K 0, 7, .inl f))] sz) ((fun _ => []) u) t) (va_A [(a0, .inr (12, [w0, w1, .ref a2, w3, w4, w5, w6, w7, w8, w9, w10, w11, w12, w13, w14, w15, w16, w17, w18, w19, w20, w21, w22, w23, w24, w25, w26, w27, w28, w29, w30, w31, w32, w33, w34, w35, w36, w37, w38, w39, w40, w41, w42, w43, w44, w45, w46, w47, w48, w49, w50, w51, w52, w53, w54, w55, w56, w57, w58, w59])), (a2, .inl (K 0, 7, .inl f))] sz)) 0 0 (va_A [(a0, .inr (12, [w0, w1, .ref a2, w3, w4, w5, w6, w7, w8, w9, w10, w11, w12, w13, w14, w15, w16, w17, w18, w19, w20, w21, w22, w23, w24, w25, w26, w27, w28, w29, w30, w31, w32, w33, w34, w35, w36, w37, w38, w39, w40, w41, w42, w43, w44, w45, w46, w47, w48, w49, w50, w51, w52, w53, w54, w55, w56, w57, w58, w59])), (a2, .inl (K 0, 7, .inl f))] sz) := by
  refine Met.ofW (cc := cX12_tell) (maxL := 2) (ret := (some .int)) (by decide) rfl ?_
  intro p e s m args below meth c s₁ B hml hv
  obtain ⟨rfl, hsz, hP, hK, hD0, hN⟩ := hv
  have hx := B.exec
  have hb := B.bytes
  have hr := B.returns
  have hts := atoms_spec (ws := wsX12_tell) B.pre
  have hown : s.vm.findClass RX12 = some m.cls := findClass_of_methodNamed B.named
  have hlocks := B.notSynchronized
  subst hsz
  have hD := hD0.self (sz := s.heap.size)
  generalize hAe : va_A [(a0, .inr (12, [w0, w1, .ref a2, w3, w4, w5, w6, w7, w8, w9, w10, w11, w12, w13, w14, w15, w16, w17, w18, w19, w20, w21, w22, w23, w24, w25, w26, w27, w28, w29, w30, w31, w32, w33, w34, w35, w36, w37, w38, w39, w40, w41, w42, w43, w44, w45, w46, w47, w48, w49, w50, w51, w52, w53, w54, w55, w56, w57, w58, w59])), (a2, .inl (K 0, 7, .inl f))] s.heap.size = A at hD ⊢
  have hA : ∀ q : Nat, s.heap.size ≤ q → A q := fun q h => by rw [← hAe]; exact Or.inr h
  have hS : va_S A s.heap s.heap [] := va_S.rf
  have hP : va_P D vwCl [(a0, .inr (12, [w0, w1, .ref a2, w3, w4, w5, w6, w7, w8, w9, w10, w11, w12, w13, w14, w15, w16, w17, w18, w19, w20, w21, w22, w23, w24, w25, w26, w27, w28, w29, w30, w31, w32, w33, w34, w35, w36, w37, w38, w39, w40, w41, w42, w43, w44, w45, w46, w47, w48, w49, w50, w51, w52, w53, w54, w55, w56, w57, w58, w59])), (a2, .inl (K 0, 7, .inl f))] s.heap := hP
  have hl := lv_entry [.ref a0, .int (-2)] (n := 2) (Nat.le_of_ble_eq_true rfl)
  rw [lg_entry_eq]
  generalize (lg_sl [.ref a0, .int (-2)] ++ List.replicate (2 - (lg_sl [.ref a0, .int (-2)]).length) Slot.unset).toArray = ls at hl ⊢
  have hl : lv_has ls 2 [(0, .ref a0), (1, .int (-2))] := hl
  have hw12 : ∀ w ∈ wsX120, w ∈ wsX12_tell := fun w h => (List.mem_cons_of_mem _ (List.mem_append_right _ h))
  refine lv_aload_n hx hb dX12_tell_0 rfl (lv_at hl 0 rfl) ?_
  refine lv_iload_n hx hb dX12_tell_1 rfl (lv_at hl 1 rfl) ?_
  refine lv_if_ge (tgt := 9) hx hb dX12_tell_2 (by decide) (fun c_1 => absurd c_1 (by decide)) (fun c_1 => ?_)
  refine lv_iload_n hx hb dX12_tell_5 rfl (lv_at hl 1 rfl) ?_
  refine lv_goto (tgt := 10) hx hb dX12_tell_6 (by decide) ?_
  refine va_put (ci := 12) (v := .int (-2)) (ty := .int) (C := RX12) (T := TX12) (N := 60) hx hb hts hw12 tyX12 tyX12_ok nmX12 hown hK hP hD hS 0 rfl rfl 1 (by decide) (hts (.fieldLink RX12 161 "SmokeTuneModel" "status" "I") (List.mem_cons_of_mem _ (List.mem_append_left _ (List.mem_of_getElem? (i := 0) rfl)))) (fun _ h9 => h9) rfl (by decide +kernel) (by first | rfl | decide) (by first | rfl | decide) (Nat.le_of_ble_eq_true rfl) dX12_tell_10 (fun H locs hP hD hS => ?_)
  have hP : va_P D vwCl [(a0, .inr (12, [w0, .int (-2), .ref a2, w3, w4, w5, w6, w7, w8, w9, w10, w11, w12, w13, w14, w15, w16, w17, w18, w19, w20, w21, w22, w23, w24, w25, w26, w27, w28, w29, w30, w31, w32, w33, w34, w35, w36, w37, w38, w39, w40, w41, w42, w43, w44, w45, w46, w47, w48, w49, w50, w51, w52, w53, w54, w55, w56, w57, w58, w59])), (a2, .inl (K 0, 7, .inl f))] H := hP
  have hD : va_D A [(a0, .inr (12, [w0, .int (-2), .ref a2, w3, w4, w5, w6, w7, w8, w9, w10, w11, w12, w13, w14, w15, w16, w17, w18, w19, w20, w21, w22, w23, w24, w25, w26, w27, w28, w29, w30, w31, w32, w33, w34, w35, w36, w37, w38, w39, w40, w41, w42, w43, w44, w45, w46, w47, w48, w49, w50, w51, w52, w53, w54, w55, w56, w57, w58, w59])), (a2, .inl (K 0, 7, .inl f))] := hD
  refine lv_iload_n hx hb dX12_tell_13 rfl (lv_at hl 1 rfl) ?_
  refine lv_if_ge (tgt := 28) hx hb dX12_tell_14 (by decide) (fun c_2 => absurd c_2 (by decide)) (fun c_2 => ?_)
  refine lv_aload_n hx hb dX12_tell_17 rfl (lv_at hl 0 rfl) ?_
  refine va_get (ci := 12) (v := .ref a2) (C := RX12) (T := TX12) (N := 60) hx hb hts hw12 hown hK hP 0 rfl rfl 2 (by decide) (hts (.fieldLink RX12 7 "SmokeTuneModel" "refusals" "[I") (List.mem_cons_of_mem _ (List.mem_append_left _ (List.mem_of_getElem? (i := 1) rfl)))) (fun _ h9 => h9) rfl dX12_tell_18 ?_
  refine lv_iload_n hx hb dX12_tell_21 rfl (lv_at hl 1 rfl) ?_
  refine lv_ineg hx hb dX12_tell_22 ?_
  refine lv_topi (fun x_3 ex_3 => ?_)
  obtain rfl : x_3 = 2 := ex_3.trans (by first | rfl | decide)
  refine lv_dup2_11 hx hb dX12_tell_23 rfl rfl ?_
  refine va_iald hx hb hK hP 1 0 rfl rfl (i_in (x := 2) rfl (by omega)) dX12_tell_24 ?_
  refine lv_topi (fun x_4 ex_4 => ?_)
  refine lv_iconst (v := 1) hx hb dX12_tell_25 (by decide) ?_
  refine lv_iadd hx hb dX12_tell_26 ?_
  refine lv_topi (fun x_5 ex_5 => ?_)
  refine va_iast hx hb hK hP hD hS 1 0 rfl rfl (i_in (x := 2) rfl (by omega)) dX12_tell_27 (fun H locs hP hD hS => ?_)
  generalize hf_6 : (upd f (2 : Int32).toNatClampNeg x_5) = f_6 at hP hD
  have hP : va_P D vwCl [(a0, .inr (12, [w0, .int (-2), .ref a2, w3, w4, w5, w6, w7, w8, w9, w10, w11, w12, w13, w14, w15, w16, w17, w18, w19, w20, w21, w22, w23, w24, w25, w26, w27, w28, w29, w30, w31, w32, w33, w34, w35, w36, w37, w38, w39, w40, w41, w42, w43, w44, w45, w46, w47, w48, w49, w50, w51, w52, w53, w54, w55, w56, w57, w58, w59])), (a2, .inl (K 0, 7, .inl f_6))] H := hP
  have hD : va_D A [(a0, .inr (12, [w0, .int (-2), .ref a2, w3, w4, w5, w6, w7, w8, w9, w10, w11, w12, w13, w14, w15, w16, w17, w18, w19, w20, w21, w22, w23, w24, w25, w26, w27, w28, w29, w30, w31, w32, w33, w34, w35, w36, w37, w38, w39, w40, w41, w42, w43, w44, w45, w46, w47, w48, w49, w50, w51, w52, w53, w54, w55, w56, w57, w58, w59])), (a2, .inl (K 0, 7, .inl f_6))] := hD
  refine lv_iload_n hx hb dX12_tell_28 rfl (lv_at hl 1 rfl) ?_
  exact W.iret (v := (-2)) hx hb hr (fun t ht hW => ⟨⟨(-2), (), rfl, (by first | exact rfl), Wd.nil⟩, hS.F ht⟩) hS.2.2 dX12_tell_29
set_option maxHeartbeats 4000000 in
set_option maxRecDepth 100000 in
theorem m_tell_3 (l : Launch) (D : va_G) (K : Nat → ClassId) (a0 : Nat) (w0 : Value) (w1 : Value) (a2 : Nat) (w3 : Value) (w4 : Value) (w5 : Value) (w6 : Value) (w7 : Value) (w8 : Value) (w9 : Value) (w10 : Value) (w11 : Value) (w12 : Value) (w13 : Value) (w14 : Value) (w15 : Value) (w16 : Value) (w17 : Value) (w18 : Value) (w19 : Value) (w20 : Value) (w21 : Value) (w22 : Value) (w23 : Value) (w24 : Value) (w25 : Value) (w26 : Value) (w27 : Value) (w28 : Value) (w29 : Value) (w30 : Value) (w31 : Value) (w32 : Value) (w33 : Value) (w34 : Value) (w35 : Value) (w36 : Value) (w37 : Value) (w38 : Value) (w39 : Value) (w40 : Value) (w41 : Value) (w42 : Value) (w43 : Value) (w44 : Value) (w45 : Value) (w46 : Value) (w47 : Value) (w48 : Value) (w49 : Value) (w50 : Value) (w51 : Value) (w52 : Value) (w53 : Value) (w54 : Value) (w55 : Value) (w56 : Value) (w57 : Value) (w58 : Value) (w59 : Value) (f : Nat → Int32) (sz : Nat) : Met l yX12_tell wsX12_tell ({ frames := 0, cells := 0, slots := 0, locals := 0 }) (va_Pc [.ref a0, .int (-3)] (Pre D K [(a0, .inr (12, [w0, w1, .ref a2, w3, w4, w5, w6, w7, w8, w9, w10, w11, w12, w13, w14, w15, w16, w17, w18, w19, w20, w21, w22, w23, w24, w25, w26, w27, w28, w29, w30, w31, w32, w33, w34, w35, w36, w37, w38, w39, w40, w41, w42, w43, w44, w45, w46, w47, w48, w49, w50, w51, w52, w53, w54, w55, w56, w57, w58, w59])), (a2, .inl (K 0, 7, .inl f))] sz)) (va_Qi (S := Unit) (fun (r : Int32) (_ : Unit) => (r = (-3))) (fun u t => Wd D (va_A [(a0, .inr (12, [w0, w1, .ref a2, w3, w4, w5, w6, w7, w8, w9, w10, w11, w12, w13, w14, w15, w16, w17, w18, w19, w20, w21, w22, w23, w24, w25, w26, w27, w28, w29, w30, w31, w32, w33, w34, w35, w36, w37, w38, w39, w40, w41, w42, w43, w44, w45, w46, w47, w48, w49, w50, w51, w52, w53, w54, w55, w56, w57, w58, w59])), (a2, .inl (K 0, 7, .inl f))] sz) ((fun _ => []) u) t) (va_A [(a0, .inr (12, [w0, w1, .ref a2, w3, w4, w5, w6, w7, w8, w9, w10, w11, w12, w13, w14, w15, w16, w17, w18, w19, w20, w21, w22, w23, w24, w25, w26, w27, w28, w29, w30, w31, w32, w33, w34, w35, w36, w37, w38, w39, w40, w41, w42, w43, w44, w45, w46, w47, w48, w49, w50, w51, w52, w53, w54, w55, w56, w57, w58, w59])), (a2, .inl (K 0, 7, .inl f))] sz)) 0 0 (va_A [(a0, .inr (12, [w0, w1, .ref a2, w3, w4, w5, w6, w7, w8, w9, w10, w11, w12, w13, w14, w15, w16, w17, w18, w19, w20, w21, w22, w23, w24, w25, w26, w27, w28, w29, w30, w31, w32, w33, w34, w35, w36, w37, w38, w39, w40, w41, w42, w43, w44, w45, w46, w47, w48, w49, w50, w51, w52, w53, w54, w55, w56, w57, w58, w59])), (a2, .inl (K 0, 7, .inl f))] sz) := by
  refine Met.ofW (cc := cX12_tell) (maxL := 2) (ret := (some .int)) (by decide) rfl ?_
  intro p e s m args below meth c s₁ B hml hv
  obtain ⟨rfl, hsz, hP, hK, hD0, hN⟩ := hv
  have hx := B.exec
  have hb := B.bytes
  have hr := B.returns
  have hts := atoms_spec (ws := wsX12_tell) B.pre
  have hown : s.vm.findClass RX12 = some m.cls := findClass_of_methodNamed B.named
  have hlocks := B.notSynchronized
  subst hsz
  have hD := hD0.self (sz := s.heap.size)
  generalize hAe : va_A [(a0, .inr (12, [w0, w1, .ref a2, w3, w4, w5, w6, w7, w8, w9, w10, w11, w12, w13, w14, w15, w16, w17, w18, w19, w20, w21, w22, w23, w24, w25, w26, w27, w28, w29, w30, w31, w32, w33, w34, w35, w36, w37, w38, w39, w40, w41, w42, w43, w44, w45, w46, w47, w48, w49, w50, w51, w52, w53, w54, w55, w56, w57, w58, w59])), (a2, .inl (K 0, 7, .inl f))] s.heap.size = A at hD ⊢
  have hA : ∀ q : Nat, s.heap.size ≤ q → A q := fun q h => by rw [← hAe]; exact Or.inr h
  have hS : va_S A s.heap s.heap [] := va_S.rf
  have hP : va_P D vwCl [(a0, .inr (12, [w0, w1, .ref a2, w3, w4, w5, w6, w7, w8, w9, w10, w11, w12, w13, w14, w15, w16, w17, w18, w19, w20, w21, w22, w23, w24, w25, w26, w27, w28, w29, w30, w31, w32, w33, w34, w35, w36, w37, w38, w39, w40, w41, w42, w43, w44, w45, w46, w47, w48, w49, w50, w51, w52, w53, w54, w55, w56, w57, w58, w59])), (a2, .inl (K 0, 7, .inl f))] s.heap := hP
  have hl := lv_entry [.ref a0, .int (-3)] (n := 2) (Nat.le_of_ble_eq_true rfl)
  rw [lg_entry_eq]
  generalize (lg_sl [.ref a0, .int (-3)] ++ List.replicate (2 - (lg_sl [.ref a0, .int (-3)]).length) Slot.unset).toArray = ls at hl ⊢
  have hl : lv_has ls 2 [(0, .ref a0), (1, .int (-3))] := hl
  have hw12 : ∀ w ∈ wsX120, w ∈ wsX12_tell := fun w h => (List.mem_cons_of_mem _ (List.mem_append_right _ h))
  refine lv_aload_n hx hb dX12_tell_0 rfl (lv_at hl 0 rfl) ?_
  refine lv_iload_n hx hb dX12_tell_1 rfl (lv_at hl 1 rfl) ?_
  refine lv_if_ge (tgt := 9) hx hb dX12_tell_2 (by decide) (fun c_1 => absurd c_1 (by decide)) (fun c_1 => ?_)
  refine lv_iload_n hx hb dX12_tell_5 rfl (lv_at hl 1 rfl) ?_
  refine lv_goto (tgt := 10) hx hb dX12_tell_6 (by decide) ?_
  refine va_put (ci := 12) (v := .int (-3)) (ty := .int) (C := RX12) (T := TX12) (N := 60) hx hb hts hw12 tyX12 tyX12_ok nmX12 hown hK hP hD hS 0 rfl rfl 1 (by decide) (hts (.fieldLink RX12 161 "SmokeTuneModel" "status" "I") (List.mem_cons_of_mem _ (List.mem_append_left _ (List.mem_of_getElem? (i := 0) rfl)))) (fun _ h9 => h9) rfl (by decide +kernel) (by first | rfl | decide) (by first | rfl | decide) (Nat.le_of_ble_eq_true rfl) dX12_tell_10 (fun H locs hP hD hS => ?_)
  have hP : va_P D vwCl [(a0, .inr (12, [w0, .int (-3), .ref a2, w3, w4, w5, w6, w7, w8, w9, w10, w11, w12, w13, w14, w15, w16, w17, w18, w19, w20, w21, w22, w23, w24, w25, w26, w27, w28, w29, w30, w31, w32, w33, w34, w35, w36, w37, w38, w39, w40, w41, w42, w43, w44, w45, w46, w47, w48, w49, w50, w51, w52, w53, w54, w55, w56, w57, w58, w59])), (a2, .inl (K 0, 7, .inl f))] H := hP
  have hD : va_D A [(a0, .inr (12, [w0, .int (-3), .ref a2, w3, w4, w5, w6, w7, w8, w9, w10, w11, w12, w13, w14, w15, w16, w17, w18, w19, w20, w21, w22, w23, w24, w25, w26, w27, w28, w29, w30, w31, w32, w33, w34, w35, w36, w37, w38, w39, w40, w41, w42, w43, w44, w45, w46, w47, w48, w49, w50, w51, w52, w53, w54, w55, w56, w57, w58, w59])), (a2, .inl (K 0, 7, .inl f))] := hD
  refine lv_iload_n hx hb dX12_tell_13 rfl (lv_at hl 1 rfl) ?_
  refine lv_if_ge (tgt := 28) hx hb dX12_tell_14 (by decide) (fun c_2 => absurd c_2 (by decide)) (fun c_2 => ?_)
  refine lv_aload_n hx hb dX12_tell_17 rfl (lv_at hl 0 rfl) ?_
  refine va_get (ci := 12) (v := .ref a2) (C := RX12) (T := TX12) (N := 60) hx hb hts hw12 hown hK hP 0 rfl rfl 2 (by decide) (hts (.fieldLink RX12 7 "SmokeTuneModel" "refusals" "[I") (List.mem_cons_of_mem _ (List.mem_append_left _ (List.mem_of_getElem? (i := 1) rfl)))) (fun _ h9 => h9) rfl dX12_tell_18 ?_
  refine lv_iload_n hx hb dX12_tell_21 rfl (lv_at hl 1 rfl) ?_
  refine lv_ineg hx hb dX12_tell_22 ?_
  refine lv_topi (fun x_3 ex_3 => ?_)
  obtain rfl : x_3 = 3 := ex_3.trans (by first | rfl | decide)
  refine lv_dup2_11 hx hb dX12_tell_23 rfl rfl ?_
  refine va_iald hx hb hK hP 1 0 rfl rfl (i_in (x := 3) rfl (by omega)) dX12_tell_24 ?_
  refine lv_topi (fun x_4 ex_4 => ?_)
  refine lv_iconst (v := 1) hx hb dX12_tell_25 (by decide) ?_
  refine lv_iadd hx hb dX12_tell_26 ?_
  refine lv_topi (fun x_5 ex_5 => ?_)
  refine va_iast hx hb hK hP hD hS 1 0 rfl rfl (i_in (x := 3) rfl (by omega)) dX12_tell_27 (fun H locs hP hD hS => ?_)
  generalize hf_6 : (upd f (3 : Int32).toNatClampNeg x_5) = f_6 at hP hD
  have hP : va_P D vwCl [(a0, .inr (12, [w0, .int (-3), .ref a2, w3, w4, w5, w6, w7, w8, w9, w10, w11, w12, w13, w14, w15, w16, w17, w18, w19, w20, w21, w22, w23, w24, w25, w26, w27, w28, w29, w30, w31, w32, w33, w34, w35, w36, w37, w38, w39, w40, w41, w42, w43, w44, w45, w46, w47, w48, w49, w50, w51, w52, w53, w54, w55, w56, w57, w58, w59])), (a2, .inl (K 0, 7, .inl f_6))] H := hP
  have hD : va_D A [(a0, .inr (12, [w0, .int (-3), .ref a2, w3, w4, w5, w6, w7, w8, w9, w10, w11, w12, w13, w14, w15, w16, w17, w18, w19, w20, w21, w22, w23, w24, w25, w26, w27, w28, w29, w30, w31, w32, w33, w34, w35, w36, w37, w38, w39, w40, w41, w42, w43, w44, w45, w46, w47, w48, w49, w50, w51, w52, w53, w54, w55, w56, w57, w58, w59])), (a2, .inl (K 0, 7, .inl f_6))] := hD
  refine lv_iload_n hx hb dX12_tell_28 rfl (lv_at hl 1 rfl) ?_
  exact W.iret (v := (-3)) hx hb hr (fun t ht hW => ⟨⟨(-3), (), rfl, (by first | exact rfl), Wd.nil⟩, hS.F ht⟩) hS.2.2 dX12_tell_29
set_option maxHeartbeats 4000000 in
set_option maxRecDepth 100000 in
theorem m_tell_6 (l : Launch) (D : va_G) (K : Nat → ClassId) (a0 : Nat) (w0 : Value) (w1 : Value) (a2 : Nat) (w3 : Value) (w4 : Value) (w5 : Value) (w6 : Value) (w7 : Value) (w8 : Value) (w9 : Value) (w10 : Value) (w11 : Value) (w12 : Value) (w13 : Value) (w14 : Value) (w15 : Value) (w16 : Value) (w17 : Value) (w18 : Value) (w19 : Value) (w20 : Value) (w21 : Value) (w22 : Value) (w23 : Value) (w24 : Value) (w25 : Value) (w26 : Value) (w27 : Value) (w28 : Value) (w29 : Value) (w30 : Value) (w31 : Value) (w32 : Value) (w33 : Value) (w34 : Value) (w35 : Value) (w36 : Value) (w37 : Value) (w38 : Value) (w39 : Value) (w40 : Value) (w41 : Value) (w42 : Value) (w43 : Value) (w44 : Value) (w45 : Value) (w46 : Value) (w47 : Value) (w48 : Value) (w49 : Value) (w50 : Value) (w51 : Value) (w52 : Value) (w53 : Value) (w54 : Value) (w55 : Value) (w56 : Value) (w57 : Value) (w58 : Value) (w59 : Value) (f : Nat → Int32) (sz : Nat) : Met l yX12_tell wsX12_tell ({ frames := 0, cells := 0, slots := 0, locals := 0 }) (va_Pc [.ref a0, .int (-6)] (Pre D K [(a0, .inr (12, [w0, w1, .ref a2, w3, w4, w5, w6, w7, w8, w9, w10, w11, w12, w13, w14, w15, w16, w17, w18, w19, w20, w21, w22, w23, w24, w25, w26, w27, w28, w29, w30, w31, w32, w33, w34, w35, w36, w37, w38, w39, w40, w41, w42, w43, w44, w45, w46, w47, w48, w49, w50, w51, w52, w53, w54, w55, w56, w57, w58, w59])), (a2, .inl (K 0, 7, .inl f))] sz)) (va_Qi (S := Unit) (fun (r : Int32) (_ : Unit) => (r = (-6))) (fun u t => Wd D (va_A [(a0, .inr (12, [w0, w1, .ref a2, w3, w4, w5, w6, w7, w8, w9, w10, w11, w12, w13, w14, w15, w16, w17, w18, w19, w20, w21, w22, w23, w24, w25, w26, w27, w28, w29, w30, w31, w32, w33, w34, w35, w36, w37, w38, w39, w40, w41, w42, w43, w44, w45, w46, w47, w48, w49, w50, w51, w52, w53, w54, w55, w56, w57, w58, w59])), (a2, .inl (K 0, 7, .inl f))] sz) ((fun _ => []) u) t) (va_A [(a0, .inr (12, [w0, w1, .ref a2, w3, w4, w5, w6, w7, w8, w9, w10, w11, w12, w13, w14, w15, w16, w17, w18, w19, w20, w21, w22, w23, w24, w25, w26, w27, w28, w29, w30, w31, w32, w33, w34, w35, w36, w37, w38, w39, w40, w41, w42, w43, w44, w45, w46, w47, w48, w49, w50, w51, w52, w53, w54, w55, w56, w57, w58, w59])), (a2, .inl (K 0, 7, .inl f))] sz)) 0 0 (va_A [(a0, .inr (12, [w0, w1, .ref a2, w3, w4, w5, w6, w7, w8, w9, w10, w11, w12, w13, w14, w15, w16, w17, w18, w19, w20, w21, w22, w23, w24, w25, w26, w27, w28, w29, w30, w31, w32, w33, w34, w35, w36, w37, w38, w39, w40, w41, w42, w43, w44, w45, w46, w47, w48, w49, w50, w51, w52, w53, w54, w55, w56, w57, w58, w59])), (a2, .inl (K 0, 7, .inl f))] sz) := by
  refine Met.ofW (cc := cX12_tell) (maxL := 2) (ret := (some .int)) (by decide) rfl ?_
  intro p e s m args below meth c s₁ B hml hv
  obtain ⟨rfl, hsz, hP, hK, hD0, hN⟩ := hv
  have hx := B.exec
  have hb := B.bytes
  have hr := B.returns
  have hts := atoms_spec (ws := wsX12_tell) B.pre
  have hown : s.vm.findClass RX12 = some m.cls := findClass_of_methodNamed B.named
  have hlocks := B.notSynchronized
  subst hsz
  have hD := hD0.self (sz := s.heap.size)
  generalize hAe : va_A [(a0, .inr (12, [w0, w1, .ref a2, w3, w4, w5, w6, w7, w8, w9, w10, w11, w12, w13, w14, w15, w16, w17, w18, w19, w20, w21, w22, w23, w24, w25, w26, w27, w28, w29, w30, w31, w32, w33, w34, w35, w36, w37, w38, w39, w40, w41, w42, w43, w44, w45, w46, w47, w48, w49, w50, w51, w52, w53, w54, w55, w56, w57, w58, w59])), (a2, .inl (K 0, 7, .inl f))] s.heap.size = A at hD ⊢
  have hA : ∀ q : Nat, s.heap.size ≤ q → A q := fun q h => by rw [← hAe]; exact Or.inr h
  have hS : va_S A s.heap s.heap [] := va_S.rf
  have hP : va_P D vwCl [(a0, .inr (12, [w0, w1, .ref a2, w3, w4, w5, w6, w7, w8, w9, w10, w11, w12, w13, w14, w15, w16, w17, w18, w19, w20, w21, w22, w23, w24, w25, w26, w27, w28, w29, w30, w31, w32, w33, w34, w35, w36, w37, w38, w39, w40, w41, w42, w43, w44, w45, w46, w47, w48, w49, w50, w51, w52, w53, w54, w55, w56, w57, w58, w59])), (a2, .inl (K 0, 7, .inl f))] s.heap := hP
  have hl := lv_entry [.ref a0, .int (-6)] (n := 2) (Nat.le_of_ble_eq_true rfl)
  rw [lg_entry_eq]
  generalize (lg_sl [.ref a0, .int (-6)] ++ List.replicate (2 - (lg_sl [.ref a0, .int (-6)]).length) Slot.unset).toArray = ls at hl ⊢
  have hl : lv_has ls 2 [(0, .ref a0), (1, .int (-6))] := hl
  have hw12 : ∀ w ∈ wsX120, w ∈ wsX12_tell := fun w h => (List.mem_cons_of_mem _ (List.mem_append_right _ h))
  refine lv_aload_n hx hb dX12_tell_0 rfl (lv_at hl 0 rfl) ?_
  refine lv_iload_n hx hb dX12_tell_1 rfl (lv_at hl 1 rfl) ?_
  refine lv_if_ge (tgt := 9) hx hb dX12_tell_2 (by decide) (fun c_1 => absurd c_1 (by decide)) (fun c_1 => ?_)
  refine lv_iload_n hx hb dX12_tell_5 rfl (lv_at hl 1 rfl) ?_
  refine lv_goto (tgt := 10) hx hb dX12_tell_6 (by decide) ?_
  refine va_put (ci := 12) (v := .int (-6)) (ty := .int) (C := RX12) (T := TX12) (N := 60) hx hb hts hw12 tyX12 tyX12_ok nmX12 hown hK hP hD hS 0 rfl rfl 1 (by decide) (hts (.fieldLink RX12 161 "SmokeTuneModel" "status" "I") (List.mem_cons_of_mem _ (List.mem_append_left _ (List.mem_of_getElem? (i := 0) rfl)))) (fun _ h9 => h9) rfl (by decide +kernel) (by first | rfl | decide) (by first | rfl | decide) (Nat.le_of_ble_eq_true rfl) dX12_tell_10 (fun H locs hP hD hS => ?_)
  have hP : va_P D vwCl [(a0, .inr (12, [w0, .int (-6), .ref a2, w3, w4, w5, w6, w7, w8, w9, w10, w11, w12, w13, w14, w15, w16, w17, w18, w19, w20, w21, w22, w23, w24, w25, w26, w27, w28, w29, w30, w31, w32, w33, w34, w35, w36, w37, w38, w39, w40, w41, w42, w43, w44, w45, w46, w47, w48, w49, w50, w51, w52, w53, w54, w55, w56, w57, w58, w59])), (a2, .inl (K 0, 7, .inl f))] H := hP
  have hD : va_D A [(a0, .inr (12, [w0, .int (-6), .ref a2, w3, w4, w5, w6, w7, w8, w9, w10, w11, w12, w13, w14, w15, w16, w17, w18, w19, w20, w21, w22, w23, w24, w25, w26, w27, w28, w29, w30, w31, w32, w33, w34, w35, w36, w37, w38, w39, w40, w41, w42, w43, w44, w45, w46, w47, w48, w49, w50, w51, w52, w53, w54, w55, w56, w57, w58, w59])), (a2, .inl (K 0, 7, .inl f))] := hD
  refine lv_iload_n hx hb dX12_tell_13 rfl (lv_at hl 1 rfl) ?_
  refine lv_if_ge (tgt := 28) hx hb dX12_tell_14 (by decide) (fun c_2 => absurd c_2 (by decide)) (fun c_2 => ?_)
  refine lv_aload_n hx hb dX12_tell_17 rfl (lv_at hl 0 rfl) ?_
  refine va_get (ci := 12) (v := .ref a2) (C := RX12) (T := TX12) (N := 60) hx hb hts hw12 hown hK hP 0 rfl rfl 2 (by decide) (hts (.fieldLink RX12 7 "SmokeTuneModel" "refusals" "[I") (List.mem_cons_of_mem _ (List.mem_append_left _ (List.mem_of_getElem? (i := 1) rfl)))) (fun _ h9 => h9) rfl dX12_tell_18 ?_
  refine lv_iload_n hx hb dX12_tell_21 rfl (lv_at hl 1 rfl) ?_
  refine lv_ineg hx hb dX12_tell_22 ?_
  refine lv_topi (fun x_3 ex_3 => ?_)
  obtain rfl : x_3 = 6 := ex_3.trans (by first | rfl | decide)
  refine lv_dup2_11 hx hb dX12_tell_23 rfl rfl ?_
  refine va_iald hx hb hK hP 1 0 rfl rfl (i_in (x := 6) rfl (by omega)) dX12_tell_24 ?_
  refine lv_topi (fun x_4 ex_4 => ?_)
  refine lv_iconst (v := 1) hx hb dX12_tell_25 (by decide) ?_
  refine lv_iadd hx hb dX12_tell_26 ?_
  refine lv_topi (fun x_5 ex_5 => ?_)
  refine va_iast hx hb hK hP hD hS 1 0 rfl rfl (i_in (x := 6) rfl (by omega)) dX12_tell_27 (fun H locs hP hD hS => ?_)
  generalize hf_6 : (upd f (6 : Int32).toNatClampNeg x_5) = f_6 at hP hD
  have hP : va_P D vwCl [(a0, .inr (12, [w0, .int (-6), .ref a2, w3, w4, w5, w6, w7, w8, w9, w10, w11, w12, w13, w14, w15, w16, w17, w18, w19, w20, w21, w22, w23, w24, w25, w26, w27, w28, w29, w30, w31, w32, w33, w34, w35, w36, w37, w38, w39, w40, w41, w42, w43, w44, w45, w46, w47, w48, w49, w50, w51, w52, w53, w54, w55, w56, w57, w58, w59])), (a2, .inl (K 0, 7, .inl f_6))] H := hP
  have hD : va_D A [(a0, .inr (12, [w0, .int (-6), .ref a2, w3, w4, w5, w6, w7, w8, w9, w10, w11, w12, w13, w14, w15, w16, w17, w18, w19, w20, w21, w22, w23, w24, w25, w26, w27, w28, w29, w30, w31, w32, w33, w34, w35, w36, w37, w38, w39, w40, w41, w42, w43, w44, w45, w46, w47, w48, w49, w50, w51, w52, w53, w54, w55, w56, w57, w58, w59])), (a2, .inl (K 0, 7, .inl f_6))] := hD
  refine lv_iload_n hx hb dX12_tell_28 rfl (lv_at hl 1 rfl) ?_
  exact W.iret (v := (-6)) hx hb hr (fun t ht hW => ⟨⟨(-6), (), rfl, (by first | exact rfl), Wd.nil⟩, hS.F ht⟩) hS.2.2 dX12_tell_29
set_option maxHeartbeats 4000000 in
set_option maxRecDepth 100000 in
theorem m_tell_pos (l : Launch) (D : va_G) (K : Nat → ClassId) (a0 : Nat) (x : Int32) (w0 : Value) (w1 : Value) (w2 : Value) (w3 : Value) (w4 : Value) (w5 : Value) (w6 : Value) (w7 : Value) (w8 : Value) (w9 : Value) (w10 : Value) (w11 : Value) (w12 : Value) (w13 : Value) (w14 : Value) (w15 : Value) (w16 : Value) (w17 : Value) (w18 : Value) (w19 : Value) (w20 : Value) (w21 : Value) (w22 : Value) (w23 : Value) (w24 : Value) (w25 : Value) (w26 : Value) (w27 : Value) (w28 : Value) (w29 : Value) (w30 : Value) (w31 : Value) (w32 : Value) (w33 : Value) (w34 : Value) (w35 : Value) (w36 : Value) (w37 : Value) (w38 : Value) (w39 : Value) (w40 : Value) (w41 : Value) (w42 : Value) (w43 : Value) (w44 : Value) (w45 : Value) (w46 : Value) (w47 : Value) (w48 : Value) (w49 : Value) (w50 : Value) (w51 : Value) (w52 : Value) (w53 : Value) (w54 : Value) (w55 : Value) (w56 : Value) (w57 : Value) (w58 : Value) (w59 : Value) (X : Int) (sz : Nat) (qx : x.toInt = X) (hpos : 0 ≤ X) : Met l yX12_tell wsX12_tell ({ frames := 0, cells := 0, slots := 0, locals := 0 }) (va_Pc [.ref a0, .int x] (Pre D K [(a0, .inr (12, [w0, w1, w2, w3, w4, w5, w6, w7, w8, w9, w10, w11, w12, w13, w14, w15, w16, w17, w18, w19, w20, w21, w22, w23, w24, w25, w26, w27, w28, w29, w30, w31, w32, w33, w34, w35, w36, w37, w38, w39, w40, w41, w42, w43, w44, w45, w46, w47, w48, w49, w50, w51, w52, w53, w54, w55, w56, w57, w58, w59]))] sz)) (va_Qi (S := Unit) (fun (r : Int32) (_ : Unit) => (r = x)) (fun u t => Wd D (va_A [(a0, .inr (12, [w0, w1, w2, w3, w4, w5, w6, w7, w8, w9, w10, w11, w12, w13, w14, w15, w16, w17, w18, w19, w20, w21, w22, w23, w24, w25, w26, w27, w28, w29, w30, w31, w32, w33, w34, w35, w36, w37, w38, w39, w40, w41, w42, w43, w44, w45, w46, w47, w48, w49, w50, w51, w52, w53, w54, w55, w56, w57, w58, w59]))] sz) ((fun _ => []) u) t) (va_A [(a0, .inr (12, [w0, w1, w2, w3, w4, w5, w6, w7, w8, w9, w10, w11, w12, w13, w14, w15, w16, w17, w18, w19, w20, w21, w22, w23, w24, w25, w26, w27, w28, w29, w30, w31, w32, w33, w34, w35, w36, w37, w38, w39, w40, w41, w42, w43, w44, w45, w46, w47, w48, w49, w50, w51, w52, w53, w54, w55, w56, w57, w58, w59]))] sz)) 0 0 (va_A [(a0, .inr (12, [w0, w1, w2, w3, w4, w5, w6, w7, w8, w9, w10, w11, w12, w13, w14, w15, w16, w17, w18, w19, w20, w21, w22, w23, w24, w25, w26, w27, w28, w29, w30, w31, w32, w33, w34, w35, w36, w37, w38, w39, w40, w41, w42, w43, w44, w45, w46, w47, w48, w49, w50, w51, w52, w53, w54, w55, w56, w57, w58, w59]))] sz) := by
  refine Met.ofW (cc := cX12_tell) (maxL := 2) (ret := (some .int)) (by decide) rfl ?_
  intro p e s m args below meth c s₁ B hml hv
  obtain ⟨rfl, hsz, hP, hK, hD0, hN⟩ := hv
  have hx := B.exec
  have hb := B.bytes
  have hr := B.returns
  have hts := atoms_spec (ws := wsX12_tell) B.pre
  have hown : s.vm.findClass RX12 = some m.cls := findClass_of_methodNamed B.named
  have hlocks := B.notSynchronized
  subst hsz
  have hD := hD0.self (sz := s.heap.size)
  generalize hAe : va_A [(a0, .inr (12, [w0, w1, w2, w3, w4, w5, w6, w7, w8, w9, w10, w11, w12, w13, w14, w15, w16, w17, w18, w19, w20, w21, w22, w23, w24, w25, w26, w27, w28, w29, w30, w31, w32, w33, w34, w35, w36, w37, w38, w39, w40, w41, w42, w43, w44, w45, w46, w47, w48, w49, w50, w51, w52, w53, w54, w55, w56, w57, w58, w59]))] s.heap.size = A at hD ⊢
  have hA : ∀ q : Nat, s.heap.size ≤ q → A q := fun q h => by rw [← hAe]; exact Or.inr h
  have hS : va_S A s.heap s.heap [] := va_S.rf
  have hP : va_P D vwCl [(a0, .inr (12, [w0, w1, w2, w3, w4, w5, w6, w7, w8, w9, w10, w11, w12, w13, w14, w15, w16, w17, w18, w19, w20, w21, w22, w23, w24, w25, w26, w27, w28, w29, w30, w31, w32, w33, w34, w35, w36, w37, w38, w39, w40, w41, w42, w43, w44, w45, w46, w47, w48, w49, w50, w51, w52, w53, w54, w55, w56, w57, w58, w59]))] s.heap := hP
  have hl := lv_entry [.ref a0, .int x] (n := 2) (Nat.le_of_ble_eq_true rfl)
  rw [lg_entry_eq]
  generalize (lg_sl [.ref a0, .int x] ++ List.replicate (2 - (lg_sl [.ref a0, .int x]).length) Slot.unset).toArray = ls at hl ⊢
  have hl : lv_has ls 2 [(0, .ref a0), (1, .int x)] := hl
  have hw12 : ∀ w ∈ wsX120, w ∈ wsX12_tell := fun w h => (List.mem_cons_of_mem _ (List.mem_append_right _ h))
  refine lv_aload_n hx hb dX12_tell_0 rfl (lv_at hl 0 rfl) ?_
  refine lv_iload_n hx hb dX12_tell_1 rfl (lv_at hl 1 rfl) ?_
  refine lv_if_ge (tgt := 9) hx hb dX12_tell_2 (by decide) (fun c_1 => ?_) (fun c_1 => ?_)
  · have c_1i := i_le (x := 0) (y := X) rfl qx c_1
    refine lv_iconst (v := 0) hx hb dX12_tell_9 (by decide) ?_
    refine va_put (ci := 12) (v := .int 0) (ty := .int) (C := RX12) (T := TX12) (N := 60) hx hb hts hw12 tyX12 tyX12_ok nmX12 hown hK hP hD hS 0 rfl rfl 1 (by decide) (hts (.fieldLink RX12 161 "SmokeTuneModel" "status" "I") (List.mem_cons_of_mem _ (List.mem_append_left _ (List.mem_of_getElem? (i := 0) rfl)))) (fun _ h9 => h9) rfl (by decide +kernel) (by first | rfl | decide) (by first | rfl | decide) (Nat.le_of_ble_eq_true rfl) dX12_tell_10 (fun H locs hP hD hS => ?_)
    have hP : va_P D vwCl [(a0, .inr (12, [w0, .int 0, w2, w3, w4, w5, w6, w7, w8, w9, w10, w11, w12, w13, w14, w15, w16, w17, w18, w19, w20, w21, w22, w23, w24, w25, w26, w27, w28, w29, w30, w31, w32, w33, w34, w35, w36, w37, w38, w39, w40, w41, w42, w43, w44, w45, w46, w47, w48, w49, w50, w51, w52, w53, w54, w55, w56, w57, w58, w59]))] H := hP
    have hD : va_D A [(a0, .inr (12, [w0, .int 0, w2, w3, w4, w5, w6, w7, w8, w9, w10, w11, w12, w13, w14, w15, w16, w17, w18, w19, w20, w21, w22, w23, w24, w25, w26, w27, w28, w29, w30, w31, w32, w33, w34, w35, w36, w37, w38, w39, w40, w41, w42, w43, w44, w45, w46, w47, w48, w49, w50, w51, w52, w53, w54, w55, w56, w57, w58, w59]))] := hD
    refine lv_iload_n hx hb dX12_tell_13 rfl (lv_at hl 1 rfl) ?_
    refine lv_if_ge (tgt := 28) hx hb dX12_tell_14 (by decide) (fun c_2 => ?_) (fun c_2 => ?_)
    · have c_2i := i_le (x := 0) (y := X) rfl qx c_2
      refine lv_iload_n hx hb dX12_tell_28 rfl (lv_at hl 1 rfl) ?_
      exact W.iret (v := x) hx hb hr (fun t ht hW => ⟨⟨x, (), rfl, (by first | exact rfl), Wd.nil⟩, hS.F ht⟩) hS.2.2 dX12_tell_29
    · have c_2i := i_nle (x := 0) (y := X) rfl qx c_2
      exfalso; omega
  · have c_1i := i_nle (x := 0) (y := X) rfl qx c_1
    exfalso; omega
set_option maxHeartbeats 4000000 in
set_option maxRecDepth 100000 in
theorem m_is (l : Launch) (D : va_G) (K : Nat → ClassId) (a : Int32) (b : Int32) (sz : Nat) : Met l yX12_is wsX12_is ({ frames := 0, cells := 0, slots := 0, locals := 0 }) (va_Pc [.int a, .int b] (Pre D K [] sz)) (vp_Si (fun r : Int32 => (r = 1 ∧ (a >>> (b &&& 31)) &&& 1 = 1) ∨ (r = 0 ∧ ¬ (a >>> (b &&& 31)) &&& 1 = 1))) 0 0 (fun _ => False) := by
  refine Met.ofW (cc := cX12_is) (maxL := 2) (ret := (some .boolean)) (by decide) rfl ?_
  intro p e s m args below meth c s₁ B hml hv
  obtain ⟨rfl, hsz, hP, hK, hD0, hN⟩ := hv
  have hx := B.exec
  have hb := B.bytes
  have hr := B.returns
  have hts := atoms_spec (ws := wsX12_is) B.pre
  have hown : s.vm.findClass RX12 = some m.cls := findClass_of_methodNamed B.named
  have hlocks := B.notSynchronized
  subst hsz
  have hD := hD0
  have hP : va_P D vwCl [] s.heap := hP
  have hl := lv_entry [.int a, .int b] (n := 2) (Nat.le_of_ble_eq_true rfl)
  rw [lg_entry_eq]
  generalize (lg_sl [.int a, .int b] ++ List.replicate (2 - (lg_sl [.int a, .int b]).length) Slot.unset).toArray = ls at hl ⊢
  have hl : lv_has ls 2 [(0, .int a), (1, .int b)] := hl
  refine lv_iload_n hx hb dX12_is_0 rfl (lv_at hl 0 rfl) ?_
  refine lv_iload_n hx hb dX12_is_1 rfl (lv_at hl 1 rfl) ?_
  refine lv_ishr hx hb dX12_is_2 ?_
  refine lv_topi (fun x_1 ex_1 => ?_)
  refine lv_iconst (v := 1) hx hb dX12_is_3 (by decide) ?_
  refine lv_iand hx hb dX12_is_4 ?_
  refine lv_topi (fun x_2 ex_2 => ?_)
  refine lv_iconst (v := 1) hx hb dX12_is_5 (by decide) ?_
  refine lv_icmp_ne (tgt := 13) hx hb dX12_is_6 (by decide) (fun c_3 => ?_) (fun c_3 => ?_)
  · have c_3i := i_ne (x := x_2.toInt) (y := 1) rfl rfl c_3
    refine lv_iconst (v := 0) hx hb dX12_is_13 (by decide) ?_
    exact W.zret (v := 0) hx hb hr (by first | rfl | decide) (fun t ht hW => ⟨_, rfl, (by first | exact Or.inr (⟨rfl, by first | omega | decide | (subst_vars; assumption) | (subst_vars; symm; assumption)⟩)), ht⟩) (fun q hq => by cases hq) dX12_is_14
  · have c_3i := i_eq (x := x_2.toInt) (y := 1) rfl rfl c_3
    refine lv_iconst (v := 1) hx hb dX12_is_9 (by decide) ?_
    refine lv_goto (tgt := 14) hx hb dX12_is_10 (by decide) ?_
    exact W.zret (v := 1) hx hb hr (by first | rfl | decide) (fun t ht hW => ⟨_, rfl, (by first | exact Or.inl (⟨rfl, by first | omega | decide | (subst_vars; assumption) | (subst_vars; symm; assumption)⟩)), ht⟩) (fun q hq => by cases hq) dX12_is_14
set_option maxHeartbeats 4000000 in
set_option maxRecDepth 100000 in
theorem m_four_0 (l : Launch) (D : va_G) (K : Nat → ClassId) (a0 : Nat) (x : Int32) (w0 : Value) (w1 : Value) (w2 : Value) (w3 : Value) (w4 : Value) (w5 : Value) (w6 : Value) (w7 : Value) (w8 : Value) (w9 : Value) (w10 : Value) (w11 : Value) (a1 : Nat) (w14 : Value) (w15 : Value) (w16 : Value) (w17 : Value) (w18 : Value) (w19 : Value) (w20 : Value) (w21 : Value) (w22 : Value) (w23 : Value) (w24 : Value) (w25 : Value) (w26 : Value) (w27 : Value) (w28 : Value) (w29 : Value) (w30 : Value) (w31 : Value) (w32 : Value) (w33 : Value) (w34 : Value) (w35 : Value) (w36 : Value) (w37 : Value) (w38 : Value) (w39 : Value) (w40 : Value) (w41 : Value) (w42 : Value) (w43 : Value) (w44 : Value) (w45 : Value) (w46 : Value) (w47 : Value) (w48 : Value) (w49 : Value) (w50 : Value) (w51 : Value) (w52 : Value) (w53 : Value) (w54 : Value) (w55 : Value) (w56 : Value) (w57 : Value) (w58 : Value) (w59 : Value) (f : Nat → Int32) (sz : Nat) : Met l yX12_four wsX12_four ({ frames := 0, cells := 0, slots := 0, locals := 0 }) (va_Pc [.ref a0, .int x] (Pre D K [(a0, .inr (12, [w0, w1, w2, w3, w4, w5, w6, w7, w8, w9, w10, w11, .ref a1, .int 0, w14, w15, w16, w17, w18, w19, w20, w21, w22, w23, w24, w25, w26, w27, w28, w29, w30, w31, w32, w33, w34, w35, w36, w37, w38, w39, w40, w41, w42, w43, w44, w45, w46, w47, w48, w49, w50, w51, w52, w53, w54, w55, w56, w57, w58, w59])), (a1, .inl (K 0, 400, .inl f))] sz)) (va_Qv (S := (Nat → Nat) × (Nat → Nat → Int32) × (Nat → Nat → Int64) × (Nat → Int32)) (fun _ => True) (fun u t => Wd D (va_A [(a0, .inr (12, [w0, w1, w2, w3, w4, w5, w6, w7, w8, w9, w10, w11, .ref a1, .int 0, w14, w15, w16, w17, w18, w19, w20, w21, w22, w23, w24, w25, w26, w27, w28, w29, w30, w31, w32, w33, w34, w35, w36, w37, w38, w39, w40, w41, w42, w43, w44, w45, w46, w47, w48, w49, w50, w51, w52, w53, w54, w55, w56, w57, w58, w59])), (a1, .inl (K 0, 400, .inl f))] sz) ((fun u => [(a0, .inr (12, [w0, w1, w2, w3, w4, w5, w6, w7, w8, w9, w10, w11, .ref a1, .int 4, w14, w15, w16, w17, w18, w19, w20, w21, w22, w23, w24, w25, w26, w27, w28, w29, w30, w31, w32, w33, w34, w35, w36, w37, w38, w39, w40, w41, w42, w43, w44, w45, w46, w47, w48, w49, w50, w51, w52, w53, w54, w55, w56, w57, w58, w59])), (a1, .inl (K 0, 400, .inl ((u.2.1 0))))]) u) t) (va_A [(a0, .inr (12, [w0, w1, w2, w3, w4, w5, w6, w7, w8, w9, w10, w11, .ref a1, .int 0, w14, w15, w16, w17, w18, w19, w20, w21, w22, w23, w24, w25, w26, w27, w28, w29, w30, w31, w32, w33, w34, w35, w36, w37, w38, w39, w40, w41, w42, w43, w44, w45, w46, w47, w48, w49, w50, w51, w52, w53, w54, w55, w56, w57, w58, w59])), (a1, .inl (K 0, 400, .inl f))] sz)) 0 0 (va_A [(a0, .inr (12, [w0, w1, w2, w3, w4, w5, w6, w7, w8, w9, w10, w11, .ref a1, .int 0, w14, w15, w16, w17, w18, w19, w20, w21, w22, w23, w24, w25, w26, w27, w28, w29, w30, w31, w32, w33, w34, w35, w36, w37, w38, w39, w40, w41, w42, w43, w44, w45, w46, w47, w48, w49, w50, w51, w52, w53, w54, w55, w56, w57, w58, w59])), (a1, .inl (K 0, 400, .inl f))] sz) := by
  refine Met.ofW (cc := cX12_four) (maxL := 3) (ret := none) (by decide) rfl ?_
  intro p e s m args below meth c s₁ B hml hv
  obtain ⟨rfl, hsz, hP, hK, hD0, hN⟩ := hv
  have hx := B.exec
  have hb := B.bytes
  have hr := B.returns
  have hts := atoms_spec (ws := wsX12_four) B.pre
  have hown : s.vm.findClass RX12 = some m.cls := findClass_of_methodNamed B.named
  have hlocks := B.notSynchronized
  subst hsz
  have hD := hD0.self (sz := s.heap.size)
  generalize hAe : va_A [(a0, .inr (12, [w0, w1, w2, w3, w4, w5, w6, w7, w8, w9, w10, w11, .ref a1, .int 0, w14, w15, w16, w17, w18, w19, w20, w21, w22, w23, w24, w25, w26, w27, w28, w29, w30, w31, w32, w33, w34, w35, w36, w37, w38, w39, w40, w41, w42, w43, w44, w45, w46, w47, w48, w49, w50, w51, w52, w53, w54, w55, w56, w57, w58, w59])), (a1, .inl (K 0, 400, .inl f))] s.heap.size = A at hD ⊢
  have hA : ∀ q : Nat, s.heap.size ≤ q → A q := fun q h => by rw [← hAe]; exact Or.inr h
  have hS : va_S A s.heap s.heap [] := va_S.rf
  have hP : va_P D vwCl [(a0, .inr (12, [w0, w1, w2, w3, w4, w5, w6, w7, w8, w9, w10, w11, .ref a1, .int 0, w14, w15, w16, w17, w18, w19, w20, w21, w22, w23, w24, w25, w26, w27, w28, w29, w30, w31, w32, w33, w34, w35, w36, w37, w38, w39, w40, w41, w42, w43, w44, w45, w46, w47, w48, w49, w50, w51, w52, w53, w54, w55, w56, w57, w58, w59])), (a1, .inl (K 0, 400, .inl f))] s.heap := hP
  have hl := lv_entry [.ref a0, .int x] (n := 3) (Nat.le_of_ble_eq_true rfl)
  rw [lg_entry_eq]
  generalize (lg_sl [.ref a0, .int x] ++ List.replicate (3 - (lg_sl [.ref a0, .int x]).length) Slot.unset).toArray = ls at hl ⊢
  have hl : lv_has ls 3 [(0, .ref a0), (1, .int x)] := hl
  have hw12 : ∀ w ∈ wsX120, w ∈ wsX12_four := fun w h => (List.mem_cons_of_mem _ (List.mem_append_right _ h))
  refine lv_bipush (v := 24) hx hb dX12_four_0 (by decide) ?_
  refine lv_istore_n (lv' := [(2, .int 24), (0, .ref a0), (1, .int x)]) hx hb dX12_four_2 rfl hl (by decide) rfl (fun ls hl => ?_)
  refine lv_iload_n hx hb dX12_four_3 rfl (lv_at hl 0 rfl) ?_
  refine lv_if_lt (tgt := 39) hx hb dX12_four_4 (by decide) (fun c_1 => absurd c_1 (by decide)) (fun c_1 => ?_)
  refine lv_aload_n hx hb dX12_four_7 rfl (lv_at hl 1 rfl) ?_
  refine va_get (ci := 12) (v := .ref a1) (C := RX12) (T := TX12) (N := 60) hx hb hts hw12 hown hK hP 0 rfl rfl 12 (by decide) (hts (.fieldLink RX12 35 "SmokeTuneModel" "tape" "[I") (List.mem_cons_of_mem _ (List.mem_append_left _ (List.mem_of_getElem? (i := 0) rfl)))) (fun _ h9 => h9) rfl dX12_four_8 ?_
  refine lv_aload_n hx hb dX12_four_11 rfl (lv_at hl 1 rfl) ?_
  refine va_get (ci := 12) (v := .int 0) (C := RX12) (T := TX12) (N := 60) hx hb hts hw12 hown hK hP 0 rfl rfl 13 (by decide) (hts (.fieldLink RX12 227 "SmokeTuneModel" "taped" "I") (List.mem_cons_of_mem _ (List.mem_append_left _ (List.mem_of_getElem? (i := 1) rfl)))) (fun _ h9 => h9) rfl dX12_four_12 ?_
  refine lv_iload_n hx hb dX12_four_15 rfl (lv_at hl 2 rfl) ?_
  refine lv_iload_n hx hb dX12_four_16 rfl (lv_at hl 0 rfl) ?_
  refine lv_ishr hx hb dX12_four_17 ?_
  refine lv_topi (fun x_2 ex_2 => ?_)
  refine lv_sipush (v := 255) hx hb dX12_four_18 (by decide) ?_
  refine lv_iand hx hb dX12_four_21 ?_
  refine lv_topi (fun x_3 ex_3 => ?_)
  refine va_iast hx hb hK hP hD hS 1 0 rfl rfl (i_in (x := 0) rfl (by omega)) dX12_four_22 (fun H locs hP hD hS => ?_)
  generalize hf_4 : (upd f (0 : Int32).toNatClampNeg x_3) = f_4 at hP hD
  have hP : va_P D vwCl [(a0, .inr (12, [w0, w1, w2, w3, w4, w5, w6, w7, w8, w9, w10, w11, .ref a1, .int 0, w14, w15, w16, w17, w18, w19, w20, w21, w22, w23, w24, w25, w26, w27, w28, w29, w30, w31, w32, w33, w34, w35, w36, w37, w38, w39, w40, w41, w42, w43, w44, w45, w46, w47, w48, w49, w50, w51, w52, w53, w54, w55, w56, w57, w58, w59])), (a1, .inl (K 0, 400, .inl f_4))] H := hP
  have hD : va_D A [(a0, .inr (12, [w0, w1, w2, w3, w4, w5, w6, w7, w8, w9, w10, w11, .ref a1, .int 0, w14, w15, w16, w17, w18, w19, w20, w21, w22, w23, w24, w25, w26, w27, w28, w29, w30, w31, w32, w33, w34, w35, w36, w37, w38, w39, w40, w41, w42, w43, w44, w45, w46, w47, w48, w49, w50, w51, w52, w53, w54, w55, w56, w57, w58, w59])), (a1, .inl (K 0, 400, .inl f_4))] := hD
  refine lv_aload_n hx hb dX12_four_23 rfl (lv_at hl 1 rfl) ?_
  refine lv_dup hx hb dX12_four_24 rfl ?_
  refine va_get (ci := 12) (v := .int 0) (C := RX12) (T := TX12) (N := 60) hx hb hts hw12 hown hK hP 0 rfl rfl 13 (by decide) (hts (.fieldLink RX12 227 "SmokeTuneModel" "taped" "I") (List.mem_cons_of_mem _ (List.mem_append_left _ (List.mem_of_getElem? (i := 1) rfl)))) (fun _ h9 => h9) rfl dX12_four_25 ?_
  refine lv_iconst (v := 1) hx hb dX12_four_28 (by decide) ?_
  refine lv_iadd hx hb dX12_four_29 ?_
  refine lv_topi (fun x_5 ex_5 => ?_)
  obtain rfl : x_5 = 1 := ex_5.trans (by first | rfl | decide)
  refine va_put (ci := 12) (v := .int 1) (ty := .int) (C := RX12) (T := TX12) (N := 60) hx hb hts hw12 tyX12 tyX12_ok nmX12 hown hK hP hD hS 0 rfl rfl 13 (by decide) (hts (.fieldLink RX12 227 "SmokeTuneModel" "taped" "I") (List.mem_cons_of_mem _ (List.mem_append_left _ (List.mem_of_getElem? (i := 1) rfl)))) (fun _ h9 => h9) rfl (by decide +kernel) (by first | rfl | decide) (by first | rfl | decide) (Nat.le_of_ble_eq_true rfl) dX12_four_30 (fun H locs hP hD hS => ?_)
  have hP : va_P D vwCl [(a0, .inr (12, [w0, w1, w2, w3, w4, w5, w6, w7, w8, w9, w10, w11, .ref a1, .int 1, w14, w15, w16, w17, w18, w19, w20, w21, w22, w23, w24, w25, w26, w27, w28, w29, w30, w31, w32, w33, w34, w35, w36, w37, w38, w39, w40, w41, w42, w43, w44, w45, w46, w47, w48, w49, w50, w51, w52, w53, w54, w55, w56, w57, w58, w59])), (a1, .inl (K 0, 400, .inl f_4))] H := hP
  have hD : va_D A [(a0, .inr (12, [w0, w1, w2, w3, w4, w5, w6, w7, w8, w9, w10, w11, .ref a1, .int 1, w14, w15, w16, w17, w18, w19, w20, w21, w22, w23, w24, w25, w26, w27, w28, w29, w30, w31, w32, w33, w34, w35, w36, w37, w38, w39, w40, w41, w42, w43, w44, w45, w46, w47, w48, w49, w50, w51, w52, w53, w54, w55, w56, w57, w58, w59])), (a1, .inl (K 0, 400, .inl f_4))] := hD
  refine lv_iinc (v := 16) (lv' := [(2, .int 16), (0, .ref a0), (1, .int x)]) hx hb dX12_four_33 hl (k := 0) rfl (by decide) (by decide) rfl (fun ls hl => ?_)
  refine lv_goto (tgt := 3) hx hb dX12_four_36 (by decide) ?_
  refine lv_iload_n hx hb dX12_four_3 rfl (lv_at hl 0 rfl) ?_
  refine lv_if_lt (tgt := 39) hx hb dX12_four_4 (by decide) (fun c_6 => absurd c_6 (by decide)) (fun c_6 => ?_)
  refine lv_aload_n hx hb dX12_four_7 rfl (lv_at hl 1 rfl) ?_
  refine va_get (ci := 12) (v := .ref a1) (C := RX12) (T := TX12) (N := 60) hx hb hts hw12 hown hK hP 0 rfl rfl 12 (by decide) (hts (.fieldLink RX12 35 "SmokeTuneModel" "tape" "[I") (List.mem_cons_of_mem _ (List.mem_append_left _ (List.mem_of_getElem? (i := 0) rfl)))) (fun _ h9 => h9) rfl dX12_four_8 ?_
  refine lv_aload_n hx hb dX12_four_11 rfl (lv_at hl 1 rfl) ?_
  refine va_get (ci := 12) (v := .int 1) (C := RX12) (T := TX12) (N := 60) hx hb hts hw12 hown hK hP 0 rfl rfl 13 (by decide) (hts (.fieldLink RX12 227 "SmokeTuneModel" "taped" "I") (List.mem_cons_of_mem _ (List.mem_append_left _ (List.mem_of_getElem? (i := 1) rfl)))) (fun _ h9 => h9) rfl dX12_four_12 ?_
  refine lv_iload_n hx hb dX12_four_15 rfl (lv_at hl 2 rfl) ?_
  refine lv_iload_n hx hb dX12_four_16 rfl (lv_at hl 0 rfl) ?_
  refine lv_ishr hx hb dX12_four_17 ?_
  refine lv_topi (fun x_7 ex_7 => ?_)
  refine lv_sipush (v := 255) hx hb dX12_four_18 (by decide) ?_
  refine lv_iand hx hb dX12_four_21 ?_
  refine lv_topi (fun x_8 ex_8 => ?_)
  refine va_iast hx hb hK hP hD hS 1 0 rfl rfl (i_in (x := 1) rfl (by omega)) dX12_four_22 (fun H locs hP hD hS => ?_)
  generalize hf_9 : (upd f_4 (1 : Int32).toNatClampNeg x_8) = f_9 at hP hD
  have hP : va_P D vwCl [(a0, .inr (12, [w0, w1, w2, w3, w4, w5, w6, w7, w8, w9, w10, w11, .ref a1, .int 1, w14, w15, w16, w17, w18, w19, w20, w21, w22, w23, w24, w25, w26, w27, w28, w29, w30, w31, w32, w33, w34, w35, w36, w37, w38, w39, w40, w41, w42, w43, w44, w45, w46, w47, w48, w49, w50, w51, w52, w53, w54, w55, w56, w57, w58, w59])), (a1, .inl (K 0, 400, .inl f_9))] H := hP
  have hD : va_D A [(a0, .inr (12, [w0, w1, w2, w3, w4, w5, w6, w7, w8, w9, w10, w11, .ref a1, .int 1, w14, w15, w16, w17, w18, w19, w20, w21, w22, w23, w24, w25, w26, w27, w28, w29, w30, w31, w32, w33, w34, w35, w36, w37, w38, w39, w40, w41, w42, w43, w44, w45, w46, w47, w48, w49, w50, w51, w52, w53, w54, w55, w56, w57, w58, w59])), (a1, .inl (K 0, 400, .inl f_9))] := hD
  refine lv_aload_n hx hb dX12_four_23 rfl (lv_at hl 1 rfl) ?_
  refine lv_dup hx hb dX12_four_24 rfl ?_
  refine va_get (ci := 12) (v := .int 1) (C := RX12) (T := TX12) (N := 60) hx hb hts hw12 hown hK hP 0 rfl rfl 13 (by decide) (hts (.fieldLink RX12 227 "SmokeTuneModel" "taped" "I") (List.mem_cons_of_mem _ (List.mem_append_left _ (List.mem_of_getElem? (i := 1) rfl)))) (fun _ h9 => h9) rfl dX12_four_25 ?_
  refine lv_iconst (v := 1) hx hb dX12_four_28 (by decide) ?_
  refine lv_iadd hx hb dX12_four_29 ?_
  refine lv_topi (fun x_10 ex_10 => ?_)
  obtain rfl : x_10 = 2 := ex_10.trans (by first | rfl | decide)
  refine va_put (ci := 12) (v := .int 2) (ty := .int) (C := RX12) (T := TX12) (N := 60) hx hb hts hw12 tyX12 tyX12_ok nmX12 hown hK hP hD hS 0 rfl rfl 13 (by decide) (hts (.fieldLink RX12 227 "SmokeTuneModel" "taped" "I") (List.mem_cons_of_mem _ (List.mem_append_left _ (List.mem_of_getElem? (i := 1) rfl)))) (fun _ h9 => h9) rfl (by decide +kernel) (by first | rfl | decide) (by first | rfl | decide) (Nat.le_of_ble_eq_true rfl) dX12_four_30 (fun H locs hP hD hS => ?_)
  have hP : va_P D vwCl [(a0, .inr (12, [w0, w1, w2, w3, w4, w5, w6, w7, w8, w9, w10, w11, .ref a1, .int 2, w14, w15, w16, w17, w18, w19, w20, w21, w22, w23, w24, w25, w26, w27, w28, w29, w30, w31, w32, w33, w34, w35, w36, w37, w38, w39, w40, w41, w42, w43, w44, w45, w46, w47, w48, w49, w50, w51, w52, w53, w54, w55, w56, w57, w58, w59])), (a1, .inl (K 0, 400, .inl f_9))] H := hP
  have hD : va_D A [(a0, .inr (12, [w0, w1, w2, w3, w4, w5, w6, w7, w8, w9, w10, w11, .ref a1, .int 2, w14, w15, w16, w17, w18, w19, w20, w21, w22, w23, w24, w25, w26, w27, w28, w29, w30, w31, w32, w33, w34, w35, w36, w37, w38, w39, w40, w41, w42, w43, w44, w45, w46, w47, w48, w49, w50, w51, w52, w53, w54, w55, w56, w57, w58, w59])), (a1, .inl (K 0, 400, .inl f_9))] := hD
  refine lv_iinc (v := 8) (lv' := [(2, .int 8), (0, .ref a0), (1, .int x)]) hx hb dX12_four_33 hl (k := 0) rfl (by decide) (by decide) rfl (fun ls hl => ?_)
  refine lv_goto (tgt := 3) hx hb dX12_four_36 (by decide) ?_
  refine lv_iload_n hx hb dX12_four_3 rfl (lv_at hl 0 rfl) ?_
  refine lv_if_lt (tgt := 39) hx hb dX12_four_4 (by decide) (fun c_11 => absurd c_11 (by decide)) (fun c_11 => ?_)
  refine lv_aload_n hx hb dX12_four_7 rfl (lv_at hl 1 rfl) ?_
  refine va_get (ci := 12) (v := .ref a1) (C := RX12) (T := TX12) (N := 60) hx hb hts hw12 hown hK hP 0 rfl rfl 12 (by decide) (hts (.fieldLink RX12 35 "SmokeTuneModel" "tape" "[I") (List.mem_cons_of_mem _ (List.mem_append_left _ (List.mem_of_getElem? (i := 0) rfl)))) (fun _ h9 => h9) rfl dX12_four_8 ?_
  refine lv_aload_n hx hb dX12_four_11 rfl (lv_at hl 1 rfl) ?_
  refine va_get (ci := 12) (v := .int 2) (C := RX12) (T := TX12) (N := 60) hx hb hts hw12 hown hK hP 0 rfl rfl 13 (by decide) (hts (.fieldLink RX12 227 "SmokeTuneModel" "taped" "I") (List.mem_cons_of_mem _ (List.mem_append_left _ (List.mem_of_getElem? (i := 1) rfl)))) (fun _ h9 => h9) rfl dX12_four_12 ?_
  refine lv_iload_n hx hb dX12_four_15 rfl (lv_at hl 2 rfl) ?_
  refine lv_iload_n hx hb dX12_four_16 rfl (lv_at hl 0 rfl) ?_
  refine lv_ishr hx hb dX12_four_17 ?_
  refine lv_topi (fun x_12 ex_12 => ?_)
  refine lv_sipush (v := 255) hx hb dX12_four_18 (by decide) ?_
  refine lv_iand hx hb dX12_four_21 ?_
  refine lv_topi (fun x_13 ex_13 => ?_)
  refine va_iast hx hb hK hP hD hS 1 0 rfl rfl (i_in (x := 2) rfl (by omega)) dX12_four_22 (fun H locs hP hD hS => ?_)
  generalize hf_14 : (upd f_9 (2 : Int32).toNatClampNeg x_13) = f_14 at hP hD
  have hP : va_P D vwCl [(a0, .inr (12, [w0, w1, w2, w3, w4, w5, w6, w7, w8, w9, w10, w11, .ref a1, .int 2, w14, w15, w16, w17, w18, w19, w20, w21, w22, w23, w24, w25, w26, w27, w28, w29, w30, w31, w32, w33, w34, w35, w36, w37, w38, w39, w40, w41, w42, w43, w44, w45, w46, w47, w48, w49, w50, w51, w52, w53, w54, w55, w56, w57, w58, w59])), (a1, .inl (K 0, 400, .inl f_14))] H := hP
  have hD : va_D A [(a0, .inr (12, [w0, w1, w2, w3, w4, w5, w6, w7, w8, w9, w10, w11, .ref a1, .int 2, w14, w15, w16, w17, w18, w19, w20, w21, w22, w23, w24, w25, w26, w27, w28, w29, w30, w31, w32, w33, w34, w35, w36, w37, w38, w39, w40, w41, w42, w43, w44, w45, w46, w47, w48, w49, w50, w51, w52, w53, w54, w55, w56, w57, w58, w59])), (a1, .inl (K 0, 400, .inl f_14))] := hD
  refine lv_aload_n hx hb dX12_four_23 rfl (lv_at hl 1 rfl) ?_
  refine lv_dup hx hb dX12_four_24 rfl ?_
  refine va_get (ci := 12) (v := .int 2) (C := RX12) (T := TX12) (N := 60) hx hb hts hw12 hown hK hP 0 rfl rfl 13 (by decide) (hts (.fieldLink RX12 227 "SmokeTuneModel" "taped" "I") (List.mem_cons_of_mem _ (List.mem_append_left _ (List.mem_of_getElem? (i := 1) rfl)))) (fun _ h9 => h9) rfl dX12_four_25 ?_
  refine lv_iconst (v := 1) hx hb dX12_four_28 (by decide) ?_
  refine lv_iadd hx hb dX12_four_29 ?_
  refine lv_topi (fun x_15 ex_15 => ?_)
  obtain rfl : x_15 = 3 := ex_15.trans (by first | rfl | decide)
  refine va_put (ci := 12) (v := .int 3) (ty := .int) (C := RX12) (T := TX12) (N := 60) hx hb hts hw12 tyX12 tyX12_ok nmX12 hown hK hP hD hS 0 rfl rfl 13 (by decide) (hts (.fieldLink RX12 227 "SmokeTuneModel" "taped" "I") (List.mem_cons_of_mem _ (List.mem_append_left _ (List.mem_of_getElem? (i := 1) rfl)))) (fun _ h9 => h9) rfl (by decide +kernel) (by first | rfl | decide) (by first | rfl | decide) (Nat.le_of_ble_eq_true rfl) dX12_four_30 (fun H locs hP hD hS => ?_)
  have hP : va_P D vwCl [(a0, .inr (12, [w0, w1, w2, w3, w4, w5, w6, w7, w8, w9, w10, w11, .ref a1, .int 3, w14, w15, w16, w17, w18, w19, w20, w21, w22, w23, w24, w25, w26, w27, w28, w29, w30, w31, w32, w33, w34, w35, w36, w37, w38, w39, w40, w41, w42, w43, w44, w45, w46, w47, w48, w49, w50, w51, w52, w53, w54, w55, w56, w57, w58, w59])), (a1, .inl (K 0, 400, .inl f_14))] H := hP
  have hD : va_D A [(a0, .inr (12, [w0, w1, w2, w3, w4, w5, w6, w7, w8, w9, w10, w11, .ref a1, .int 3, w14, w15, w16, w17, w18, w19, w20, w21, w22, w23, w24, w25, w26, w27, w28, w29, w30, w31, w32, w33, w34, w35, w36, w37, w38, w39, w40, w41, w42, w43, w44, w45, w46, w47, w48, w49, w50, w51, w52, w53, w54, w55, w56, w57, w58, w59])), (a1, .inl (K 0, 400, .inl f_14))] := hD
  refine lv_iinc (v := 0) (lv' := [(2, .int 0), (0, .ref a0), (1, .int x)]) hx hb dX12_four_33 hl (k := 0) rfl (by decide) (by decide) rfl (fun ls hl => ?_)
  refine lv_goto (tgt := 3) hx hb dX12_four_36 (by decide) ?_
  refine lv_iload_n hx hb dX12_four_3 rfl (lv_at hl 0 rfl) ?_
  refine lv_if_lt (tgt := 39) hx hb dX12_four_4 (by decide) (fun c_16 => absurd c_16 (by decide)) (fun c_16 => ?_)
  refine lv_aload_n hx hb dX12_four_7 rfl (lv_at hl 1 rfl) ?_
  refine va_get (ci := 12) (v := .ref a1) (C := RX12) (T := TX12) (N := 60) hx hb hts hw12 hown hK hP 0 rfl rfl 12 (by decide) (hts (.fieldLink RX12 35 "SmokeTuneModel" "tape" "[I") (List.mem_cons_of_mem _ (List.mem_append_left _ (List.mem_of_getElem? (i := 0) rfl)))) (fun _ h9 => h9) rfl dX12_four_8 ?_
  refine lv_aload_n hx hb dX12_four_11 rfl (lv_at hl 1 rfl) ?_
  refine va_get (ci := 12) (v := .int 3) (C := RX12) (T := TX12) (N := 60) hx hb hts hw12 hown hK hP 0 rfl rfl 13 (by decide) (hts (.fieldLink RX12 227 "SmokeTuneModel" "taped" "I") (List.mem_cons_of_mem _ (List.mem_append_left _ (List.mem_of_getElem? (i := 1) rfl)))) (fun _ h9 => h9) rfl dX12_four_12 ?_
  refine lv_iload_n hx hb dX12_four_15 rfl (lv_at hl 2 rfl) ?_
  refine lv_iload_n hx hb dX12_four_16 rfl (lv_at hl 0 rfl) ?_
  refine lv_ishr hx hb dX12_four_17 ?_
  refine lv_topi (fun x_17 ex_17 => ?_)
  refine lv_sipush (v := 255) hx hb dX12_four_18 (by decide) ?_
  refine lv_iand hx hb dX12_four_21 ?_
  refine lv_topi (fun x_18 ex_18 => ?_)
  refine va_iast hx hb hK hP hD hS 1 0 rfl rfl (i_in (x := 3) rfl (by omega)) dX12_four_22 (fun H locs hP hD hS => ?_)
  generalize hf_19 : (upd f_14 (3 : Int32).toNatClampNeg x_18) = f_19 at hP hD
  have hP : va_P D vwCl [(a0, .inr (12, [w0, w1, w2, w3, w4, w5, w6, w7, w8, w9, w10, w11, .ref a1, .int 3, w14, w15, w16, w17, w18, w19, w20, w21, w22, w23, w24, w25, w26, w27, w28, w29, w30, w31, w32, w33, w34, w35, w36, w37, w38, w39, w40, w41, w42, w43, w44, w45, w46, w47, w48, w49, w50, w51, w52, w53, w54, w55, w56, w57, w58, w59])), (a1, .inl (K 0, 400, .inl f_19))] H := hP
  have hD : va_D A [(a0, .inr (12, [w0, w1, w2, w3, w4, w5, w6, w7, w8, w9, w10, w11, .ref a1, .int 3, w14, w15, w16, w17, w18, w19, w20, w21, w22, w23, w24, w25, w26, w27, w28, w29, w30, w31, w32, w33, w34, w35, w36, w37, w38, w39, w40, w41, w42, w43, w44, w45, w46, w47, w48, w49, w50, w51, w52, w53, w54, w55, w56, w57, w58, w59])), (a1, .inl (K 0, 400, .inl f_19))] := hD
  refine lv_aload_n hx hb dX12_four_23 rfl (lv_at hl 1 rfl) ?_
  refine lv_dup hx hb dX12_four_24 rfl ?_
  refine va_get (ci := 12) (v := .int 3) (C := RX12) (T := TX12) (N := 60) hx hb hts hw12 hown hK hP 0 rfl rfl 13 (by decide) (hts (.fieldLink RX12 227 "SmokeTuneModel" "taped" "I") (List.mem_cons_of_mem _ (List.mem_append_left _ (List.mem_of_getElem? (i := 1) rfl)))) (fun _ h9 => h9) rfl dX12_four_25 ?_
  refine lv_iconst (v := 1) hx hb dX12_four_28 (by decide) ?_
  refine lv_iadd hx hb dX12_four_29 ?_
  refine lv_topi (fun x_20 ex_20 => ?_)
  obtain rfl : x_20 = 4 := ex_20.trans (by first | rfl | decide)
  refine va_put (ci := 12) (v := .int 4) (ty := .int) (C := RX12) (T := TX12) (N := 60) hx hb hts hw12 tyX12 tyX12_ok nmX12 hown hK hP hD hS 0 rfl rfl 13 (by decide) (hts (.fieldLink RX12 227 "SmokeTuneModel" "taped" "I") (List.mem_cons_of_mem _ (List.mem_append_left _ (List.mem_of_getElem? (i := 1) rfl)))) (fun _ h9 => h9) rfl (by decide +kernel) (by first | rfl | decide) (by first | rfl | decide) (Nat.le_of_ble_eq_true rfl) dX12_four_30 (fun H locs hP hD hS => ?_)
  have hP : va_P D vwCl [(a0, .inr (12, [w0, w1, w2, w3, w4, w5, w6, w7, w8, w9, w10, w11, .ref a1, .int 4, w14, w15, w16, w17, w18, w19, w20, w21, w22, w23, w24, w25, w26, w27, w28, w29, w30, w31, w32, w33, w34, w35, w36, w37, w38, w39, w40, w41, w42, w43, w44, w45, w46, w47, w48, w49, w50, w51, w52, w53, w54, w55, w56, w57, w58, w59])), (a1, .inl (K 0, 400, .inl f_19))] H := hP
  have hD : va_D A [(a0, .inr (12, [w0, w1, w2, w3, w4, w5, w6, w7, w8, w9, w10, w11, .ref a1, .int 4, w14, w15, w16, w17, w18, w19, w20, w21, w22, w23, w24, w25, w26, w27, w28, w29, w30, w31, w32, w33, w34, w35, w36, w37, w38, w39, w40, w41, w42, w43, w44, w45, w46, w47, w48, w49, w50, w51, w52, w53, w54, w55, w56, w57, w58, w59])), (a1, .inl (K 0, 400, .inl f_19))] := hD
  refine lv_iinc (v := (-8)) (lv' := [(2, .int (-8)), (0, .ref a0), (1, .int x)]) hx hb dX12_four_33 hl (k := 0) rfl (by decide) (by decide) rfl (fun ls hl => ?_)
  refine lv_goto (tgt := 3) hx hb dX12_four_36 (by decide) ?_
  refine lv_iload_n hx hb dX12_four_3 rfl (lv_at hl 0 rfl) ?_
  refine lv_if_lt (tgt := 39) hx hb dX12_four_4 (by decide) (fun c_21 => ?_) (fun c_21 => absurd (by decide) c_21)
  have hP9 := hP.sub (ws' := [(a0, .inr (12, [w0, w1, w2, w3, w4, w5, w6, w7, w8, w9, w10, w11, .ref a1, .int 4, w14, w15, w16, w17, w18, w19, w20, w21, w22, w23, w24, w25, w26, w27, w28, w29, w30, w31, w32, w33, w34, w35, w36, w37, w38, w39, w40, w41, w42, w43, w44, w45, w46, w47, w48, w49, w50, w51, w52, w53, w54, w55, w56, w57, w58, w59])), (a1, .inl (K 0, 400, .inl f_19))]) [0, 1] rfl
  have hD9 := hD.sub (ws' := [(a0, .inr (12, [w0, w1, w2, w3, w4, w5, w6, w7, w8, w9, w10, w11, .ref a1, .int 4, w14, w15, w16, w17, w18, w19, w20, w21, w22, w23, w24, w25, w26, w27, w28, w29, w30, w31, w32, w33, w34, w35, w36, w37, w38, w39, w40, w41, w42, w43, w44, w45, w46, w47, w48, w49, w50, w51, w52, w53, w54, w55, w56, w57, w58, w59])), (a1, .inl (K 0, 400, .inl f_19))]) [0, 1] (by decide) rfl
  exact W.vret hx hb hr (fun t ht hW => ⟨⟨(fun _ => 0, fun i => match i with | _ => f_19, fun _ => fun _ => 0, fun _ => 0), rfl, trivial, (⟨by rw [ht]; exact hP9, hD9⟩ : Wd D A _ t)⟩, hS.F ht⟩) hS.2.2 dX12_four_39
set_option maxHeartbeats 4000000 in
set_option maxRecDepth 100000 in
theorem m_four_4 (l : Launch) (D : va_G) (K : Nat → ClassId) (a0 : Nat) (x : Int32) (w0 : Value) (w1 : Value) (w2 : Value) (w3 : Value) (w4 : Value) (w5 : Value) (w6 : Value) (w7 : Value) (w8 : Value) (w9 : Value) (w10 : Value) (w11 : Value) (a1 : Nat) (w14 : Value) (w15 : Value) (w16 : Value) (w17 : Value) (w18 : Value) (w19 : Value) (w20 : Value) (w21 : Value) (w22 : Value) (w23 : Value) (w24 : Value) (w25 : Value) (w26 : Value) (w27 : Value) (w28 : Value) (w29 : Value) (w30 : Value) (w31 : Value) (w32 : Value) (w33 : Value) (w34 : Value) (w35 : Value) (w36 : Value) (w37 : Value) (w38 : Value) (w39 : Value) (w40 : Value) (w41 : Value) (w42 : Value) (w43 : Value) (w44 : Value) (w45 : Value) (w46 : Value) (w47 : Value) (w48 : Value) (w49 : Value) (w50 : Value) (w51 : Value) (w52 : Value) (w53 : Value) (w54 : Value) (w55 : Value) (w56 : Value) (w57 : Value) (w58 : Value) (w59 : Value) (f : Nat → Int32) (sz : Nat) : Met l yX12_four wsX12_four ({ frames := 0, cells := 0, slots := 0, locals := 0 }) (va_Pc [.ref a0, .int x] (Pre D K [(a0, .inr (12, [w0, w1, w2, w3, w4, w5, w6, w7, w8, w9, w10, w11, .ref a1, .int 4, w14, w15, w16, w17, w18, w19, w20, w21, w22, w23, w24, w25, w26, w27, w28, w29, w30, w31, w32, w33, w34, w35, w36, w37, w38, w39, w40, w41, w42, w43, w44, w45, w46, w47, w48, w49, w50, w51, w52, w53, w54, w55, w56, w57, w58, w59])), (a1, .inl (K 0, 400, .inl f))] sz)) (va_Qv (S := (Nat → Nat) × (Nat → Nat → Int32) × (Nat → Nat → Int64) × (Nat → Int32)) (fun _ => True) (fun u t => Wd D (va_A [(a0, .inr (12, [w0, w1, w2, w3, w4, w5, w6, w7, w8, w9, w10, w11, .ref a1, .int 4, w14, w15, w16, w17, w18, w19, w20, w21, w22, w23, w24, w25, w26, w27, w28, w29, w30, w31, w32, w33, w34, w35, w36, w37, w38, w39, w40, w41, w42, w43, w44, w45, w46, w47, w48, w49, w50, w51, w52, w53, w54, w55, w56, w57, w58, w59])), (a1, .inl (K 0, 400, .inl f))] sz) ((fun u => [(a0, .inr (12, [w0, w1, w2, w3, w4, w5, w6, w7, w8, w9, w10, w11, .ref a1, .int 8, w14, w15, w16, w17, w18, w19, w20, w21, w22, w23, w24, w25, w26, w27, w28, w29, w30, w31, w32, w33, w34, w35, w36, w37, w38, w39, w40, w41, w42, w43, w44, w45, w46, w47, w48, w49, w50, w51, w52, w53, w54, w55, w56, w57, w58, w59])), (a1, .inl (K 0, 400, .inl ((u.2.1 0))))]) u) t) (va_A [(a0, .inr (12, [w0, w1, w2, w3, w4, w5, w6, w7, w8, w9, w10, w11, .ref a1, .int 4, w14, w15, w16, w17, w18, w19, w20, w21, w22, w23, w24, w25, w26, w27, w28, w29, w30, w31, w32, w33, w34, w35, w36, w37, w38, w39, w40, w41, w42, w43, w44, w45, w46, w47, w48, w49, w50, w51, w52, w53, w54, w55, w56, w57, w58, w59])), (a1, .inl (K 0, 400, .inl f))] sz)) 0 0 (va_A [(a0, .inr (12, [w0, w1, w2, w3, w4, w5, w6, w7, w8, w9, w10, w11, .ref a1, .int 4, w14, w15, w16, w17, w18, w19, w20, w21, w22, w23, w24, w25, w26, w27, w28, w29, w30, w31, w32, w33, w34, w35, w36, w37, w38, w39, w40, w41, w42, w43, w44, w45, w46, w47, w48, w49, w50, w51, w52, w53, w54, w55, w56, w57, w58, w59])), (a1, .inl (K 0, 400, .inl f))] sz) := by
  refine Met.ofW (cc := cX12_four) (maxL := 3) (ret := none) (by decide) rfl ?_
  intro p e s m args below meth c s₁ B hml hv
  obtain ⟨rfl, hsz, hP, hK, hD0, hN⟩ := hv
  have hx := B.exec
  have hb := B.bytes
  have hr := B.returns
  have hts := atoms_spec (ws := wsX12_four) B.pre
  have hown : s.vm.findClass RX12 = some m.cls := findClass_of_methodNamed B.named
  have hlocks := B.notSynchronized
  subst hsz
  have hD := hD0.self (sz := s.heap.size)
  generalize hAe : va_A [(a0, .inr (12, [w0, w1, w2, w3, w4, w5, w6, w7, w8, w9, w10, w11, .ref a1, .int 4, w14, w15, w16, w17, w18, w19, w20, w21, w22, w23, w24, w25, w26, w27, w28, w29, w30, w31, w32, w33, w34, w35, w36, w37, w38, w39, w40, w41, w42, w43, w44, w45, w46, w47, w48, w49, w50, w51, w52, w53, w54, w55, w56, w57, w58, w59])), (a1, .inl (K 0, 400, .inl f))] s.heap.size = A at hD ⊢
  have hA : ∀ q : Nat, s.heap.size ≤ q → A q := fun q h => by rw [← hAe]; exact Or.inr h
  have hS : va_S A s.heap s.heap [] := va_S.rf
  have hP : va_P D vwCl [(a0, .inr (12, [w0, w1, w2, w3, w4, w5, w6, w7, w8, w9, w10, w11, .ref a1, .int 4, w14, w15, w16, w17, w18, w19, w20, w21, w22, w23, w24, w25, w26, w27, w28, w29, w30, w31, w32, w33, w34, w35, w36, w37, w38, w39, w40, w41, w42, w43, w44, w45, w46, w47, w48, w49, w50, w51, w52, w53, w54, w55, w56, w57, w58, w59])), (a1, .inl (K 0, 400, .inl f))] s.heap := hP
  have hl := lv_entry [.ref a0, .int x] (n := 3) (Nat.le_of_ble_eq_true rfl)
  rw [lg_entry_eq]
  generalize (lg_sl [.ref a0, .int x] ++ List.replicate (3 - (lg_sl [.ref a0, .int x]).length) Slot.unset).toArray = ls at hl ⊢
  have hl : lv_has ls 3 [(0, .ref a0), (1, .int x)] := hl
  have hw12 : ∀ w ∈ wsX120, w ∈ wsX12_four := fun w h => (List.mem_cons_of_mem _ (List.mem_append_right _ h))
  refine lv_bipush (v := 24) hx hb dX12_four_0 (by decide) ?_
  refine lv_istore_n (lv' := [(2, .int 24), (0, .ref a0), (1, .int x)]) hx hb dX12_four_2 rfl hl (by decide) rfl (fun ls hl => ?_)
  refine lv_iload_n hx hb dX12_four_3 rfl (lv_at hl 0 rfl) ?_
  refine lv_if_lt (tgt := 39) hx hb dX12_four_4 (by decide) (fun c_1 => absurd c_1 (by decide)) (fun c_1 => ?_)
  refine lv_aload_n hx hb dX12_four_7 rfl (lv_at hl 1 rfl) ?_
  refine va_get (ci := 12) (v := .ref a1) (C := RX12) (T := TX12) (N := 60) hx hb hts hw12 hown hK hP 0 rfl rfl 12 (by decide) (hts (.fieldLink RX12 35 "SmokeTuneModel" "tape" "[I") (List.mem_cons_of_mem _ (List.mem_append_left _ (List.mem_of_getElem? (i := 0) rfl)))) (fun _ h9 => h9) rfl dX12_four_8 ?_
  refine lv_aload_n hx hb dX12_four_11 rfl (lv_at hl 1 rfl) ?_
  refine va_get (ci := 12) (v := .int 4) (C := RX12) (T := TX12) (N := 60) hx hb hts hw12 hown hK hP 0 rfl rfl 13 (by decide) (hts (.fieldLink RX12 227 "SmokeTuneModel" "taped" "I") (List.mem_cons_of_mem _ (List.mem_append_left _ (List.mem_of_getElem? (i := 1) rfl)))) (fun _ h9 => h9) rfl dX12_four_12 ?_
  refine lv_iload_n hx hb dX12_four_15 rfl (lv_at hl 2 rfl) ?_
  refine lv_iload_n hx hb dX12_four_16 rfl (lv_at hl 0 rfl) ?_
  refine lv_ishr hx hb dX12_four_17 ?_
  refine lv_topi (fun x_2 ex_2 => ?_)
  refine lv_sipush (v := 255) hx hb dX12_four_18 (by decide) ?_
  refine lv_iand hx hb dX12_four_21 ?_
  refine lv_topi (fun x_3 ex_3 => ?_)
  refine va_iast hx hb hK hP hD hS 1 0 rfl rfl (i_in (x := 4) rfl (by omega)) dX12_four_22 (fun H locs hP hD hS => ?_)
  generalize hf_4 : (upd f (4 : Int32).toNatClampNeg x_3) = f_4 at hP hD
  have hP : va_P D vwCl [(a0, .inr (12, [w0, w1, w2, w3, w4, w5, w6, w7, w8, w9, w10, w11, .ref a1, .int 4, w14, w15, w16, w17, w18, w19, w20, w21, w22, w23, w24, w25, w26, w27, w28, w29, w30, w31, w32, w33, w34, w35, w36, w37, w38, w39, w40, w41, w42, w43, w44, w45, w46, w47, w48, w49, w50, w51, w52, w53, w54, w55, w56, w57, w58, w59])), (a1, .inl (K 0, 400, .inl f_4))] H := hP
  have hD : va_D A [(a0, .inr (12, [w0, w1, w2, w3, w4, w5, w6, w7, w8, w9, w10, w11, .ref a1, .int 4, w14, w15, w16, w17, w18, w19, w20, w21, w22, w23, w24, w25, w26, w27, w28, w29, w30, w31, w32, w33, w34, w35, w36, w37, w38, w39, w40, w41, w42, w43, w44, w45, w46, w47, w48, w49, w50, w51, w52, w53, w54, w55, w56, w57, w58, w59])), (a1, .inl (K 0, 400, .inl f_4))] := hD
  refine lv_aload_n hx hb dX12_four_23 rfl (lv_at hl 1 rfl) ?_
  refine lv_dup hx hb dX12_four_24 rfl ?_
  refine va_get (ci := 12) (v := .int 4) (C := RX12) (T := TX12) (N := 60) hx hb hts hw12 hown hK hP 0 rfl rfl 13 (by decide) (hts (.fieldLink RX12 227 "SmokeTuneModel" "taped" "I") (List.mem_cons_of_mem _ (List.mem_append_left _ (List.mem_of_getElem? (i := 1) rfl)))) (fun _ h9 => h9) rfl dX12_four_25 ?_
  refine lv_iconst (v := 1) hx hb dX12_four_28 (by decide) ?_
  refine lv_iadd hx hb dX12_four_29 ?_
  refine lv_topi (fun x_5 ex_5 => ?_)
  obtain rfl : x_5 = 5 := ex_5.trans (by first | rfl | decide)
  refine va_put (ci := 12) (v := .int 5) (ty := .int) (C := RX12) (T := TX12) (N := 60) hx hb hts hw12 tyX12 tyX12_ok nmX12 hown hK hP hD hS 0 rfl rfl 13 (by decide) (hts (.fieldLink RX12 227 "SmokeTuneModel" "taped" "I") (List.mem_cons_of_mem _ (List.mem_append_left _ (List.mem_of_getElem? (i := 1) rfl)))) (fun _ h9 => h9) rfl (by decide +kernel) (by first | rfl | decide) (by first | rfl | decide) (Nat.le_of_ble_eq_true rfl) dX12_four_30 (fun H locs hP hD hS => ?_)
  have hP : va_P D vwCl [(a0, .inr (12, [w0, w1, w2, w3, w4, w5, w6, w7, w8, w9, w10, w11, .ref a1, .int 5, w14, w15, w16, w17, w18, w19, w20, w21, w22, w23, w24, w25, w26, w27, w28, w29, w30, w31, w32, w33, w34, w35, w36, w37, w38, w39, w40, w41, w42, w43, w44, w45, w46, w47, w48, w49, w50, w51, w52, w53, w54, w55, w56, w57, w58, w59])), (a1, .inl (K 0, 400, .inl f_4))] H := hP
  have hD : va_D A [(a0, .inr (12, [w0, w1, w2, w3, w4, w5, w6, w7, w8, w9, w10, w11, .ref a1, .int 5, w14, w15, w16, w17, w18, w19, w20, w21, w22, w23, w24, w25, w26, w27, w28, w29, w30, w31, w32, w33, w34, w35, w36, w37, w38, w39, w40, w41, w42, w43, w44, w45, w46, w47, w48, w49, w50, w51, w52, w53, w54, w55, w56, w57, w58, w59])), (a1, .inl (K 0, 400, .inl f_4))] := hD
  refine lv_iinc (v := 16) (lv' := [(2, .int 16), (0, .ref a0), (1, .int x)]) hx hb dX12_four_33 hl (k := 0) rfl (by decide) (by decide) rfl (fun ls hl => ?_)
  refine lv_goto (tgt := 3) hx hb dX12_four_36 (by decide) ?_
  refine lv_iload_n hx hb dX12_four_3 rfl (lv_at hl 0 rfl) ?_
  refine lv_if_lt (tgt := 39) hx hb dX12_four_4 (by decide) (fun c_6 => absurd c_6 (by decide)) (fun c_6 => ?_)
  refine lv_aload_n hx hb dX12_four_7 rfl (lv_at hl 1 rfl) ?_
  refine va_get (ci := 12) (v := .ref a1) (C := RX12) (T := TX12) (N := 60) hx hb hts hw12 hown hK hP 0 rfl rfl 12 (by decide) (hts (.fieldLink RX12 35 "SmokeTuneModel" "tape" "[I") (List.mem_cons_of_mem _ (List.mem_append_left _ (List.mem_of_getElem? (i := 0) rfl)))) (fun _ h9 => h9) rfl dX12_four_8 ?_
  refine lv_aload_n hx hb dX12_four_11 rfl (lv_at hl 1 rfl) ?_
  refine va_get (ci := 12) (v := .int 5) (C := RX12) (T := TX12) (N := 60) hx hb hts hw12 hown hK hP 0 rfl rfl 13 (by decide) (hts (.fieldLink RX12 227 "SmokeTuneModel" "taped" "I") (List.mem_cons_of_mem _ (List.mem_append_left _ (List.mem_of_getElem? (i := 1) rfl)))) (fun _ h9 => h9) rfl dX12_four_12 ?_
  refine lv_iload_n hx hb dX12_four_15 rfl (lv_at hl 2 rfl) ?_
  refine lv_iload_n hx hb dX12_four_16 rfl (lv_at hl 0 rfl) ?_
  refine lv_ishr hx hb dX12_four_17 ?_
  refine lv_topi (fun x_7 ex_7 => ?_)
  refine lv_sipush (v := 255) hx hb dX12_four_18 (by decide) ?_
  refine lv_iand hx hb dX12_four_21 ?_
  refine lv_topi (fun x_8 ex_8 => ?_)
  refine va_iast hx hb hK hP hD hS 1 0 rfl rfl (i_in (x := 5) rfl (by omega)) dX12_four_22 (fun H locs hP hD hS => ?_)
  generalize hf_9 : (upd f_4 (5 : Int32).toNatClampNeg x_8) = f_9 at hP hD
  have hP : va_P D vwCl [(a0, .inr (12, [w0, w1, w2, w3, w4, w5, w6, w7, w8, w9, w10, w11, .ref a1, .int 5, w14, w15, w16, w17, w18, w19, w20, w21, w22, w23, w24, w25, w26, w27, w28, w29, w30, w31, w32, w33, w34, w35, w36, w37, w38, w39, w40, w41, w42, w43, w44, w45, w46, w47, w48, w49, w50, w51, w52, w53, w54, w55, w56, w57, w58, w59])), (a1, .inl (K 0, 400, .inl f_9))] H := hP
  have hD : va_D A [(a0, .inr (12, [w0, w1, w2, w3, w4, w5, w6, w7, w8, w9, w10, w11, .ref a1, .int 5, w14, w15, w16, w17, w18, w19, w20, w21, w22, w23, w24, w25, w26, w27, w28, w29, w30, w31, w32, w33, w34, w35, w36, w37, w38, w39, w40, w41, w42, w43, w44, w45, w46, w47, w48, w49, w50, w51, w52, w53, w54, w55, w56, w57, w58, w59])), (a1, .inl (K 0, 400, .inl f_9))] := hD
  refine lv_aload_n hx hb dX12_four_23 rfl (lv_at hl 1 rfl) ?_
  refine lv_dup hx hb dX12_four_24 rfl ?_
  refine va_get (ci := 12) (v := .int 5) (C := RX12) (T := TX12) (N := 60) hx hb hts hw12 hown hK hP 0 rfl rfl 13 (by decide) (hts (.fieldLink RX12 227 "SmokeTuneModel" "taped" "I") (List.mem_cons_of_mem _ (List.mem_append_left _ (List.mem_of_getElem? (i := 1) rfl)))) (fun _ h9 => h9) rfl dX12_four_25 ?_
  refine lv_iconst (v := 1) hx hb dX12_four_28 (by decide) ?_
  refine lv_iadd hx hb dX12_four_29 ?_
  refine lv_topi (fun x_10 ex_10 => ?_)
  obtain rfl : x_10 = 6 := ex_10.trans (by first | rfl | decide)
  refine va_put (ci := 12) (v := .int 6) (ty := .int) (C := RX12) (T := TX12) (N := 60) hx hb hts hw12 tyX12 tyX12_ok nmX12 hown hK hP hD hS 0 rfl rfl 13 (by decide) (hts (.fieldLink RX12 227 "SmokeTuneModel" "taped" "I") (List.mem_cons_of_mem _ (List.mem_append_left _ (List.mem_of_getElem? (i := 1) rfl)))) (fun _ h9 => h9) rfl (by decide +kernel) (by first | rfl | decide) (by first | rfl | decide) (Nat.le_of_ble_eq_true rfl) dX12_four_30 (fun H locs hP hD hS => ?_)
  have hP : va_P D vwCl [(a0, .inr (12, [w0, w1, w2, w3, w4, w5, w6, w7, w8, w9, w10, w11, .ref a1, .int 6, w14, w15, w16, w17, w18, w19, w20, w21, w22, w23, w24, w25, w26, w27, w28, w29, w30, w31, w32, w33, w34, w35, w36, w37, w38, w39, w40, w41, w42, w43, w44, w45, w46, w47, w48, w49, w50, w51, w52, w53, w54, w55, w56, w57, w58, w59])), (a1, .inl (K 0, 400, .inl f_9))] H := hP
  have hD : va_D A [(a0, .inr (12, [w0, w1, w2, w3, w4, w5, w6, w7, w8, w9, w10, w11, .ref a1, .int 6, w14, w15, w16, w17, w18, w19, w20, w21, w22, w23, w24, w25, w26, w27, w28, w29, w30, w31, w32, w33, w34, w35, w36, w37, w38, w39, w40, w41, w42, w43, w44, w45, w46, w47, w48, w49, w50, w51, w52, w53, w54, w55, w56, w57, w58, w59])), (a1, .inl (K 0, 400, .inl f_9))] := hD
  refine lv_iinc (v := 8) (lv' := [(2, .int 8), (0, .ref a0), (1, .int x)]) hx hb dX12_four_33 hl (k := 0) rfl (by decide) (by decide) rfl (fun ls hl => ?_)
  refine lv_goto (tgt := 3) hx hb dX12_four_36 (by decide) ?_
  refine lv_iload_n hx hb dX12_four_3 rfl (lv_at hl 0 rfl) ?_
  refine lv_if_lt (tgt := 39) hx hb dX12_four_4 (by decide) (fun c_11 => absurd c_11 (by decide)) (fun c_11 => ?_)
  refine lv_aload_n hx hb dX12_four_7 rfl (lv_at hl 1 rfl) ?_
  refine va_get (ci := 12) (v := .ref a1) (C := RX12) (T := TX12) (N := 60) hx hb hts hw12 hown hK hP 0 rfl rfl 12 (by decide) (hts (.fieldLink RX12 35 "SmokeTuneModel" "tape" "[I") (List.mem_cons_of_mem _ (List.mem_append_left _ (List.mem_of_getElem? (i := 0) rfl)))) (fun _ h9 => h9) rfl dX12_four_8 ?_
  refine lv_aload_n hx hb dX12_four_11 rfl (lv_at hl 1 rfl) ?_
  refine va_get (ci := 12) (v := .int 6) (C := RX12) (T := TX12) (N := 60) hx hb hts hw12 hown hK hP 0 rfl rfl 13 (by decide) (hts (.fieldLink RX12 227 "SmokeTuneModel" "taped" "I") (List.mem_cons_of_mem _ (List.mem_append_left _ (List.mem_of_getElem? (i := 1) rfl)))) (fun _ h9 => h9) rfl dX12_four_12 ?_
  refine lv_iload_n hx hb dX12_four_15 rfl (lv_at hl 2 rfl) ?_
  refine lv_iload_n hx hb dX12_four_16 rfl (lv_at hl 0 rfl) ?_
  refine lv_ishr hx hb dX12_four_17 ?_
  refine lv_topi (fun x_12 ex_12 => ?_)
  refine lv_sipush (v := 255) hx hb dX12_four_18 (by decide) ?_
  refine lv_iand hx hb dX12_four_21 ?_
  refine lv_topi (fun x_13 ex_13 => ?_)
  refine va_iast hx hb hK hP hD hS 1 0 rfl rfl (i_in (x := 6) rfl (by omega)) dX12_four_22 (fun H locs hP hD hS => ?_)
  generalize hf_14 : (upd f_9 (6 : Int32).toNatClampNeg x_13) = f_14 at hP hD
  have hP : va_P D vwCl [(a0, .inr (12, [w0, w1, w2, w3, w4, w5, w6, w7, w8, w9, w10, w11, .ref a1, .int 6, w14, w15, w16, w17, w18, w19, w20, w21, w22, w23, w24, w25, w26, w27, w28, w29, w30, w31, w32, w33, w34, w35, w36, w37, w38, w39, w40, w41, w42, w43, w44, w45, w46, w47, w48, w49, w50, w51, w52, w53, w54, w55, w56, w57, w58, w59])), (a1, .inl (K 0, 400, .inl f_14))] H := hP
  have hD : va_D A [(a0, .inr (12, [w0, w1, w2, w3, w4, w5, w6, w7, w8, w9, w10, w11, .ref a1, .int 6, w14, w15, w16, w17, w18, w19, w20, w21, w22, w23, w24, w25, w26, w27, w28, w29, w30, w31, w32, w33, w34, w35, w36, w37, w38, w39, w40, w41, w42, w43, w44, w45, w46, w47, w48, w49, w50, w51, w52, w53, w54, w55, w56, w57, w58, w59])), (a1, .inl (K 0, 400, .inl f_14))] := hD
  refine lv_aload_n hx hb dX12_four_23 rfl (lv_at hl 1 rfl) ?_
  refine lv_dup hx hb dX12_four_24 rfl ?_
  refine va_get (ci := 12) (v := .int 6) (C := RX12) (T := TX12) (N := 60) hx hb hts hw12 hown hK hP 0 rfl rfl 13 (by decide) (hts (.fieldLink RX12 227 "SmokeTuneModel" "taped" "I") (List.mem_cons_of_mem _ (List.mem_append_left _ (List.mem_of_getElem? (i := 1) rfl)))) (fun _ h9 => h9) rfl dX12_four_25 ?_
  refine lv_iconst (v := 1) hx hb dX12_four_28 (by decide) ?_
  refine lv_iadd hx hb dX12_four_29 ?_
  refine lv_topi (fun x_15 ex_15 => ?_)
  obtain rfl : x_15 = 7 := ex_15.trans (by first | rfl | decide)
  refine va_put (ci := 12) (v := .int 7) (ty := .int) (C := RX12) (T := TX12) (N := 60) hx hb hts hw12 tyX12 tyX12_ok nmX12 hown hK hP hD hS 0 rfl rfl 13 (by decide) (hts (.fieldLink RX12 227 "SmokeTuneModel" "taped" "I") (List.mem_cons_of_mem _ (List.mem_append_left _ (List.mem_of_getElem? (i := 1) rfl)))) (fun _ h9 => h9) rfl (by decide +kernel) (by first | rfl | decide) (by first | rfl | decide) (Nat.le_of_ble_eq_true rfl) dX12_four_30 (fun H locs hP hD hS => ?_)
  have hP : va_P D vwCl [(a0, .inr (12, [w0, w1, w2, w3, w4, w5, w6, w7, w8, w9, w10, w11, .ref a1, .int 7, w14, w15, w16, w17, w18, w19, w20, w21, w22, w23, w24, w25, w26, w27, w28, w29, w30, w31, w32, w33, w34, w35, w36, w37, w38, w39, w40, w41, w42, w43, w44, w45, w46, w47, w48, w49, w50, w51, w52, w53, w54, w55, w56, w57, w58, w59])), (a1, .inl (K 0, 400, .inl f_14))] H := hP
  have hD : va_D A [(a0, .inr (12, [w0, w1, w2, w3, w4, w5, w6, w7, w8, w9, w10, w11, .ref a1, .int 7, w14, w15, w16, w17, w18, w19, w20, w21, w22, w23, w24, w25, w26, w27, w28, w29, w30, w31, w32, w33, w34, w35, w36, w37, w38, w39, w40, w41, w42, w43, w44, w45, w46, w47, w48, w49, w50, w51, w52, w53, w54, w55, w56, w57, w58, w59])), (a1, .inl (K 0, 400, .inl f_14))] := hD
  refine lv_iinc (v := 0) (lv' := [(2, .int 0), (0, .ref a0), (1, .int x)]) hx hb dX12_four_33 hl (k := 0) rfl (by decide) (by decide) rfl (fun ls hl => ?_)
  refine lv_goto (tgt := 3) hx hb dX12_four_36 (by decide) ?_
  refine lv_iload_n hx hb dX12_four_3 rfl (lv_at hl 0 rfl) ?_
  refine lv_if_lt (tgt := 39) hx hb dX12_four_4 (by decide) (fun c_16 => absurd c_16 (by decide)) (fun c_16 => ?_)
  refine lv_aload_n hx hb dX12_four_7 rfl (lv_at hl 1 rfl) ?_
  refine va_get (ci := 12) (v := .ref a1) (C := RX12) (T := TX12) (N := 60) hx hb hts hw12 hown hK hP 0 rfl rfl 12 (by decide) (hts (.fieldLink RX12 35 "SmokeTuneModel" "tape" "[I") (List.mem_cons_of_mem _ (List.mem_append_left _ (List.mem_of_getElem? (i := 0) rfl)))) (fun _ h9 => h9) rfl dX12_four_8 ?_
  refine lv_aload_n hx hb dX12_four_11 rfl (lv_at hl 1 rfl) ?_
  refine va_get (ci := 12) (v := .int 7) (C := RX12) (T := TX12) (N := 60) hx hb hts hw12 hown hK hP 0 rfl rfl 13 (by decide) (hts (.fieldLink RX12 227 "SmokeTuneModel" "taped" "I") (List.mem_cons_of_mem _ (List.mem_append_left _ (List.mem_of_getElem? (i := 1) rfl)))) (fun _ h9 => h9) rfl dX12_four_12 ?_
  refine lv_iload_n hx hb dX12_four_15 rfl (lv_at hl 2 rfl) ?_
  refine lv_iload_n hx hb dX12_four_16 rfl (lv_at hl 0 rfl) ?_
  refine lv_ishr hx hb dX12_four_17 ?_
  refine lv_topi (fun x_17 ex_17 => ?_)
  refine lv_sipush (v := 255) hx hb dX12_four_18 (by decide) ?_
  refine lv_iand hx hb dX12_four_21 ?_
  refine lv_topi (fun x_18 ex_18 => ?_)
  refine va_iast hx hb hK hP hD hS 1 0 rfl rfl (i_in (x := 7) rfl (by omega)) dX12_four_22 (fun H locs hP hD hS => ?_)
  generalize hf_19 : (upd f_14 (7 : Int32).toNatClampNeg x_18) = f_19 at hP hD
  have hP : va_P D vwCl [(a0, .inr (12, [w0, w1, w2, w3, w4, w5, w6, w7, w8, w9, w10, w11, .ref a1, .int 7, w14, w15, w16, w17, w18, w19, w20, w21, w22, w23, w24, w25, w26, w27, w28, w29, w30, w31, w32, w33, w34, w35, w36, w37, w38, w39, w40, w41, w42, w43, w44, w45, w46, w47, w48, w49, w50, w51, w52, w53, w54, w55, w56, w57, w58, w59])), (a1, .inl (K 0, 400, .inl f_19))] H := hP
  have hD : va_D A [(a0, .inr (12, [w0, w1, w2, w3, w4, w5, w6, w7, w8, w9, w10, w11, .ref a1, .int 7, w14, w15, w16, w17, w18, w19, w20, w21, w22, w23, w24, w25, w26, w27, w28, w29, w30, w31, w32, w33, w34, w35, w36, w37, w38, w39, w40, w41, w42, w43, w44, w45, w46, w47, w48, w49, w50, w51, w52, w53, w54, w55, w56, w57, w58, w59])), (a1, .inl (K 0, 400, .inl f_19))] := hD
  refine lv_aload_n hx hb dX12_four_23 rfl (lv_at hl 1 rfl) ?_
  refine lv_dup hx hb dX12_four_24 rfl ?_
  refine va_get (ci := 12) (v := .int 7) (C := RX12) (T := TX12) (N := 60) hx hb hts hw12 hown hK hP 0 rfl rfl 13 (by decide) (hts (.fieldLink RX12 227 "SmokeTuneModel" "taped" "I") (List.mem_cons_of_mem _ (List.mem_append_left _ (List.mem_of_getElem? (i := 1) rfl)))) (fun _ h9 => h9) rfl dX12_four_25 ?_
  refine lv_iconst (v := 1) hx hb dX12_four_28 (by decide) ?_
  refine lv_iadd hx hb dX12_four_29 ?_
  refine lv_topi (fun x_20 ex_20 => ?_)
  obtain rfl : x_20 = 8 := ex_20.trans (by first | rfl | decide)
  refine va_put (ci := 12) (v := .int 8) (ty := .int) (C := RX12) (T := TX12) (N := 60) hx hb hts hw12 tyX12 tyX12_ok nmX12 hown hK hP hD hS 0 rfl rfl 13 (by decide) (hts (.fieldLink RX12 227 "SmokeTuneModel" "taped" "I") (List.mem_cons_of_mem _ (List.mem_append_left _ (List.mem_of_getElem? (i := 1) rfl)))) (fun _ h9 => h9) rfl (by decide +kernel) (by first | rfl | decide) (by first | rfl | decide) (Nat.le_of_ble_eq_true rfl) dX12_four_30 (fun H locs hP hD hS => ?_)
  have hP : va_P D vwCl [(a0, .inr (12, [w0, w1, w2, w3, w4, w5, w6, w7, w8, w9, w10, w11, .ref a1, .int 8, w14, w15, w16, w17, w18, w19, w20, w21, w22, w23, w24, w25, w26, w27, w28, w29, w30, w31, w32, w33, w34, w35, w36, w37, w38, w39, w40, w41, w42, w43, w44, w45, w46, w47, w48, w49, w50, w51, w52, w53, w54, w55, w56, w57, w58, w59])), (a1, .inl (K 0, 400, .inl f_19))] H := hP
  have hD : va_D A [(a0, .inr (12, [w0, w1, w2, w3, w4, w5, w6, w7, w8, w9, w10, w11, .ref a1, .int 8, w14, w15, w16, w17, w18, w19, w20, w21, w22, w23, w24, w25, w26, w27, w28, w29, w30, w31, w32, w33, w34, w35, w36, w37, w38, w39, w40, w41, w42, w43, w44, w45, w46, w47, w48, w49, w50, w51, w52, w53, w54, w55, w56, w57, w58, w59])), (a1, .inl (K 0, 400, .inl f_19))] := hD
  refine lv_iinc (v := (-8)) (lv' := [(2, .int (-8)), (0, .ref a0), (1, .int x)]) hx hb dX12_four_33 hl (k := 0) rfl (by decide) (by decide) rfl (fun ls hl => ?_)
  refine lv_goto (tgt := 3) hx hb dX12_four_36 (by decide) ?_
  refine lv_iload_n hx hb dX12_four_3 rfl (lv_at hl 0 rfl) ?_
  refine lv_if_lt (tgt := 39) hx hb dX12_four_4 (by decide) (fun c_21 => ?_) (fun c_21 => absurd (by decide) c_21)
  have hP9 := hP.sub (ws' := [(a0, .inr (12, [w0, w1, w2, w3, w4, w5, w6, w7, w8, w9, w10, w11, .ref a1, .int 8, w14, w15, w16, w17, w18, w19, w20, w21, w22, w23, w24, w25, w26, w27, w28, w29, w30, w31, w32, w33, w34, w35, w36, w37, w38, w39, w40, w41, w42, w43, w44, w45, w46, w47, w48, w49, w50, w51, w52, w53, w54, w55, w56, w57, w58, w59])), (a1, .inl (K 0, 400, .inl f_19))]) [0, 1] rfl
  have hD9 := hD.sub (ws' := [(a0, .inr (12, [w0, w1, w2, w3, w4, w5, w6, w7, w8, w9, w10, w11, .ref a1, .int 8, w14, w15, w16, w17, w18, w19, w20, w21, w22, w23, w24, w25, w26, w27, w28, w29, w30, w31, w32, w33, w34, w35, w36, w37, w38, w39, w40, w41, w42, w43, w44, w45, w46, w47, w48, w49, w50, w51, w52, w53, w54, w55, w56, w57, w58, w59])), (a1, .inl (K 0, 400, .inl f_19))]) [0, 1] (by decide) rfl
  exact W.vret hx hb hr (fun t ht hW => ⟨⟨(fun _ => 0, fun i => match i with | _ => f_19, fun _ => fun _ => 0, fun _ => 0), rfl, trivial, (⟨by rw [ht]; exact hP9, hD9⟩ : Wd D A _ t)⟩, hS.F ht⟩) hS.2.2 dX12_four_39
set_option maxHeartbeats 4000000 in
set_option maxRecDepth 100000 in
theorem m_four_8 (l : Launch) (D : va_G) (K : Nat → ClassId) (a0 : Nat) (x : Int32) (w0 : Value) (w1 : Value) (w2 : Value) (w3 : Value) (w4 : Value) (w5 : Value) (w6 : Value) (w7 : Value) (w8 : Value) (w9 : Value) (w10 : Value) (w11 : Value) (a1 : Nat) (w14 : Value) (w15 : Value) (w16 : Value) (w17 : Value) (w18 : Value) (w19 : Value) (w20 : Value) (w21 : Value) (w22 : Value) (w23 : Value) (w24 : Value) (w25 : Value) (w26 : Value) (w27 : Value) (w28 : Value) (w29 : Value) (w30 : Value) (w31 : Value) (w32 : Value) (w33 : Value) (w34 : Value) (w35 : Value) (w36 : Value) (w37 : Value) (w38 : Value) (w39 : Value) (w40 : Value) (w41 : Value) (w42 : Value) (w43 : Value) (w44 : Value) (w45 : Value) (w46 : Value) (w47 : Value) (w48 : Value) (w49 : Value) (w50 : Value) (w51 : Value) (w52 : Value) (w53 : Value) (w54 : Value) (w55 : Value) (w56 : Value) (w57 : Value) (w58 : Value) (w59 : Value) (f : Nat → Int32) (sz : Nat) : Met l yX12_four wsX12_four ({ frames := 0, cells := 0, slots := 0, locals := 0 }) (va_Pc [.ref a0, .int x] (Pre D K [(a0, .inr (12, [w0, w1, w2, w3, w4, w5, w6, w7, w8, w9, w10, w11, .ref a1, .int 8, w14, w15, w16, w17, w18, w19, w20, w21, w22, w23, w24, w25, w26, w27, w28, w29, w30, w31, w32, w33, w34, w35, w36, w37, w38, w39, w40, w41, w42, w43, w44, w45, w46, w47, w48, w49, w50, w51, w52, w53, w54, w55, w56, w57, w58, w59])), (a1, .inl (K 0, 400, .inl f))] sz)) (va_Qv (S := (Nat → Nat) × (Nat → Nat → Int32) × (Nat → Nat → Int64) × (Nat → Int32)) (fun _ => True) (fun u t => Wd D (va_A [(a0, .inr (12, [w0, w1, w2, w3, w4, w5, w6, w7, w8, w9, w10, w11, .ref a1, .int 8, w14, w15, w16, w17, w18, w19, w20, w21, w22, w23, w24, w25, w26, w27, w28, w29, w30, w31, w32, w33, w34, w35, w36, w37, w38, w39, w40, w41, w42, w43, w44, w45, w46, w47, w48, w49, w50, w51, w52, w53, w54, w55, w56, w57, w58, w59])), (a1, .inl (K 0, 400, .inl f))] sz) ((fun u => [(a0, .inr (12, [w0, w1, w2, w3, w4, w5, w6, w7, w8, w9, w10, w11, .ref a1, .int 12, w14, w15, w16, w17, w18, w19, w20, w21, w22, w23, w24, w25, w26, w27, w28, w29, w30, w31, w32, w33, w34, w35, w36, w37, w38, w39, w40, w41, w42, w43, w44, w45, w46, w47, w48, w49, w50, w51, w52, w53, w54, w55, w56, w57, w58, w59])), (a1, .inl (K 0, 400, .inl ((u.2.1 0))))]) u) t) (va_A [(a0, .inr (12, [w0, w1, w2, w3, w4, w5, w6, w7, w8, w9, w10, w11, .ref a1, .int 8, w14, w15, w16, w17, w18, w19, w20, w21, w22, w23, w24, w25, w26, w27, w28, w29, w30, w31, w32, w33, w34, w35, w36, w37, w38, w39, w40, w41, w42, w43, w44, w45, w46, w47, w48, w49, w50, w51, w52, w53, w54, w55, w56, w57, w58, w59])), (a1, .inl (K 0, 400, .inl f))] sz)) 0 0 (va_A [(a0, .inr (12, [w0, w1, w2, w3, w4, w5, w6, w7, w8, w9, w10, w11, .ref a1, .int 8, w14, w15, w16, w17, w18, w19, w20, w21, w22, w23, w24, w25, w26, w27, w28, w29, w30, w31, w32, w33, w34, w35, w36, w37, w38, w39, w40, w41, w42, w43, w44, w45, w46, w47, w48, w49, w50, w51, w52, w53, w54, w55, w56, w57, w58, w59])), (a1, .inl (K 0, 400, .inl f))] sz) := by
  refine Met.ofW (cc := cX12_four) (maxL := 3) (ret := none) (by decide) rfl ?_
  intro p e s m args below meth c s₁ B hml hv
  obtain ⟨rfl, hsz, hP, hK, hD0, hN⟩ := hv
  have hx := B.exec
  have hb := B.bytes
  have hr := B.returns
  have hts := atoms_spec (ws := wsX12_four) B.pre
  have hown : s.vm.findClass RX12 = some m.cls := findClass_of_methodNamed B.named
  have hlocks := B.notSynchronized
  subst hsz
  have hD := hD0.self (sz := s.heap.size)
  generalize hAe : va_A [(a0, .inr (12, [w0, w1, w2, w3, w4, w5, w6, w7, w8, w9, w10, w11, .ref a1, .int 8, w14, w15, w16, w17, w18, w19, w20, w21, w22, w23, w24, w25, w26, w27, w28, w29, w30, w31, w32, w33, w34, w35, w36, w37, w38, w39, w40, w41, w42, w43, w44, w45, w46, w47, w48, w49, w50, w51, w52, w53, w54, w55, w56, w57, w58, w59])), (a1, .inl (K 0, 400, .inl f))] s.heap.size = A at hD ⊢
  have hA : ∀ q : Nat, s.heap.size ≤ q → A q := fun q h => by rw [← hAe]; exact Or.inr h
  have hS : va_S A s.heap s.heap [] := va_S.rf
  have hP : va_P D vwCl [(a0, .inr (12, [w0, w1, w2, w3, w4, w5, w6, w7, w8, w9, w10, w11, .ref a1, .int 8, w14, w15, w16, w17, w18, w19, w20, w21, w22, w23, w24, w25, w26, w27, w28, w29, w30, w31, w32, w33, w34, w35, w36, w37, w38, w39, w40, w41, w42, w43, w44, w45, w46, w47, w48, w49, w50, w51, w52, w53, w54, w55, w56, w57, w58, w59])), (a1, .inl (K 0, 400, .inl f))] s.heap := hP
  have hl := lv_entry [.ref a0, .int x] (n := 3) (Nat.le_of_ble_eq_true rfl)
  rw [lg_entry_eq]
  generalize (lg_sl [.ref a0, .int x] ++ List.replicate (3 - (lg_sl [.ref a0, .int x]).length) Slot.unset).toArray = ls at hl ⊢
  have hl : lv_has ls 3 [(0, .ref a0), (1, .int x)] := hl
  have hw12 : ∀ w ∈ wsX120, w ∈ wsX12_four := fun w h => (List.mem_cons_of_mem _ (List.mem_append_right _ h))
  refine lv_bipush (v := 24) hx hb dX12_four_0 (by decide) ?_
  refine lv_istore_n (lv' := [(2, .int 24), (0, .ref a0), (1, .int x)]) hx hb dX12_four_2 rfl hl (by decide) rfl (fun ls hl => ?_)
  refine lv_iload_n hx hb dX12_four_3 rfl (lv_at hl 0 rfl) ?_
  refine lv_if_lt (tgt := 39) hx hb dX12_four_4 (by decide) (fun c_1 => absurd c_1 (by decide)) (fun c_1 => ?_)
  refine lv_aload_n hx hb dX12_four_7 rfl (lv_at hl 1 rfl) ?_
  refine va_get (ci := 12) (v := .ref a1) (C := RX12) (T := TX12) (N := 60) hx hb hts hw12 hown hK hP 0 rfl rfl 12 (by decide) (hts (.fieldLink RX12 35 "SmokeTuneModel" "tape" "[I") (List.mem_cons_of_mem _ (List.mem_append_left _ (List.mem_of_getElem? (i := 0) rfl)))) (fun _ h9 => h9) rfl dX12_four_8 ?_
  refine lv_aload_n hx hb dX12_four_11 rfl (lv_at hl 1 rfl) ?_
  refine va_get (ci := 12) (v := .int 8) (C := RX12) (T := TX12) (N := 60) hx hb hts hw12 hown hK hP 0 rfl rfl 13 (by decide) (hts (.fieldLink RX12 227 "SmokeTuneModel" "taped" "I") (List.mem_cons_of_mem _ (List.mem_append_left _ (List.mem_of_getElem? (i := 1) rfl)))) (fun _ h9 => h9) rfl dX12_four_12 ?_
  refine lv_iload_n hx hb dX12_four_15 rfl (lv_at hl 2 rfl) ?_
  refine lv_iload_n hx hb dX12_four_16 rfl (lv_at hl 0 rfl) ?_
  refine lv_ishr hx hb dX12_four_17 ?_
  refine lv_topi (fun x_2 ex_2 => ?_)
  refine lv_sipush (v := 255) hx hb dX12_four_18 (by decide) ?_
  refine lv_iand hx hb dX12_four_21 ?_
  refine lv_topi (fun x_3 ex_3 => ?_)
  refine va_iast hx hb hK hP hD hS 1 0 rfl rfl (i_in (x := 8) rfl (by omega)) dX12_four_22 (fun H locs hP hD hS => ?_)
  generalize hf_4 : (upd f (8 : Int32).toNatClampNeg x_3) = f_4 at hP hD
  have hP : va_P D vwCl [(a0, .inr (12, [w0, w1, w2, w3, w4, w5, w6, w7, w8, w9, w10, w11, .ref a1, .int 8, w14, w15, w16, w17, w18, w19, w20, w21, w22, w23, w24, w25, w26, w27, w28, w29, w30, w31, w32, w33, w34, w35, w36, w37, w38, w39, w40, w41, w42, w43, w44, w45, w46, w47, w48, w49, w50, w51, w52, w53, w54, w55, w56, w57, w58, w59])), (a1, .inl (K 0, 400, .inl f_4))] H := hP
  have hD : va_D A [(a0, .inr (12, [w0, w1, w2, w3, w4, w5, w6, w7, w8, w9, w10, w11, .ref a1, .int 8, w14, w15, w16, w17, w18, w19, w20, w21, w22, w23, w24, w25, w26, w27, w28, w29, w30, w31, w32, w33, w34, w35, w36, w37, w38, w39, w40, w41, w42, w43, w44, w45, w46, w47, w48, w49, w50, w51, w52, w53, w54, w55, w56, w57, w58, w59])), (a1, .inl (K 0, 400, .inl f_4))] := hD
  refine lv_aload_n hx hb dX12_four_23 rfl (lv_at hl 1 rfl) ?_
  refine lv_dup hx hb dX12_four_24 rfl ?_
  refine va_get (ci := 12) (v := .int 8) (C := RX12) (T := TX12) (N := 60) hx hb hts hw12 hown hK hP 0 rfl rfl 13 (by decide) (hts (.fieldLink RX12 227 "SmokeTuneModel" "taped" "I") (List.mem_cons_of_mem _ (List.mem_append_left _ (List.mem_of_getElem? (i := 1) rfl)))) (fun _ h9 => h9) rfl dX12_four_25 ?_
  refine lv_iconst (v := 1) hx hb dX12_four_28 (by decide) ?_
  refine lv_iadd hx hb dX12_four_29 ?_
  refine lv_topi (fun x_5 ex_5 => ?_)
  obtain rfl : x_5 = 9 := ex_5.trans (by first | rfl | decide)
  refine va_put (ci := 12) (v := .int 9) (ty := .int) (C := RX12) (T := TX12) (N := 60) hx hb hts hw12 tyX12 tyX12_ok nmX12 hown hK hP hD hS 0 rfl rfl 13 (by decide) (hts (.fieldLink RX12 227 "SmokeTuneModel" "taped" "I") (List.mem_cons_of_mem _ (List.mem_append_left _ (List.mem_of_getElem? (i := 1) rfl)))) (fun _ h9 => h9) rfl (by decide +kernel) (by first | rfl | decide) (by first | rfl | decide) (Nat.le_of_ble_eq_true rfl) dX12_four_30 (fun H locs hP hD hS => ?_)
  have hP : va_P D vwCl [(a0, .inr (12, [w0, w1, w2, w3, w4, w5, w6, w7, w8, w9, w10, w11, .ref a1, .int 9, w14, w15, w16, w17, w18, w19, w20, w21, w22, w23, w24, w25, w26, w27, w28, w29, w30, w31, w32, w33, w34, w35, w36, w37, w38, w39, w40, w41, w42, w43, w44, w45, w46, w47, w48, w49, w50, w51, w52, w53, w54, w55, w56, w57, w58, w59])), (a1, .inl (K 0, 400, .inl f_4))] H := hP
  have hD : va_D A [(a0, .inr (12, [w0, w1, w2, w3, w4, w5, w6, w7, w8, w9, w10, w11, .ref a1, .int 9, w14, w15, w16, w17, w18, w19, w20, w21, w22, w23, w24, w25, w26, w27, w28, w29, w30, w31, w32, w33, w34, w35, w36, w37, w38, w39, w40, w41, w42, w43, w44, w45, w46, w47, w48, w49, w50, w51, w52, w53, w54, w55, w56, w57, w58, w59])), (a1, .inl (K 0, 400, .inl f_4))] := hD
  refine lv_iinc (v := 16) (lv' := [(2, .int 16), (0, .ref a0), (1, .int x)]) hx hb dX12_four_33 hl (k := 0) rfl (by decide) (by decide) rfl (fun ls hl => ?_)
  refine lv_goto (tgt := 3) hx hb dX12_four_36 (by decide) ?_
  refine lv_iload_n hx hb dX12_four_3 rfl (lv_at hl 0 rfl) ?_
  refine lv_if_lt (tgt := 39) hx hb dX12_four_4 (by decide) (fun c_6 => absurd c_6 (by decide)) (fun c_6 => ?_)
  refine lv_aload_n hx hb dX12_four_7 rfl (lv_at hl 1 rfl) ?_
  refine va_get (ci := 12) (v := .ref a1) (C := RX12) (T := TX12) (N := 60) hx hb hts hw12 hown hK hP 0 rfl rfl 12 (by decide) (hts (.fieldLink RX12 35 "SmokeTuneModel" "tape" "[I") (List.mem_cons_of_mem _ (List.mem_append_left _ (List.mem_of_getElem? (i := 0) rfl)))) (fun _ h9 => h9) rfl dX12_four_8 ?_
  refine lv_aload_n hx hb dX12_four_11 rfl (lv_at hl 1 rfl) ?_
  refine va_get (ci := 12) (v := .int 9) (C := RX12) (T := TX12) (N := 60) hx hb hts hw12 hown hK hP 0 rfl rfl 13 (by decide) (hts (.fieldLink RX12 227 "SmokeTuneModel" "taped" "I") (List.mem_cons_of_mem _ (List.mem_append_left _ (List.mem_of_getElem? (i := 1) rfl)))) (fun _ h9 => h9) rfl dX12_four_12 ?_
  refine lv_iload_n hx hb dX12_four_15 rfl (lv_at hl 2 rfl) ?_
  refine lv_iload_n hx hb dX12_four_16 rfl (lv_at hl 0 rfl) ?_
  refine lv_ishr hx hb dX12_four_17 ?_
  refine lv_topi (fun x_7 ex_7 => ?_)
  refine lv_sipush (v := 255) hx hb dX12_four_18 (by decide) ?_
  refine lv_iand hx hb dX12_four_21 ?_
  refine lv_topi (fun x_8 ex_8 => ?_)
  refine va_iast hx hb hK hP hD hS 1 0 rfl rfl (i_in (x := 9) rfl (by omega)) dX12_four_22 (fun H locs hP hD hS => ?_)
  generalize hf_9 : (upd f_4 (9 : Int32).toNatClampNeg x_8) = f_9 at hP hD
  have hP : va_P D vwCl [(a0, .inr (12, [w0, w1, w2, w3, w4, w5, w6, w7, w8, w9, w10, w11, .ref a1, .int 9, w14, w15, w16, w17, w18, w19, w20, w21, w22, w23, w24, w25, w26, w27, w28, w29, w30, w31, w32, w33, w34, w35, w36, w37, w38, w39, w40, w41, w42, w43, w44, w45, w46, w47, w48, w49, w50, w51, w52, w53, w54, w55, w56, w57, w58, w59])), (a1, .inl (K 0, 400, .inl f_9))] H := hP
  have hD : va_D A [(a0, .inr (12, [w0, w1, w2, w3, w4, w5, w6, w7, w8, w9, w10, w11, .ref a1, .int 9, w14, w15, w16, w17, w18, w19, w20, w21, w22, w23, w24, w25, w26, w27, w28, w29, w30, w31, w32, w33, w34, w35, w36, w37, w38, w39, w40, w41, w42, w43, w44, w45, w46, w47, w48, w49, w50, w51, w52, w53, w54, w55, w56, w57, w58, w59])), (a1, .inl (K 0, 400, .inl f_9))] := hD
  refine lv_aload_n hx hb dX12_four_23 rfl (lv_at hl 1 rfl) ?_
  refine lv_dup hx hb dX12_four_24 rfl ?_
  refine va_get (ci := 12) (v := .int 9) (C := RX12) (T := TX12) (N := 60) hx hb hts hw12 hown hK hP 0 rfl rfl 13 (by decide) (hts (.fieldLink RX12 227 "SmokeTuneModel" "taped" "I") (List.mem_cons_of_mem _ (List.mem_append_left _ (List.mem_of_getElem? (i := 1) rfl)))) (fun _ h9 => h9) rfl dX12_four_25 ?_
  refine lv_iconst (v := 1) hx hb dX12_four_28 (by decide) ?_
  refine lv_iadd hx hb dX12_four_29 ?_
  refine lv_topi (fun x_10 ex_10 => ?_)
  obtain rfl : x_10 = 10 := ex_10.trans (by first | rfl | decide)
  refine va_put (ci := 12) (v := .int 10) (ty := .int) (C := RX12) (T := TX12) (N := 60) hx hb hts hw12 tyX12 tyX12_ok nmX12 hown hK hP hD hS 0 rfl rfl 13 (by decide) (hts (.fieldLink RX12 227 "SmokeTuneModel" "taped" "I") (List.mem_cons_of_mem _ (List.mem_append_left _ (List.mem_of_getElem? (i := 1) rfl)))) (fun _ h9 => h9) rfl (by decide +kernel) (by first | rfl | decide) (by first | rfl | decide) (Nat.le_of_ble_eq_true rfl) dX12_four_30 (fun H locs hP hD hS => ?_)
  have hP : va_P D vwCl [(a0, .inr (12, [w0, w1, w2, w3, w4, w5, w6, w7, w8, w9, w10, w11, .ref a1, .int 10, w14, w15, w16, w17, w18, w19, w20, w21, w22, w23, w24, w25, w26, w27, w28, w29, w30, w31, w32, w33, w34, w35, w36, w37, w38, w39, w40, w41, w42, w43, w44, w45, w46, w47, w48, w49, w50, w51, w52, w53, w54, w55, w56, w57, w58, w59])), (a1, .inl (K 0, 400, .inl f_9))] H := hP
  have hD : va_D A [(a0, .inr (12, [w0, w1, w2, w3, w4, w5, w6, w7, w8, w9, w10, w11, .ref a1, .int 10, w14, w15, w16, w17, w18, w19, w20, w21, w22, w23, w24, w25, w26, w27, w28, w29, w30, w31, w32, w33, w34, w35, w36, w37, w38, w39, w40, w41, w42, w43, w44, w45, w46, w47, w48, w49, w50, w51, w52, w53, w54, w55, w56, w57, w58, w59])), (a1, .inl (K 0, 400, .inl f_9))] := hD
  refine lv_iinc (v := 8) (lv' := [(2, .int 8), (0, .ref a0), (1, .int x)]) hx hb dX12_four_33 hl (k := 0) rfl (by decide) (by decide) rfl (fun ls hl => ?_)
  refine lv_goto (tgt := 3) hx hb dX12_four_36 (by decide) ?_
  refine lv_iload_n hx hb dX12_four_3 rfl (lv_at hl 0 rfl) ?_
  refine lv_if_lt (tgt := 39) hx hb dX12_four_4 (by decide) (fun c_11 => absurd c_11 (by decide)) (fun c_11 => ?_)
  refine lv_aload_n hx hb dX12_four_7 rfl (lv_at hl 1 rfl) ?_
  refine va_get (ci := 12) (v := .ref a1) (C := RX12) (T := TX12) (N := 60) hx hb hts hw12 hown hK hP 0 rfl rfl 12 (by decide) (hts (.fieldLink RX12 35 "SmokeTuneModel" "tape" "[I") (List.mem_cons_of_mem _ (List.mem_append_left _ (List.mem_of_getElem? (i := 0) rfl)))) (fun _ h9 => h9) rfl dX12_four_8 ?_
  refine lv_aload_n hx hb dX12_four_11 rfl (lv_at hl 1 rfl) ?_
  refine va_get (ci := 12) (v := .int 10) (C := RX12) (T := TX12) (N := 60) hx hb hts hw12 hown hK hP 0 rfl rfl 13 (by decide) (hts (.fieldLink RX12 227 "SmokeTuneModel" "taped" "I") (List.mem_cons_of_mem _ (List.mem_append_left _ (List.mem_of_getElem? (i := 1) rfl)))) (fun _ h9 => h9) rfl dX12_four_12 ?_
  refine lv_iload_n hx hb dX12_four_15 rfl (lv_at hl 2 rfl) ?_
  refine lv_iload_n hx hb dX12_four_16 rfl (lv_at hl 0 rfl) ?_
  refine lv_ishr hx hb dX12_four_17 ?_
  refine lv_topi (fun x_12 ex_12 => ?_)
  refine lv_sipush (v := 255) hx hb dX12_four_18 (by decide) ?_
  refine lv_iand hx hb dX12_four_21 ?_
  refine lv_topi (fun x_13 ex_13 => ?_)
  refine va_iast hx hb hK hP hD hS 1 0 rfl rfl (i_in (x := 10) rfl (by omega)) dX12_four_22 (fun H locs hP hD hS => ?_)
  generalize hf_14 : (upd f_9 (10 : Int32).toNatClampNeg x_13) = f_14 at hP hD
  have hP : va_P D vwCl [(a0, .inr (12, [w0, w1, w2, w3, w4, w5, w6, w7, w8, w9, w10, w11, .ref a1, .int 10, w14, w15, w16, w17, w18, w19, w20, w21, w22, w23, w24, w25, w26, w27, w28, w29, w30, w31, w32, w33, w34, w35, w36, w37, w38, w39, w40, w41, w42, w43, w44, w45, w46, w47, w48, w49, w50, w51, w52, w53, w54, w55, w56, w57, w58, w59])), (a1, .inl (K 0, 400, .inl f_14))] H := hP
  have hD : va_D A [(a0, .inr (12, [w0, w1, w2, w3, w4, w5, w6, w7, w8, w9, w10, w11, .ref a1, .int 10, w14, w15, w16, w17, w18, w19, w20, w21, w22, w23, w24, w25, w26, w27, w28, w29, w30, w31, w32, w33, w34, w35, w36, w37, w38, w39, w40, w41, w42, w43, w44, w45, w46, w47, w48, w49, w50, w51, w52, w53, w54, w55, w56, w57, w58, w59])), (a1, .inl (K 0, 400, .inl f_14))] := hD
  refine lv_aload_n hx hb dX12_four_23 rfl (lv_at hl 1 rfl) ?_
  refine lv_dup hx hb dX12_four_24 rfl ?_
  refine va_get (ci := 12) (v := .int 10) (C := RX12) (T := TX12) (N := 60) hx hb hts hw12 hown hK hP 0 rfl rfl 13 (by decide) (hts (.fieldLink RX12 227 "SmokeTuneModel" "taped" "I") (List.mem_cons_of_mem _ (List.mem_append_left _ (List.mem_of_getElem? (i := 1) rfl)))) (fun _ h9 => h9) rfl dX12_four_25 ?_
  refine lv_iconst (v := 1) hx hb dX12_four_28 (by decide) ?_
  refine lv_iadd hx hb dX12_four_29 ?_
  refine lv_topi (fun x_15 ex_15 => ?_)
  obtain rfl : x_15 = 11 := ex_15.trans (by first | rfl | decide)
  refine va_put (ci := 12) (v := .int 11) (ty := .int) (C := RX12) (T := TX12) (N := 60) hx hb hts hw12 tyX12 tyX12_ok nmX12 hown hK hP hD hS 0 rfl rfl 13 (by decide) (hts (.fieldLink RX12 227 "SmokeTuneModel" "taped" "I") (List.mem_cons_of_mem _ (List.mem_append_left _ (List.mem_of_getElem? (i := 1) rfl)))) (fun _ h9 => h9) rfl (by decide +kernel) (by first | rfl | decide) (by first | rfl | decide) (Nat.le_of_ble_eq_true rfl) dX12_four_30 (fun H locs hP hD hS => ?_)
  have hP : va_P D vwCl [(a0, .inr (12, [w0, w1, w2, w3, w4, w5, w6, w7, w8, w9, w10, w11, .ref a1, .int 11, w14, w15, w16, w17, w18, w19, w20, w21, w22, w23, w24, w25, w26, w27, w28, w29, w30, w31, w32, w33, w34, w35, w36, w37, w38, w39, w40, w41, w42, w43, w44, w45, w46, w47, w48, w49, w50, w51, w52, w53, w54, w55, w56, w57, w58, w59])), (a1, .inl (K 0, 400, .inl f_14))] H := hP
  have hD : va_D A [(a0, .inr (12, [w0, w1, w2, w3, w4, w5, w6, w7, w8, w9, w10, w11, .ref a1, .int 11, w14, w15, w16, w17, w18, w19, w20, w21, w22, w23, w24, w25, w26, w27, w28, w29, w30, w31, w32, w33, w34, w35, w36, w37, w38, w39, w40, w41, w42, w43, w44, w45, w46, w47, w48, w49, w50, w51, w52, w53, w54, w55, w56, w57, w58, w59])), (a1, .inl (K 0, 400, .inl f_14))] := hD
  refine lv_iinc (v := 0) (lv' := [(2, .int 0), (0, .ref a0), (1, .int x)]) hx hb dX12_four_33 hl (k := 0) rfl (by decide) (by decide) rfl (fun ls hl => ?_)
  refine lv_goto (tgt := 3) hx hb dX12_four_36 (by decide) ?_
  refine lv_iload_n hx hb dX12_four_3 rfl (lv_at hl 0 rfl) ?_
  refine lv_if_lt (tgt := 39) hx hb dX12_four_4 (by decide) (fun c_16 => absurd c_16 (by decide)) (fun c_16 => ?_)
  refine lv_aload_n hx hb dX12_four_7 rfl (lv_at hl 1 rfl) ?_
  refine va_get (ci := 12) (v := .ref a1) (C := RX12) (T := TX12) (N := 60) hx hb hts hw12 hown hK hP 0 rfl rfl 12 (by decide) (hts (.fieldLink RX12 35 "SmokeTuneModel" "tape" "[I") (List.mem_cons_of_mem _ (List.mem_append_left _ (List.mem_of_getElem? (i := 0) rfl)))) (fun _ h9 => h9) rfl dX12_four_8 ?_
  refine lv_aload_n hx hb dX12_four_11 rfl (lv_at hl 1 rfl) ?_
  refine va_get (ci := 12) (v := .int 11) (C := RX12) (T := TX12) (N := 60) hx hb hts hw12 hown hK hP 0 rfl rfl 13 (by decide) (hts (.fieldLink RX12 227 "SmokeTuneModel" "taped" "I") (List.mem_cons_of_mem _ (List.mem_append_left _ (List.mem_of_getElem? (i := 1) rfl)))) (fun _ h9 => h9) rfl dX12_four_12 ?_
  refine lv_iload_n hx hb dX12_four_15 rfl (lv_at hl 2 rfl) ?_
  refine lv_iload_n hx hb dX12_four_16 rfl (lv_at hl 0 rfl) ?_
  refine lv_ishr hx hb dX12_four_17 ?_
  refine lv_topi (fun x_17 ex_17 => ?_)
  refine lv_sipush (v := 255) hx hb dX12_four_18 (by decide) ?_
  refine lv_iand hx hb dX12_four_21 ?_
  refine lv_topi (fun x_18 ex_18 => ?_)
  refine va_iast hx hb hK hP hD hS 1 0 rfl rfl (i_in (x := 11) rfl (by omega)) dX12_four_22 (fun H locs hP hD hS => ?_)
  generalize hf_19 : (upd f_14 (11 : Int32).toNatClampNeg x_18) = f_19 at hP hD
  have hP : va_P D vwCl [(a0, .inr (12, [w0, w1, w2, w3, w4, w5, w6, w7, w8, w9, w10, w11, .ref a1, .int 11, w14, w15, w16, w17, w18, w19, w20, w21, w22, w23, w24, w25, w26, w27, w28, w29, w30, w31, w32, w33, w34, w35, w36, w37, w38, w39, w40, w41, w42, w43, w44, w45, w46, w47, w48, w49, w50, w51, w52, w53, w54, w55, w56, w57, w58, w59])), (a1, .inl (K 0, 400, .inl f_19))] H := hP
  have hD : va_D A [(a0, .inr (12, [w0, w1, w2, w3, w4, w5, w6, w7, w8, w9, w10, w11, .ref a1, .int 11, w14, w15, w16, w17, w18, w19, w20, w21, w22, w23, w24, w25, w26, w27, w28, w29, w30, w31, w32, w33, w34, w35, w36, w37, w38, w39, w40, w41, w42, w43, w44, w45, w46, w47, w48, w49, w50, w51, w52, w53, w54, w55, w56, w57, w58, w59])), (a1, .inl (K 0, 400, .inl f_19))] := hD
  refine lv_aload_n hx hb dX12_four_23 rfl (lv_at hl 1 rfl) ?_
  refine lv_dup hx hb dX12_four_24 rfl ?_
  refine va_get (ci := 12) (v := .int 11) (C := RX12) (T := TX12) (N := 60) hx hb hts hw12 hown hK hP 0 rfl rfl 13 (by decide) (hts (.fieldLink RX12 227 "SmokeTuneModel" "taped" "I") (List.mem_cons_of_mem _ (List.mem_append_left _ (List.mem_of_getElem? (i := 1) rfl)))) (fun _ h9 => h9) rfl dX12_four_25 ?_
  refine lv_iconst (v := 1) hx hb dX12_four_28 (by decide) ?_
  refine lv_iadd hx hb dX12_four_29 ?_
  refine lv_topi (fun x_20 ex_20 => ?_)
  obtain rfl : x_20 = 12 := ex_20.trans (by first | rfl | decide)
  refine va_put (ci := 12) (v := .int 12) (ty := .int) (C := RX12) (T := TX12) (N := 60) hx hb hts hw12 tyX12 tyX12_ok nmX12 hown hK hP hD hS 0 rfl rfl 13 (by decide) (hts (.fieldLink RX12 227 "SmokeTuneModel" "taped" "I") (List.mem_cons_of_mem _ (List.mem_append_left _ (List.mem_of_getElem? (i := 1) rfl)))) (fun _ h9 => h9) rfl (by decide +kernel) (by first | rfl | decide) (by first | rfl | decide) (Nat.le_of_ble_eq_true rfl) dX12_four_30 (fun H locs hP hD hS => ?_)
  have hP : va_P D vwCl [(a0, .inr (12, [w0, w1, w2, w3, w4, w5, w6, w7, w8, w9, w10, w11, .ref a1, .int 12, w14, w15, w16, w17, w18, w19, w20, w21, w22, w23, w24, w25, w26, w27, w28, w29, w30, w31, w32, w33, w34, w35, w36, w37, w38, w39, w40, w41, w42, w43, w44, w45, w46, w47, w48, w49, w50, w51, w52, w53, w54, w55, w56, w57, w58, w59])), (a1, .inl (K 0, 400, .inl f_19))] H := hP
  have hD : va_D A [(a0, .inr (12, [w0, w1, w2, w3, w4, w5, w6, w7, w8, w9, w10, w11, .ref a1, .int 12, w14, w15, w16, w17, w18, w19, w20, w21, w22, w23, w24, w25, w26, w27, w28, w29, w30, w31, w32, w33, w34, w35, w36, w37, w38, w39, w40, w41, w42, w43, w44, w45, w46, w47, w48, w49, w50, w51, w52, w53, w54, w55, w56, w57, w58, w59])), (a1, .inl (K 0, 400, .inl f_19))] := hD
  refine lv_iinc (v := (-8)) (lv' := [(2, .int (-8)), (0, .ref a0), (1, .int x)]) hx hb dX12_four_33 hl (k := 0) rfl (by decide) (by decide) rfl (fun ls hl => ?_)
  refine lv_goto (tgt := 3) hx hb dX12_four_36 (by decide) ?_
  refine lv_iload_n hx hb dX12_four_3 rfl (lv_at hl 0 rfl) ?_
  refine lv_if_lt (tgt := 39) hx hb dX12_four_4 (by decide) (fun c_21 => ?_) (fun c_21 => absurd (by decide) c_21)
  have hP9 := hP.sub (ws' := [(a0, .inr (12, [w0, w1, w2, w3, w4, w5, w6, w7, w8, w9, w10, w11, .ref a1, .int 12, w14, w15, w16, w17, w18, w19, w20, w21, w22, w23, w24, w25, w26, w27, w28, w29, w30, w31, w32, w33, w34, w35, w36, w37, w38, w39, w40, w41, w42, w43, w44, w45, w46, w47, w48, w49, w50, w51, w52, w53, w54, w55, w56, w57, w58, w59])), (a1, .inl (K 0, 400, .inl f_19))]) [0, 1] rfl
  have hD9 := hD.sub (ws' := [(a0, .inr (12, [w0, w1, w2, w3, w4, w5, w6, w7, w8, w9, w10, w11, .ref a1, .int 12, w14, w15, w16, w17, w18, w19, w20, w21, w22, w23, w24, w25, w26, w27, w28, w29, w30, w31, w32, w33, w34, w35, w36, w37, w38, w39, w40, w41, w42, w43, w44, w45, w46, w47, w48, w49, w50, w51, w52, w53, w54, w55, w56, w57, w58, w59])), (a1, .inl (K 0, 400, .inl f_19))]) [0, 1] (by decide) rfl
  exact W.vret hx hb hr (fun t ht hW => ⟨⟨(fun _ => 0, fun i => match i with | _ => f_19, fun _ => fun _ => 0, fun _ => 0), rfl, trivial, (⟨by rw [ht]; exact hP9, hD9⟩ : Wd D A _ t)⟩, hS.F ht⟩) hS.2.2 dX12_four_39
set_option maxHeartbeats 4000000 in
set_option maxRecDepth 100000 in
theorem m_four_12 (l : Launch) (D : va_G) (K : Nat → ClassId) (a0 : Nat) (x : Int32) (w0 : Value) (w1 : Value) (w2 : Value) (w3 : Value) (w4 : Value) (w5 : Value) (w6 : Value) (w7 : Value) (w8 : Value) (w9 : Value) (w10 : Value) (w11 : Value) (a1 : Nat) (w14 : Value) (w15 : Value) (w16 : Value) (w17 : Value) (w18 : Value) (w19 : Value) (w20 : Value) (w21 : Value) (w22 : Value) (w23 : Value) (w24 : Value) (w25 : Value) (w26 : Value) (w27 : Value) (w28 : Value) (w29 : Value) (w30 : Value) (w31 : Value) (w32 : Value) (w33 : Value) (w34 : Value) (w35 : Value) (w36 : Value) (w37 : Value) (w38 : Value) (w39 : Value) (w40 : Value) (w41 : Value) (w42 : Value) (w43 : Value) (w44 : Value) (w45 : Value) (w46 : Value) (w47 : Value) (w48 : Value) (w49 : Value) (w50 : Value) (w51 : Value) (w52 : Value) (w53 : Value) (w54 : Value) (w55 : Value) (w56 : Value) (w57 : Value) (w58 : Value) (w59 : Value) (f : Nat → Int32) (sz : Nat) : Met l yX12_four wsX12_four ({ frames := 0, cells := 0, slots := 0, locals := 0 }) (va_Pc [.ref a0, .int x] (Pre D K [(a0, .inr (12, [w0, w1, w2, w3, w4, w5, w6, w7, w8, w9, w10, w11, .ref a1, .int 12, w14, w15, w16, w17, w18, w19, w20, w21, w22, w23, w24, w25, w26, w27, w28, w29, w30, w31, w32, w33, w34, w35, w36, w37, w38, w39, w40, w41, w42, w43, w44, w45, w46, w47, w48, w49, w50, w51, w52, w53, w54, w55, w56, w57, w58, w59])), (a1, .inl (K 0, 400, .inl f))] sz)) (va_Qv (S := (Nat → Nat) × (Nat → Nat → Int32) × (Nat → Nat → Int64) × (Nat → Int32)) (fun _ => True) (fun u t => Wd D (va_A [(a0, .inr (12, [w0, w1, w2, w3, w4, w5, w6, w7, w8, w9, w10, w11, .ref a1, .int 12, w14, w15, w16, w17, w18, w19, w20, w21, w22, w23, w24, w25, w26, w27, w28, w29, w30, w31, w32, w33, w34, w35, w36, w37, w38, w39, w40, w41, w42, w43, w44, w45, w46, w47, w48, w49, w50, w51, w52, w53, w54, w55, w56, w57, w58, w59])), (a1, .inl (K 0, 400, .inl f))] sz) ((fun u => [(a0, .inr (12, [w0, w1, w2, w3, w4, w5, w6, w7, w8, w9, w10, w11, .ref a1, .int 16, w14, w15, w16, w17, w18, w19, w20, w21, w22, w23, w24, w25, w26, w27, w28, w29, w30, w31, w32, w33, w34, w35, w36, w37, w38, w39, w40, w41, w42, w43, w44, w45, w46, w47, w48, w49, w50, w51, w52, w53, w54, w55, w56, w57, w58, w59])), (a1, .inl (K 0, 400, .inl ((u.2.1 0))))]) u) t) (va_A [(a0, .inr (12, [w0, w1, w2, w3, w4, w5, w6, w7, w8, w9, w10, w11, .ref a1, .int 12, w14, w15, w16, w17, w18, w19, w20, w21, w22, w23, w24, w25, w26, w27, w28, w29, w30, w31, w32, w33, w34, w35, w36, w37, w38, w39, w40, w41, w42, w43, w44, w45, w46, w47, w48, w49, w50, w51, w52, w53, w54, w55, w56, w57, w58, w59])), (a1, .inl (K 0, 400, .inl f))] sz)) 0 0 (va_A [(a0, .inr (12, [w0, w1, w2, w3, w4, w5, w6, w7, w8, w9, w10, w11, .ref a1, .int 12, w14, w15, w16, w17, w18, w19, w20, w21, w22, w23, w24, w25, w26, w27, w28, w29, w30, w31, w32, w33, w34, w35, w36, w37, w38, w39, w40, w41, w42, w43, w44, w45, w46, w47, w48, w49, w50, w51, w52, w53, w54, w55, w56, w57, w58, w59])), (a1, .inl (K 0, 400, .inl f))] sz) := by
  refine Met.ofW (cc := cX12_four) (maxL := 3) (ret := none) (by decide) rfl ?_
  intro p e s m args below meth c s₁ B hml hv
  obtain ⟨rfl, hsz, hP, hK, hD0, hN⟩ := hv
  have hx := B.exec
  have hb := B.bytes
  have hr := B.returns
  have hts := atoms_spec (ws := wsX12_four) B.pre
  have hown : s.vm.findClass RX12 = some m.cls := findClass_of_methodNamed B.named
  have hlocks := B.notSynchronized
  subst hsz
  have hD := hD0.self (sz := s.heap.size)
  generalize hAe : va_A [(a0, .inr (12, [w0, w1, w2, w3, w4, w5, w6, w7, w8, w9, w10, w11, .ref a1, .int 12, w14, w15, w16, w17, w18, w19, w20, w21, w22, w23, w24, w25, w26, w27, w28, w29, w30, w31, w32, w33, w34, w35, w36, w37, w38, w39, w40, w41, w42, w43, w44, w45, w46, w47, w48, w49, w50, w51, w52, w53, w54, w55, w56, w57, w58, w59])), (a1, .inl (K 0, 400, .inl f))] s.heap.size = A at hD ⊢
  have hA : ∀ q : Nat, s.heap.size ≤ q → A q := fun q h => by rw [← hAe]; exact Or.inr h
  have hS : va_S A s.heap s.heap [] := va_S.rf
  have hP : va_P D vwCl [(a0, .inr (12, [w0, w1, w2, w3, w4, w5, w6, w7, w8, w9, w10, w11, .ref a1, .int 12, w14, w15, w16, w17, w18, w19, w20, w21, w22, w23, w24, w25, w26, w27, w28, w29, w30, w31, w32, w33, w34, w35, w36, w37, w38, w39, w40, w41, w42, w43, w44, w45, w46, w47, w48, w49, w50, w51, w52, w53, w54, w55, w56, w57, w58, w59])), (a1, .inl (K 0, 400, .inl f))] s.heap := hP
  have hl := lv_entry [.ref a0, .int x] (n := 3) (Nat.le_of_ble_eq_true rfl)
  rw [lg_entry_eq]
  generalize (lg_sl [.ref a0, .int x] ++ List.replicate (3 - (lg_sl [.ref a0, .int x]).length) Slot.unset).toArray = ls at hl ⊢
  have hl : lv_has ls 3 [(0, .ref a0), (1, .int x)] := hl
  have hw12 : ∀ w ∈ wsX120, w ∈ wsX12_four := fun w h => (List.mem_cons_of_mem _ (List.mem_append_right _ h))
  refine lv_bipush (v := 24) hx hb dX12_four_0 (by decide) ?_
  refine lv_istore_n (lv' := [(2, .int 24), (0, .ref a0), (1, .int x)]) hx hb dX12_four_2 rfl hl (by decide) rfl (fun ls hl => ?_)
  refine lv_iload_n hx hb dX12_four_3 rfl (lv_at hl 0 rfl) ?_
  refine lv_if_lt (tgt := 39) hx hb dX12_four_4 (by decide) (fun c_1 => absurd c_1 (by decide)) (fun c_1 => ?_)
  refine lv_aload_n hx hb dX12_four_7 rfl (lv_at hl 1 rfl) ?_
  refine va_get (ci := 12) (v := .ref a1) (C := RX12) (T := TX12) (N := 60) hx hb hts hw12 hown hK hP 0 rfl rfl 12 (by decide) (hts (.fieldLink RX12 35 "SmokeTuneModel" "tape" "[I") (List.mem_cons_of_mem _ (List.mem_append_left _ (List.mem_of_getElem? (i := 0) rfl)))) (fun _ h9 => h9) rfl dX12_four_8 ?_
  refine lv_aload_n hx hb dX12_four_11 rfl (lv_at hl 1 rfl) ?_
  refine va_get (ci := 12) (v := .int 12) (C := RX12) (T := TX12) (N := 60) hx hb hts hw12 hown hK hP 0 rfl rfl 13 (by decide) (hts (.fieldLink RX12 227 "SmokeTuneModel" "taped" "I") (List.mem_cons_of_mem _ (List.mem_append_left _ (List.mem_of_getElem? (i := 1) rfl)))) (fun _ h9 => h9) rfl dX12_four_12 ?_
  refine lv_iload_n hx hb dX12_four_15 rfl (lv_at hl 2 rfl) ?_
  refine lv_iload_n hx hb dX12_four_16 rfl (lv_at hl 0 rfl) ?_
  refine lv_ishr hx hb dX12_four_17 ?_
  refine lv_topi (fun x_2 ex_2 => ?_)
  refine lv_sipush (v := 255) hx hb dX12_four_18 (by decide) ?_
  refine lv_iand hx hb dX12_four_21 ?_
  refine lv_topi (fun x_3 ex_3 => ?_)
  refine va_iast hx hb hK hP hD hS 1 0 rfl rfl (i_in (x := 12) rfl (by omega)) dX12_four_22 (fun H locs hP hD hS => ?_)
  generalize hf_4 : (upd f (12 : Int32).toNatClampNeg x_3) = f_4 at hP hD
  have hP : va_P D vwCl [(a0, .inr (12, [w0, w1, w2, w3, w4, w5, w6, w7, w8, w9, w10, w11, .ref a1, .int 12, w14, w15, w16, w17, w18, w19, w20, w21, w22, w23, w24, w25, w26, w27, w28, w29, w30, w31, w32, w33, w34, w35, w36, w37, w38, w39, w40, w41, w42, w43, w44, w45, w46, w47, w48, w49, w50, w51, w52, w53, w54, w55, w56, w57, w58, w59])), (a1, .inl (K 0, 400, .inl f_4))] H := hP
  have hD : va_D A [(a0, .inr (12, [w0, w1, w2, w3, w4, w5, w6, w7, w8, w9, w10, w11, .ref a1, .int 12, w14, w15, w16, w17, w18, w19, w20, w21, w22, w23, w24, w25, w26, w27, w28, w29, w30, w31, w32, w33, w34, w35, w36, w37, w38, w39, w40, w41, w42, w43, w44, w45, w46, w47, w48, w49, w50, w51, w52, w53, w54, w55, w56, w57, w58, w59])), (a1, .inl (K 0, 400, .inl f_4))] := hD
  refine lv_aload_n hx hb dX12_four_23 rfl (lv_at hl 1 rfl) ?_
  refine lv_dup hx hb dX12_four_24 rfl ?_
  refine va_get (ci := 12) (v := .int 12) (C := RX12) (T := TX12) (N := 60) hx hb hts hw12 hown hK hP 0 rfl rfl 13 (by decide) (hts (.fieldLink RX12 227 "SmokeTuneModel" "taped" "I") (List.mem_cons_of_mem _ (List.mem_append_left _ (List.mem_of_getElem? (i := 1) rfl)))) (fun _ h9 => h9) rfl dX12_four_25 ?_
  refine lv_iconst (v := 1) hx hb dX12_four_28 (by decide) ?_
  refine lv_iadd hx hb dX12_four_29 ?_
  refine lv_topi (fun x_5 ex_5 => ?_)
  obtain rfl : x_5 = 13 := ex_5.trans (by first | rfl | decide)
  refine va_put (ci := 12) (v := .int 13) (ty := .int) (C := RX12) (T := TX12) (N := 60) hx hb hts hw12 tyX12 tyX12_ok nmX12 hown hK hP hD hS 0 rfl rfl 13 (by decide) (hts (.fieldLink RX12 227 "SmokeTuneModel" "taped" "I") (List.mem_cons_of_mem _ (List.mem_append_left _ (List.mem_of_getElem? (i := 1) rfl)))) (fun _ h9 => h9) rfl (by decide +kernel) (by first | rfl | decide) (by first | rfl | decide) (Nat.le_of_ble_eq_true rfl) dX12_four_30 (fun H locs hP hD hS => ?_)
  have hP : va_P D vwCl [(a0, .inr (12, [w0, w1, w2, w3, w4, w5, w6, w7, w8, w9, w10, w11, .ref a1, .int 13, w14, w15, w16, w17, w18, w19, w20, w21, w22, w23, w24, w25, w26, w27, w28, w29, w30, w31, w32, w33, w34, w35, w36, w37, w38, w39, w40, w41, w42, w43, w44, w45, w46, w47, w48, w49, w50, w51, w52, w53, w54, w55, w56, w57, w58, w59])), (a1, .inl (K 0, 400, .inl f_4))] H := hP
  have hD : va_D A [(a0, .inr (12, [w0, w1, w2, w3, w4, w5, w6, w7, w8, w9, w10, w11, .ref a1, .int 13, w14, w15, w16, w17, w18, w19, w20, w21, w22, w23, w24, w25, w26, w27, w28, w29, w30, w31, w32, w33, w34, w35, w36, w37, w38, w39, w40, w41, w42, w43, w44, w45, w46, w47, w48, w49, w50, w51, w52, w53, w54, w55, w56, w57, w58, w59])), (a1, .inl (K 0, 400, .inl f_4))] := hD
  refine lv_iinc (v := 16) (lv' := [(2, .int 16), (0, .ref a0), (1, .int x)]) hx hb dX12_four_33 hl (k := 0) rfl (by decide) (by decide) rfl (fun ls hl => ?_)
  refine lv_goto (tgt := 3) hx hb dX12_four_36 (by decide) ?_
  refine lv_iload_n hx hb dX12_four_3 rfl (lv_at hl 0 rfl) ?_
  refine lv_if_lt (tgt := 39) hx hb dX12_four_4 (by decide) (fun c_6 => absurd c_6 (by decide)) (fun c_6 => ?_)
  refine lv_aload_n hx hb dX12_four_7 rfl (lv_at hl 1 rfl) ?_
  refine va_get (ci := 12) (v := .ref a1) (C := RX12) (T := TX12) (N := 60) hx hb hts hw12 hown hK hP 0 rfl rfl 12 (by decide) (hts (.fieldLink RX12 35 "SmokeTuneModel" "tape" "[I") (List.mem_cons_of_mem _ (List.mem_append_left _ (List.mem_of_getElem? (i := 0) rfl)))) (fun _ h9 => h9) rfl dX12_four_8 ?_
  refine lv_aload_n hx hb dX12_four_11 rfl (lv_at hl 1 rfl) ?_
  refine va_get (ci := 12) (v := .int 13) (C := RX12) (T := TX12) (N := 60) hx hb hts hw12 hown hK hP 0 rfl rfl 13 (by decide) (hts (.fieldLink RX12 227 "SmokeTuneModel" "taped" "I") (List.mem_cons_of_mem _ (List.mem_append_left _ (List.mem_of_getElem? (i := 1) rfl)))) (fun _ h9 => h9) rfl dX12_four_12 ?_
  refine lv_iload_n hx hb dX12_four_15 rfl (lv_at hl 2 rfl) ?_
  refine lv_iload_n hx hb dX12_four_16 rfl (lv_at hl 0 rfl) ?_
  refine lv_ishr hx hb dX12_four_17 ?_
  refine lv_topi (fun x_7 ex_7 => ?_)
  refine lv_sipush (v := 255) hx hb dX12_four_18 (by decide) ?_
  refine lv_iand hx hb dX12_four_21 ?_
  refine lv_topi (fun x_8 ex_8 => ?_)
  refine va_iast hx hb hK hP hD hS 1 0 rfl rfl (i_in (x := 13) rfl (by omega)) dX12_four_22 (fun H locs hP hD hS => ?_)
  generalize hf_9 : (upd f_4 (13 : Int32).toNatClampNeg x_8) = f_9 at hP hD
  have hP : va_P D vwCl [(a0, .inr (12, [w0, w1, w2, w3, w4, w5, w6, w7, w8, w9, w10, w11, .ref a1, .int 13, w14, w15, w16, w17, w18, w19, w20, w21, w22, w23, w24, w25, w26, w27, w28, w29, w30, w31, w32, w33, w34, w35, w36, w37, w38, w39, w40, w41, w42, w43, w44, w45, w46, w47, w48, w49, w50, w51, w52, w53, w54, w55, w56, w57, w58, w59])), (a1, .inl (K 0, 400, .inl f_9))] H := hP
  have hD : va_D A [(a0, .inr (12, [w0, w1, w2, w3, w4, w5, w6, w7, w8, w9, w10, w11, .ref a1, .int 13, w14, w15, w16, w17, w18, w19, w20, w21, w22, w23, w24, w25, w26, w27, w28, w29, w30, w31, w32, w33, w34, w35, w36, w37, w38, w39, w40, w41, w42, w43, w44, w45, w46, w47, w48, w49, w50, w51, w52, w53, w54, w55, w56, w57, w58, w59])), (a1, .inl (K 0, 400, .inl f_9))] := hD
  refine lv_aload_n hx hb dX12_four_23 rfl (lv_at hl 1 rfl) ?_
  refine lv_dup hx hb dX12_four_24 rfl ?_
  refine va_get (ci := 12) (v := .int 13) (C := RX12) (T := TX12) (N := 60) hx hb hts hw12 hown hK hP 0 rfl rfl 13 (by decide) (hts (.fieldLink RX12 227 "SmokeTuneModel" "taped" "I") (List.mem_cons_of_mem _ (List.mem_append_left _ (List.mem_of_getElem? (i := 1) rfl)))) (fun _ h9 => h9) rfl dX12_four_25 ?_
  refine lv_iconst (v := 1) hx hb dX12_four_28 (by decide) ?_
  refine lv_iadd hx hb dX12_four_29 ?_
  refine lv_topi (fun x_10 ex_10 => ?_)
  obtain rfl : x_10 = 14 := ex_10.trans (by first | rfl | decide)
  refine va_put (ci := 12) (v := .int 14) (ty := .int) (C := RX12) (T := TX12) (N := 60) hx hb hts hw12 tyX12 tyX12_ok nmX12 hown hK hP hD hS 0 rfl rfl 13 (by decide) (hts (.fieldLink RX12 227 "SmokeTuneModel" "taped" "I") (List.mem_cons_of_mem _ (List.mem_append_left _ (List.mem_of_getElem? (i := 1) rfl)))) (fun _ h9 => h9) rfl (by decide +kernel) (by first | rfl | decide) (by first | rfl | decide) (Nat.le_of_ble_eq_true rfl) dX12_four_30 (fun H locs hP hD hS => ?_)
  have hP : va_P D vwCl [(a0, .inr (12, [w0, w1, w2, w3, w4, w5, w6, w7, w8, w9, w10, w11, .ref a1, .int 14, w14, w15, w16, w17, w18, w19, w20, w21, w22, w23, w24, w25, w26, w27, w28, w29, w30, w31, w32, w33, w34, w35, w36, w37, w38, w39, w40, w41, w42, w43, w44, w45, w46, w47, w48, w49, w50, w51, w52, w53, w54, w55, w56, w57, w58, w59])), (a1, .inl (K 0, 400, .inl f_9))] H := hP
  have hD : va_D A [(a0, .inr (12, [w0, w1, w2, w3, w4, w5, w6, w7, w8, w9, w10, w11, .ref a1, .int 14, w14, w15, w16, w17, w18, w19, w20, w21, w22, w23, w24, w25, w26, w27, w28, w29, w30, w31, w32, w33, w34, w35, w36, w37, w38, w39, w40, w41, w42, w43, w44, w45, w46, w47, w48, w49, w50, w51, w52, w53, w54, w55, w56, w57, w58, w59])), (a1, .inl (K 0, 400, .inl f_9))] := hD
  refine lv_iinc (v := 8) (lv' := [(2, .int 8), (0, .ref a0), (1, .int x)]) hx hb dX12_four_33 hl (k := 0) rfl (by decide) (by decide) rfl (fun ls hl => ?_)
  refine lv_goto (tgt := 3) hx hb dX12_four_36 (by decide) ?_
  refine lv_iload_n hx hb dX12_four_3 rfl (lv_at hl 0 rfl) ?_
  refine lv_if_lt (tgt := 39) hx hb dX12_four_4 (by decide) (fun c_11 => absurd c_11 (by decide)) (fun c_11 => ?_)
  refine lv_aload_n hx hb dX12_four_7 rfl (lv_at hl 1 rfl) ?_
  refine va_get (ci := 12) (v := .ref a1) (C := RX12) (T := TX12) (N := 60) hx hb hts hw12 hown hK hP 0 rfl rfl 12 (by decide) (hts (.fieldLink RX12 35 "SmokeTuneModel" "tape" "[I") (List.mem_cons_of_mem _ (List.mem_append_left _ (List.mem_of_getElem? (i := 0) rfl)))) (fun _ h9 => h9) rfl dX12_four_8 ?_
  refine lv_aload_n hx hb dX12_four_11 rfl (lv_at hl 1 rfl) ?_
  refine va_get (ci := 12) (v := .int 14) (C := RX12) (T := TX12) (N := 60) hx hb hts hw12 hown hK hP 0 rfl rfl 13 (by decide) (hts (.fieldLink RX12 227 "SmokeTuneModel" "taped" "I") (List.mem_cons_of_mem _ (List.mem_append_left _ (List.mem_of_getElem? (i := 1) rfl)))) (fun _ h9 => h9) rfl dX12_four_12 ?_
  refine lv_iload_n hx hb dX12_four_15 rfl (lv_at hl 2 rfl) ?_
  refine lv_iload_n hx hb dX12_four_16 rfl (lv_at hl 0 rfl) ?_
  refine lv_ishr hx hb dX12_four_17 ?_
  refine lv_topi (fun x_12 ex_12 => ?_)
  refine lv_sipush (v := 255) hx hb dX12_four_18 (by decide) ?_
  refine lv_iand hx hb dX12_four_21 ?_
  refine lv_topi (fun x_13 ex_13 => ?_)
  refine va_iast hx hb hK hP hD hS 1 0 rfl rfl (i_in (x := 14) rfl (by omega)) dX12_four_22 (fun H locs hP hD hS => ?_)
  generalize hf_14 : (upd f_9 (14 : Int32).toNatClampNeg x_13) = f_14 at hP hD
  have hP : va_P D vwCl [(a0, .inr (12, [w0, w1, w2, w3, w4, w5, w6, w7, w8, w9, w10, w11, .ref a1, .int 14, w14, w15, w16, w17, w18, w19, w20, w21, w22, w23, w24, w25, w26, w27, w28, w29, w30, w31, w32, w33, w34, w35, w36, w37, w38, w39, w40, w41, w42, w43, w44, w45, w46, w47, w48, w49, w50, w51, w52, w53, w54, w55, w56, w57, w58, w59])), (a1, .inl (K 0, 400, .inl f_14))] H := hP
  have hD : va_D A [(a0, .inr (12, [w0, w1, w2, w3, w4, w5, w6, w7, w8, w9, w10, w11, .ref a1, .int 14, w14, w15, w16, w17, w18, w19, w20, w21, w22, w23, w24, w25, w26, w27, w28, w29, w30, w31, w32, w33, w34, w35, w36, w37, w38, w39, w40, w41, w42, w43, w44, w45, w46, w47, w48, w49, w50, w51, w52, w53, w54, w55, w56, w57, w58, w59])), (a1, .inl (K 0, 400, .inl f_14))] := hD
  refine lv_aload_n hx hb dX12_four_23 rfl (lv_at hl 1 rfl) ?_
  refine lv_dup hx hb dX12_four_24 rfl ?_
  refine va_get (ci := 12) (v := .int 14) (C := RX12) (T := TX12) (N := 60) hx hb hts hw12 hown hK hP 0 rfl rfl 13 (by decide) (hts (.fieldLink RX12 227 "SmokeTuneModel" "taped" "I") (List.mem_cons_of_mem _ (List.mem_append_left _ (List.mem_of_getElem? (i := 1) rfl)))) (fun _ h9 => h9) rfl dX12_four_25 ?_
  refine lv_iconst (v := 1) hx hb dX12_four_28 (by decide) ?_
  refine lv_iadd hx hb dX12_four_29 ?_
  refine lv_topi (fun x_15 ex_15 => ?_)
  obtain rfl : x_15 = 15 := ex_15.trans (by first | rfl | decide)
  refine va_put (ci := 12) (v := .int 15) (ty := .int) (C := RX12) (T := TX12) (N := 60) hx hb hts hw12 tyX12 tyX12_ok nmX12 hown hK hP hD hS 0 rfl rfl 13 (by decide) (hts (.fieldLink RX12 227 "SmokeTuneModel" "taped" "I") (List.mem_cons_of_mem _ (List.mem_append_left _ (List.mem_of_getElem? (i := 1) rfl)))) (fun _ h9 => h9) rfl (by decide +kernel) (by first | rfl | decide) (by first | rfl | decide) (Nat.le_of_ble_eq_true rfl) dX12_four_30 (fun H locs hP hD hS => ?_)
  have hP : va_P D vwCl [(a0, .inr (12, [w0, w1, w2, w3, w4, w5, w6, w7, w8, w9, w10, w11, .ref a1, .int 15, w14, w15, w16, w17, w18, w19, w20, w21, w22, w23, w24, w25, w26, w27, w28, w29, w30, w31, w32, w33, w34, w35, w36, w37, w38, w39, w40, w41, w42, w43, w44, w45, w46, w47, w48, w49, w50, w51, w52, w53, w54, w55, w56, w57, w58, w59])), (a1, .inl (K 0, 400, .inl f_14))] H := hP
  have hD : va_D A [(a0, .inr (12, [w0, w1, w2, w3, w4, w5, w6, w7, w8, w9, w10, w11, .ref a1, .int 15, w14, w15, w16, w17, w18, w19, w20, w21, w22, w23, w24, w25, w26, w27, w28, w29, w30, w31, w32, w33, w34, w35, w36, w37, w38, w39, w40, w41, w42, w43, w44, w45, w46, w47, w48, w49, w50, w51, w52, w53, w54, w55, w56, w57, w58, w59])), (a1, .inl (K 0, 400, .inl f_14))] := hD
  refine lv_iinc (v := 0) (lv' := [(2, .int 0), (0, .ref a0), (1, .int x)]) hx hb dX12_four_33 hl (k := 0) rfl (by decide) (by decide) rfl (fun ls hl => ?_)
  refine lv_goto (tgt := 3) hx hb dX12_four_36 (by decide) ?_
  refine lv_iload_n hx hb dX12_four_3 rfl (lv_at hl 0 rfl) ?_
  refine lv_if_lt (tgt := 39) hx hb dX12_four_4 (by decide) (fun c_16 => absurd c_16 (by decide)) (fun c_16 => ?_)
  refine lv_aload_n hx hb dX12_four_7 rfl (lv_at hl 1 rfl) ?_
  refine va_get (ci := 12) (v := .ref a1) (C := RX12) (T := TX12) (N := 60) hx hb hts hw12 hown hK hP 0 rfl rfl 12 (by decide) (hts (.fieldLink RX12 35 "SmokeTuneModel" "tape" "[I") (List.mem_cons_of_mem _ (List.mem_append_left _ (List.mem_of_getElem? (i := 0) rfl)))) (fun _ h9 => h9) rfl dX12_four_8 ?_
  refine lv_aload_n hx hb dX12_four_11 rfl (lv_at hl 1 rfl) ?_
  refine va_get (ci := 12) (v := .int 15) (C := RX12) (T := TX12) (N := 60) hx hb hts hw12 hown hK hP 0 rfl rfl 13 (by decide) (hts (.fieldLink RX12 227 "SmokeTuneModel" "taped" "I") (List.mem_cons_of_mem _ (List.mem_append_left _ (List.mem_of_getElem? (i := 1) rfl)))) (fun _ h9 => h9) rfl dX12_four_12 ?_
  refine lv_iload_n hx hb dX12_four_15 rfl (lv_at hl 2 rfl) ?_
  refine lv_iload_n hx hb dX12_four_16 rfl (lv_at hl 0 rfl) ?_
  refine lv_ishr hx hb dX12_four_17 ?_
  refine lv_topi (fun x_17 ex_17 => ?_)
  refine lv_sipush (v := 255) hx hb dX12_four_18 (by decide) ?_
  refine lv_iand hx hb dX12_four_21 ?_
  refine lv_topi (fun x_18 ex_18 => ?_)
  refine va_iast hx hb hK hP hD hS 1 0 rfl rfl (i_in (x := 15) rfl (by omega)) dX12_four_22 (fun H locs hP hD hS => ?_)
  generalize hf_19 : (upd f_14 (15 : Int32).toNatClampNeg x_18) = f_19 at hP hD
  have hP : va_P D vwCl [(a0, .inr (12, [w0, w1, w2, w3, w4, w5, w6, w7, w8, w9, w10, w11, .ref a1, .int 15, w14, w15, w16, w17, w18, w19, w20, w21, w22, w23, w24, w25, w26, w27, w28, w29, w30, w31, w32, w33, w34, w35, w36, w37, w38, w39, w40, w41, w42, w43, w44, w45, w46, w47, w48, w49, w50, w51, w52, w53, w54, w55, w56, w57, w58, w59])), (a1, .inl (K 0, 400, .inl f_19))] H := hP
  have hD : va_D A [(a0, .inr (12, [w0, w1, w2, w3, w4, w5, w6, w7, w8, w9, w10, w11, .ref a1, .int 15, w14, w15, w16, w17, w18, w19, w20, w21, w22, w23, w24, w25, w26, w27, w28, w29, w30, w31, w32, w33, w34, w35, w36, w37, w38, w39, w40, w41, w42, w43, w44, w45, w46, w47, w48, w49, w50, w51, w52, w53, w54, w55, w56, w57, w58, w59])), (a1, .inl (K 0, 400, .inl f_19))] := hD
  refine lv_aload_n hx hb dX12_four_23 rfl (lv_at hl 1 rfl) ?_
  refine lv_dup hx hb dX12_four_24 rfl ?_
  refine va_get (ci := 12) (v := .int 15) (C := RX12) (T := TX12) (N := 60) hx hb hts hw12 hown hK hP 0 rfl rfl 13 (by decide) (hts (.fieldLink RX12 227 "SmokeTuneModel" "taped" "I") (List.mem_cons_of_mem _ (List.mem_append_left _ (List.mem_of_getElem? (i := 1) rfl)))) (fun _ h9 => h9) rfl dX12_four_25 ?_
  refine lv_iconst (v := 1) hx hb dX12_four_28 (by decide) ?_
  refine lv_iadd hx hb dX12_four_29 ?_
  refine lv_topi (fun x_20 ex_20 => ?_)
  obtain rfl : x_20 = 16 := ex_20.trans (by first | rfl | decide)
  refine va_put (ci := 12) (v := .int 16) (ty := .int) (C := RX12) (T := TX12) (N := 60) hx hb hts hw12 tyX12 tyX12_ok nmX12 hown hK hP hD hS 0 rfl rfl 13 (by decide) (hts (.fieldLink RX12 227 "SmokeTuneModel" "taped" "I") (List.mem_cons_of_mem _ (List.mem_append_left _ (List.mem_of_getElem? (i := 1) rfl)))) (fun _ h9 => h9) rfl (by decide +kernel) (by first | rfl | decide) (by first | rfl | decide) (Nat.le_of_ble_eq_true rfl) dX12_four_30 (fun H locs hP hD hS => ?_)
  have hP : va_P D vwCl [(a0, .inr (12, [w0, w1, w2, w3, w4, w5, w6, w7, w8, w9, w10, w11, .ref a1, .int 16, w14, w15, w16, w17, w18, w19, w20, w21, w22, w23, w24, w25, w26, w27, w28, w29, w30, w31, w32, w33, w34, w35, w36, w37, w38, w39, w40, w41, w42, w43, w44, w45, w46, w47, w48, w49, w50, w51, w52, w53, w54, w55, w56, w57, w58, w59])), (a1, .inl (K 0, 400, .inl f_19))] H := hP
  have hD : va_D A [(a0, .inr (12, [w0, w1, w2, w3, w4, w5, w6, w7, w8, w9, w10, w11, .ref a1, .int 16, w14, w15, w16, w17, w18, w19, w20, w21, w22, w23, w24, w25, w26, w27, w28, w29, w30, w31, w32, w33, w34, w35, w36, w37, w38, w39, w40, w41, w42, w43, w44, w45, w46, w47, w48, w49, w50, w51, w52, w53, w54, w55, w56, w57, w58, w59])), (a1, .inl (K 0, 400, .inl f_19))] := hD
  refine lv_iinc (v := (-8)) (lv' := [(2, .int (-8)), (0, .ref a0), (1, .int x)]) hx hb dX12_four_33 hl (k := 0) rfl (by decide) (by decide) rfl (fun ls hl => ?_)
  refine lv_goto (tgt := 3) hx hb dX12_four_36 (by decide) ?_
  refine lv_iload_n hx hb dX12_four_3 rfl (lv_at hl 0 rfl) ?_
  refine lv_if_lt (tgt := 39) hx hb dX12_four_4 (by decide) (fun c_21 => ?_) (fun c_21 => absurd (by decide) c_21)
  have hP9 := hP.sub (ws' := [(a0, .inr (12, [w0, w1, w2, w3, w4, w5, w6, w7, w8, w9, w10, w11, .ref a1, .int 16, w14, w15, w16, w17, w18, w19, w20, w21, w22, w23, w24, w25, w26, w27, w28, w29, w30, w31, w32, w33, w34, w35, w36, w37, w38, w39, w40, w41, w42, w43, w44, w45, w46, w47, w48, w49, w50, w51, w52, w53, w54, w55, w56, w57, w58, w59])), (a1, .inl (K 0, 400, .inl f_19))]) [0, 1] rfl
  have hD9 := hD.sub (ws' := [(a0, .inr (12, [w0, w1, w2, w3, w4, w5, w6, w7, w8, w9, w10, w11, .ref a1, .int 16, w14, w15, w16, w17, w18, w19, w20, w21, w22, w23, w24, w25, w26, w27, w28, w29, w30, w31, w32, w33, w34, w35, w36, w37, w38, w39, w40, w41, w42, w43, w44, w45, w46, w47, w48, w49, w50, w51, w52, w53, w54, w55, w56, w57, w58, w59])), (a1, .inl (K 0, 400, .inl f_19))]) [0, 1] (by decide) rfl
  exact W.vret hx hb hr (fun t ht hW => ⟨⟨(fun _ => 0, fun i => match i with | _ => f_19, fun _ => fun _ => 0, fun _ => 0), rfl, trivial, (⟨by rw [ht]; exact hP9, hD9⟩ : Wd D A _ t)⟩, hS.F ht⟩) hS.2.2 dX12_four_39
set_option maxHeartbeats 4000000 in
set_option maxRecDepth 100000 in
theorem m_four_16 (l : Launch) (D : va_G) (K : Nat → ClassId) (a0 : Nat) (x : Int32) (w0 : Value) (w1 : Value) (w2 : Value) (w3 : Value) (w4 : Value) (w5 : Value) (w6 : Value) (w7 : Value) (w8 : Value) (w9 : Value) (w10 : Value) (w11 : Value) (a1 : Nat) (w14 : Value) (w15 : Value) (w16 : Value) (w17 : Value) (w18 : Value) (w19 : Value) (w20 : Value) (w21 : Value) (w22 : Value) (w23 : Value) (w24 : Value) (w25 : Value) (w26 : Value) (w27 : Value) (w28 : Value) (w29 : Value) (w30 : Value) (w31 : Value) (w32 : Value) (w33 : Value) (w34 : Value) (w35 : Value) (w36 : Value) (w37 : Value) (w38 : Value) (w39 : Value) (w40 : Value) (w41 : Value) (w42 : Value) (w43 : Value) (w44 : Value) (w45 : Value) (w46 : Value) (w47 : Value) (w48 : Value) (w49 : Value) (w50 : Value) (w51 : Value) (w52 : Value) (w53 : Value) (w54 : Value) (w55 : Value) (w56 : Value) (w57 : Value) (w58 : Value) (w59 : Value) (f : Nat → Int32) (sz : Nat) : Met l yX12_four wsX12_four ({ frames := 0, cells := 0, slots := 0, locals := 0 }) (va_Pc [.ref a0, .int x] (Pre D K [(a0, .inr (12, [w0, w1, w2, w3, w4, w5, w6, w7, w8, w9, w10, w11, .ref a1, .int 16, w14, w15, w16, w17, w18, w19, w20, w21, w22, w23, w24, w25, w26, w27, w28, w29, w30, w31, w32, w33, w34, w35, w36, w37, w38, w39, w40, w41, w42, w43, w44, w45, w46, w47, w48, w49, w50, w51, w52, w53, w54, w55, w56, w57, w58, w59])), (a1, .inl (K 0, 400, .inl f))] sz)) (va_Qv (S := (Nat → Nat) × (Nat → Nat → Int32) × (Nat → Nat → Int64) × (Nat → Int32)) (fun _ => True) (fun u t => Wd D (va_A [(a0, .inr (12, [w0, w1, w2, w3, w4, w5, w6, w7, w8, w9, w10, w11, .ref a1, .int 16, w14, w15, w16, w17, w18, w19, w20, w21, w22, w23, w24, w25, w26, w27, w28, w29, w30, w31, w32, w33, w34, w35, w36, w37, w38, w39, w40, w41, w42, w43, w44, w45, w46, w47, w48, w49, w50, w51, w52, w53, w54, w55, w56, w57, w58, w59])), (a1, .inl (K 0, 400, .inl f))] sz) ((fun u => [(a0, .inr (12, [w0, w1, w2, w3, w4, w5, w6, w7, w8, w9, w10, w11, .ref a1, .int 20, w14, w15, w16, w17, w18, w19, w20, w21, w22, w23, w24, w25, w26, w27, w28, w29, w30, w31, w32, w33, w34, w35, w36, w37, w38, w39, w40, w41, w42, w43, w44, w45, w46, w47, w48, w49, w50, w51, w52, w53, w54, w55, w56, w57, w58, w59])), (a1, .inl (K 0, 400, .inl ((u.2.1 0))))]) u) t) (va_A [(a0, .inr (12, [w0, w1, w2, w3, w4, w5, w6, w7, w8, w9, w10, w11, .ref a1, .int 16, w14, w15, w16, w17, w18, w19, w20, w21, w22, w23, w24, w25, w26, w27, w28, w29, w30, w31, w32, w33, w34, w35, w36, w37, w38, w39, w40, w41, w42, w43, w44, w45, w46, w47, w48, w49, w50, w51, w52, w53, w54, w55, w56, w57, w58, w59])), (a1, .inl (K 0, 400, .inl f))] sz)) 0 0 (va_A [(a0, .inr (12, [w0, w1, w2, w3, w4, w5, w6, w7, w8, w9, w10, w11, .ref a1, .int 16, w14, w15, w16, w17, w18, w19, w20, w21, w22, w23, w24, w25, w26, w27, w28, w29, w30, w31, w32, w33, w34, w35, w36, w37, w38, w39, w40, w41, w42, w43, w44, w45, w46, w47, w48, w49, w50, w51, w52, w53, w54, w55, w56, w57, w58, w59])), (a1, .inl (K 0, 400, .inl f))] sz) := by
  refine Met.ofW (cc := cX12_four) (maxL := 3) (ret := none) (by decide) rfl ?_
  intro p e s m args below meth c s₁ B hml hv
  obtain ⟨rfl, hsz, hP, hK, hD0, hN⟩ := hv
  have hx := B.exec
  have hb := B.bytes
  have hr := B.returns
  have hts := atoms_spec (ws := wsX12_four) B.pre
  have hown : s.vm.findClass RX12 = some m.cls := findClass_of_methodNamed B.named
  have hlocks := B.notSynchronized
  subst hsz
  have hD := hD0.self (sz := s.heap.size)
  generalize hAe : va_A [(a0, .inr (12, [w0, w1, w2, w3, w4, w5, w6, w7, w8, w9, w10, w11, .ref a1, .int 16, w14, w15, w16, w17, w18, w19, w20, w21, w22, w23, w24, w25, w26, w27, w28, w29, w30, w31, w32, w33, w34, w35, w36, w37, w38, w39, w40, w41, w42, w43, w44, w45, w46, w47, w48, w49, w50, w51, w52, w53, w54, w55, w56, w57, w58, w59])), (a1, .inl (K 0, 400, .inl f))] s.heap.size = A at hD ⊢
  have hA : ∀ q : Nat, s.heap.size ≤ q → A q := fun q h => by rw [← hAe]; exact Or.inr h
  have hS : va_S A s.heap s.heap [] := va_S.rf
  have hP : va_P D vwCl [(a0, .inr (12, [w0, w1, w2, w3, w4, w5, w6, w7, w8, w9, w10, w11, .ref a1, .int 16, w14, w15, w16, w17, w18, w19, w20, w21, w22, w23, w24, w25, w26, w27, w28, w29, w30, w31, w32, w33, w34, w35, w36, w37, w38, w39, w40, w41, w42, w43, w44, w45, w46, w47, w48, w49, w50, w51, w52, w53, w54, w55, w56, w57, w58, w59])), (a1, .inl (K 0, 400, .inl f))] s.heap := hP
  have hl := lv_entry [.ref a0, .int x] (n := 3) (Nat.le_of_ble_eq_true rfl)
  rw [lg_entry_eq]
  generalize (lg_sl [.ref a0, .int x] ++ List.replicate (3 - (lg_sl [.ref a0, .int x]).length) Slot.unset).toArray = ls at hl ⊢
  have hl : lv_has ls 3 [(0, .ref a0), (1, .int x)] := hl
  have hw12 : ∀ w ∈ wsX120, w ∈ wsX12_four := fun w h => (List.mem_cons_of_mem _ (List.mem_append_right _ h))
  refine lv_bipush (v := 24) hx hb dX12_four_0 (by decide) ?_
  refine lv_istore_n (lv' := [(2, .int 24), (0, .ref a0), (1, .int x)]) hx hb dX12_four_2 rfl hl (by decide) rfl (fun ls hl => ?_)
  refine lv_iload_n hx hb dX12_four_3 rfl (lv_at hl 0 rfl) ?_
  refine lv_if_lt (tgt := 39) hx hb dX12_four_4 (by decide) (fun c_1 => absurd c_1 (by decide)) (fun c_1 => ?_)
  refine lv_aload_n hx hb dX12_four_7 rfl (lv_at hl 1 rfl) ?_
  refine va_get (ci := 12) (v := .ref a1) (C := RX12) (T := TX12) (N := 60) hx hb hts hw12 hown hK hP 0 rfl rfl 12 (by decide) (hts (.fieldLink RX12 35 "SmokeTuneModel" "tape" "[I") (List.mem_cons_of_mem _ (List.mem_append_left _ (List.mem_of_getElem? (i := 0) rfl)))) (fun _ h9 => h9) rfl dX12_four_8 ?_
  refine lv_aload_n hx hb dX12_four_11 rfl (lv_at hl 1 rfl) ?_
  refine va_get (ci := 12) (v := .int 16) (C := RX12) (T := TX12) (N := 60) hx hb hts hw12 hown hK hP 0 rfl rfl 13 (by decide) (hts (.fieldLink RX12 227 "SmokeTuneModel" "taped" "I") (List.mem_cons_of_mem _ (List.mem_append_left _ (List.mem_of_getElem? (i := 1) rfl)))) (fun _ h9 => h9) rfl dX12_four_12 ?_
  refine lv_iload_n hx hb dX12_four_15 rfl (lv_at hl 2 rfl) ?_
  refine lv_iload_n hx hb dX12_four_16 rfl (lv_at hl 0 rfl) ?_
  refine lv_ishr hx hb dX12_four_17 ?_
  refine lv_topi (fun x_2 ex_2 => ?_)
  refine lv_sipush (v := 255) hx hb dX12_four_18 (by decide) ?_
  refine lv_iand hx hb dX12_four_21 ?_
  refine lv_topi (fun x_3 ex_3 => ?_)
  refine va_iast hx hb hK hP hD hS 1 0 rfl rfl (i_in (x := 16) rfl (by omega)) dX12_four_22 (fun H locs hP hD hS => ?_)
  generalize hf_4 : (upd f (16 : Int32).toNatClampNeg x_3) = f_4 at hP hD
  have hP : va_P D vwCl [(a0, .inr (12, [w0, w1, w2, w3, w4, w5, w6, w7, w8, w9, w10, w11, .ref a1, .int 16, w14, w15, w16, w17, w18, w19, w20, w21, w22, w23, w24, w25, w26, w27, w28, w29, w30, w31, w32, w33, w34, w35, w36, w37, w38, w39, w40, w41, w42, w43, w44, w45, w46, w47, w48, w49, w50, w51, w52, w53, w54, w55, w56, w57, w58, w59])), (a1, .inl (K 0, 400, .inl f_4))] H := hP
  have hD : va_D A [(a0, .inr (12, [w0, w1, w2, w3, w4, w5, w6, w7, w8, w9, w10, w11, .ref a1, .int 16, w14, w15, w16, w17, w18, w19, w20, w21, w22, w23, w24, w25, w26, w27, w28, w29, w30, w31, w32, w33, w34, w35, w36, w37, w38, w39, w40, w41, w42, w43, w44, w45, w46, w47, w48, w49, w50, w51, w52, w53, w54, w55, w56, w57, w58, w59])), (a1, .inl (K 0, 400, .inl f_4))] := hD
  refine lv_aload_n hx hb dX12_four_23 rfl (lv_at hl 1 rfl) ?_
  refine lv_dup hx hb dX12_four_24 rfl ?_
  refine va_get (ci := 12) (v := .int 16) (C := RX12) (T := TX12) (N := 60) hx hb hts hw12 hown hK hP 0 rfl rfl 13 (by decide) (hts (.fieldLink RX12 227 "SmokeTuneModel" "taped" "I") (List.mem_cons_of_mem _ (List.mem_append_left _ (List.mem_of_getElem? (i := 1) rfl)))) (fun _ h9 => h9) rfl dX12_four_25 ?_
  refine lv_iconst (v := 1) hx hb dX12_four_28 (by decide) ?_
  refine lv_iadd hx hb dX12_four_29 ?_
  refine lv_topi (fun x_5 ex_5 => ?_)
  obtain rfl : x_5 = 17 := ex_5.trans (by first | rfl | decide)
  refine va_put (ci := 12) (v := .int 17) (ty := .int) (C := RX12) (T := TX12) (N := 60) hx hb hts hw12 tyX12 tyX12_ok nmX12 hown hK hP hD hS 0 rfl rfl 13 (by decide) (hts (.fieldLink RX12 227 "SmokeTuneModel" "taped" "I") (List.mem_cons_of_mem _ (List.mem_append_left _ (List.mem_of_getElem? (i := 1) rfl)))) (fun _ h9 => h9) rfl (by decide +kernel) (by first | rfl | decide) (by first | rfl | decide) (Nat.le_of_ble_eq_true rfl) dX12_four_30 (fun H locs hP hD hS => ?_)
  have hP : va_P D vwCl [(a0, .inr (12, [w0, w1, w2, w3, w4, w5, w6, w7, w8, w9, w10, w11, .ref a1, .int 17, w14, w15, w16, w17, w18, w19, w20, w21, w22, w23, w24, w25, w26, w27, w28, w29, w30, w31, w32, w33, w34, w35, w36, w37, w38, w39, w40, w41, w42, w43, w44, w45, w46, w47, w48, w49, w50, w51, w52, w53, w54, w55, w56, w57, w58, w59])), (a1, .inl (K 0, 400, .inl f_4))] H := hP
  have hD : va_D A [(a0, .inr (12, [w0, w1, w2, w3, w4, w5, w6, w7, w8, w9, w10, w11, .ref a1, .int 17, w14, w15, w16, w17, w18, w19, w20, w21, w22, w23, w24, w25, w26, w27, w28, w29, w30, w31, w32, w33, w34, w35, w36, w37, w38, w39, w40, w41, w42, w43, w44, w45, w46, w47, w48, w49, w50, w51, w52, w53, w54, w55, w56, w57, w58, w59])), (a1, .inl (K 0, 400, .inl f_4))] := hD
  refine lv_iinc (v := 16) (lv' := [(2, .int 16), (0, .ref a0), (1, .int x)]) hx hb dX12_four_33 hl (k := 0) rfl (by decide) (by decide) rfl (fun ls hl => ?_)
  refine lv_goto (tgt := 3) hx hb dX12_four_36 (by decide) ?_
  refine lv_iload_n hx hb dX12_four_3 rfl (lv_at hl 0 rfl) ?_
  refine lv_if_lt (tgt := 39) hx hb dX12_four_4 (by decide) (fun c_6 => absurd c_6 (by decide)) (fun c_6 => ?_)
  refine lv_aload_n hx hb dX12_four_7 rfl (lv_at hl 1 rfl) ?_
  refine va_get (ci := 12) (v := .ref a1) (C := RX12) (T := TX12) (N := 60) hx hb hts hw12 hown hK hP 0 rfl rfl 12 (by decide) (hts (.fieldLink RX12 35 "SmokeTuneModel" "tape" "[I") (List.mem_cons_of_mem _ (List.mem_append_left _ (List.mem_of_getElem? (i := 0) rfl)))) (fun _ h9 => h9) rfl dX12_four_8 ?_
  refine lv_aload_n hx hb dX12_four_11 rfl (lv_at hl 1 rfl) ?_
  refine va_get (ci := 12) (v := .int 17) (C := RX12) (T := TX12) (N := 60) hx hb hts hw12 hown hK hP 0 rfl rfl 13 (by decide) (hts (.fieldLink RX12 227 "SmokeTuneModel" "taped" "I") (List.mem_cons_of_mem _ (List.mem_append_left _ (List.mem_of_getElem? (i := 1) rfl)))) (fun _ h9 => h9) rfl dX12_four_12 ?_
  refine lv_iload_n hx hb dX12_four_15 rfl (lv_at hl 2 rfl) ?_
  refine lv_iload_n hx hb dX12_four_16 rfl (lv_at hl 0 rfl) ?_
  refine lv_ishr hx hb dX12_four_17 ?_
  refine lv_topi (fun x_7 ex_7 => ?_)
  refine lv_sipush (v := 255) hx hb dX12_four_18 (by decide) ?_
  refine lv_iand hx hb dX12_four_21 ?_
  refine lv_topi (fun x_8 ex_8 => ?_)
  refine va_iast hx hb hK hP hD hS 1 0 rfl rfl (i_in (x := 17) rfl (by omega)) dX12_four_22 (fun H locs hP hD hS => ?_)
  generalize hf_9 : (upd f_4 (17 : Int32).toNatClampNeg x_8) = f_9 at hP hD
  have hP : va_P D vwCl [(a0, .inr (12, [w0, w1, w2, w3, w4, w5, w6, w7, w8, w9, w10, w11, .ref a1, .int 17, w14, w15, w16, w17, w18, w19, w20, w21, w22, w23, w24, w25, w26, w27, w28, w29, w30, w31, w32, w33, w34, w35, w36, w37, w38, w39, w40, w41, w42, w43, w44, w45, w46, w47, w48, w49, w50, w51, w52, w53, w54, w55, w56, w57, w58, w59])), (a1, .inl (K 0, 400, .inl f_9))] H := hP
  have hD : va_D A [(a0, .inr (12, [w0, w1, w2, w3, w4, w5, w6, w7, w8, w9, w10, w11, .ref a1, .int 17, w14, w15, w16, w17, w18, w19, w20, w21, w22, w23, w24, w25, w26, w27, w28, w29, w30, w31, w32, w33, w34, w35, w36, w37, w38, w39, w40, w41, w42, w43, w44, w45, w46, w47, w48, w49, w50, w51, w52, w53, w54, w55, w56, w57, w58, w59])), (a1, .inl (K 0, 400, .inl f_9))] := hD
  refine lv_aload_n hx hb dX12_four_23 rfl (lv_at hl 1 rfl) ?_
  refine lv_dup hx hb dX12_four_24 rfl ?_
  refine va_get (ci := 12) (v := .int 17) (C := RX12) (T := TX12) (N := 60) hx hb hts hw12 hown hK hP 0 rfl rfl 13 (by decide) (hts (.fieldLink RX12 227 "SmokeTuneModel" "taped" "I") (List.mem_cons_of_mem _ (List.mem_append_left _ (List.mem_of_getElem? (i := 1) rfl)))) (fun _ h9 => h9) rfl dX12_four_25 ?_
  refine lv_iconst (v := 1) hx hb dX12_four_28 (by decide) ?_
  refine lv_iadd hx hb dX12_four_29 ?_
  refine lv_topi (fun x_10 ex_10 => ?_)
  obtain rfl : x_10 = 18 := ex_10.trans (by first | rfl | decide)
  refine va_put (ci := 12) (v := .int 18) (ty := .int) (C := RX12) (T := TX12) (N := 60) hx hb hts hw12 tyX12 tyX12_ok nmX12 hown hK hP hD hS 0 rfl rfl 13 (by decide) (hts (.fieldLink RX12 227 "SmokeTuneModel" "taped" "I") (List.mem_cons_of_mem _ (List.mem_append_left _ (List.mem_of_getElem? (i := 1) rfl)))) (fun _ h9 => h9) rfl (by decide +kernel) (by first | rfl | decide) (by first | rfl | decide) (Nat.le_of_ble_eq_true rfl) dX12_four_30 (fun H locs hP hD hS => ?_)
  have hP : va_P D vwCl [(a0, .inr (12, [w0, w1, w2, w3, w4, w5, w6, w7, w8, w9, w10, w11, .ref a1, .int 18, w14, w15, w16, w17, w18, w19, w20, w21, w22, w23, w24, w25, w26, w27, w28, w29, w30, w31, w32, w33, w34, w35, w36, w37, w38, w39, w40, w41, w42, w43, w44, w45, w46, w47, w48, w49, w50, w51, w52, w53, w54, w55, w56, w57, w58, w59])), (a1, .inl (K 0, 400, .inl f_9))] H := hP
  have hD : va_D A [(a0, .inr (12, [w0, w1, w2, w3, w4, w5, w6, w7, w8, w9, w10, w11, .ref a1, .int 18, w14, w15, w16, w17, w18, w19, w20, w21, w22, w23, w24, w25, w26, w27, w28, w29, w30, w31, w32, w33, w34, w35, w36, w37, w38, w39, w40, w41, w42, w43, w44, w45, w46, w47, w48, w49, w50, w51, w52, w53, w54, w55, w56, w57, w58, w59])), (a1, .inl (K 0, 400, .inl f_9))] := hD
  refine lv_iinc (v := 8) (lv' := [(2, .int 8), (0, .ref a0), (1, .int x)]) hx hb dX12_four_33 hl (k := 0) rfl (by decide) (by decide) rfl (fun ls hl => ?_)
  refine lv_goto (tgt := 3) hx hb dX12_four_36 (by decide) ?_
  refine lv_iload_n hx hb dX12_four_3 rfl (lv_at hl 0 rfl) ?_
  refine lv_if_lt (tgt := 39) hx hb dX12_four_4 (by decide) (fun c_11 => absurd c_11 (by decide)) (fun c_11 => ?_)
  refine lv_aload_n hx hb dX12_four_7 rfl (lv_at hl 1 rfl) ?_
  refine va_get (ci := 12) (v := .ref a1) (C := RX12) (T := TX12) (N := 60) hx hb hts hw12 hown hK hP 0 rfl rfl 12 (by decide) (hts (.fieldLink RX12 35 "SmokeTuneModel" "tape" "[I") (List.mem_cons_of_mem _ (List.mem_append_left _ (List.mem_of_getElem? (i := 0) rfl)))) (fun _ h9 => h9) rfl dX12_four_8 ?_
  refine lv_aload_n hx hb dX12_four_11 rfl (lv_at hl 1 rfl) ?_
  refine va_get (ci := 12) (v := .int 18) (C := RX12) (T := TX12) (N := 60) hx hb hts hw12 hown hK hP 0 rfl rfl 13 (by decide) (hts (.fieldLink RX12 227 "SmokeTuneModel" "taped" "I") (List.mem_cons_of_mem _ (List.mem_append_left _ (List.mem_of_getElem? (i := 1) rfl)))) (fun _ h9 => h9) rfl dX12_four_12 ?_
  refine lv_iload_n hx hb dX12_four_15 rfl (lv_at hl 2 rfl) ?_
  refine lv_iload_n hx hb dX12_four_16 rfl (lv_at hl 0 rfl) ?_
  refine lv_ishr hx hb dX12_four_17 ?_
  refine lv_topi (fun x_12 ex_12 => ?_)
  refine lv_sipush (v := 255) hx hb dX12_four_18 (by decide) ?_
  refine lv_iand hx hb dX12_four_21 ?_
  refine lv_topi (fun x_13 ex_13 => ?_)
  refine va_iast hx hb hK hP hD hS 1 0 rfl rfl (i_in (x := 18) rfl (by omega)) dX12_four_22 (fun H locs hP hD hS => ?_)
  generalize hf_14 : (upd f_9 (18 : Int32).toNatClampNeg x_13) = f_14 at hP hD
  have hP : va_P D vwCl [(a0, .inr (12, [w0, w1, w2, w3, w4, w5, w6, w7, w8, w9, w10, w11, .ref a1, .int 18, w14, w15, w16, w17, w18, w19, w20, w21, w22, w23, w24, w25, w26, w27, w28, w29, w30, w31, w32, w33, w34, w35, w36, w37, w38, w39, w40, w41, w42, w43, w44, w45, w46, w47, w48, w49, w50, w51, w52, w53, w54, w55, w56, w57, w58, w59])), (a1, .inl (K 0, 400, .inl f_14))] H := hP
  have hD : va_D A [(a0, .inr (12, [w0, w1, w2, w3, w4, w5, w6, w7, w8, w9, w10, w11, .ref a1, .int 18, w14, w15, w16, w17, w18, w19, w20, w21, w22, w23, w24, w25, w26, w27, w28, w29, w30, w31, w32, w33, w34, w35, w36, w37, w38, w39, w40, w41, w42, w43, w44, w45, w46, w47, w48, w49, w50, w51, w52, w53, w54, w55, w56, w57, w58, w59])), (a1, .inl (K 0, 400, .inl f_14))] := hD
  refine lv_aload_n hx hb dX12_four_23 rfl (lv_at hl 1 rfl) ?_
  refine lv_dup hx hb dX12_four_24 rfl ?_
  refine va_get (ci := 12) (v := .int 18) (C := RX12) (T := TX12) (N := 60) hx hb hts hw12 hown hK hP 0 rfl rfl 13 (by decide) (hts (.fieldLink RX12 227 "SmokeTuneModel" "taped" "I") (List.mem_cons_of_mem _ (List.mem_append_left _ (List.mem_of_getElem? (i := 1) rfl)))) (fun _ h9 => h9) rfl dX12_four_25 ?_
  refine lv_iconst (v := 1) hx hb dX12_four_28 (by decide) ?_
  refine lv_iadd hx hb dX12_four_29 ?_
  refine lv_topi (fun x_15 ex_15 => ?_)
  obtain rfl : x_15 = 19 := ex_15.trans (by first | rfl | decide)
  refine va_put (ci := 12) (v := .int 19) (ty := .int) (C := RX12) (T := TX12) (N := 60) hx hb hts hw12 tyX12 tyX12_ok nmX12 hown hK hP hD hS 0 rfl rfl 13 (by decide) (hts (.fieldLink RX12 227 "SmokeTuneModel" "taped" "I") (List.mem_cons_of_mem _ (List.mem_append_left _ (List.mem_of_getElem? (i := 1) rfl)))) (fun _ h9 => h9) rfl (by decide +kernel) (by first | rfl | decide) (by first | rfl | decide) (Nat.le_of_ble_eq_true rfl) dX12_four_30 (fun H locs hP hD hS => ?_)
  have hP : va_P D vwCl [(a0, .inr (12, [w0, w1, w2, w3, w4, w5, w6, w7, w8, w9, w10, w11, .ref a1, .int 19, w14, w15, w16, w17, w18, w19, w20, w21, w22, w23, w24, w25, w26, w27, w28, w29, w30, w31, w32, w33, w34, w35, w36, w37, w38, w39, w40, w41, w42, w43, w44, w45, w46, w47, w48, w49, w50, w51, w52, w53, w54, w55, w56, w57, w58, w59])), (a1, .inl (K 0, 400, .inl f_14))] H := hP
  have hD : va_D A [(a0, .inr (12, [w0, w1, w2, w3, w4, w5, w6, w7, w8, w9, w10, w11, .ref a1, .int 19, w14, w15, w16, w17, w18, w19, w20, w21, w22, w23, w24, w25, w26, w27, w28, w29, w30, w31, w32, w33, w34, w35, w36, w37, w38, w39, w40, w41, w42, w43, w44, w45, w46, w47, w48, w49, w50, w51, w52, w53, w54, w55, w56, w57, w58, w59])), (a1, .inl (K 0, 400, .inl f_14))] := hD
  refine lv_iinc (v := 0) (lv' := [(2, .int 0), (0, .ref a0), (1, .int x)]) hx hb dX12_four_33 hl (k := 0) rfl (by decide) (by decide) rfl (fun ls hl => ?_)
  refine lv_goto (tgt := 3) hx hb dX12_four_36 (by decide) ?_
  refine lv_iload_n hx hb dX12_four_3 rfl (lv_at hl 0 rfl) ?_
  refine lv_if_lt (tgt := 39) hx hb dX12_four_4 (by decide) (fun c_16 => absurd c_16 (by decide)) (fun c_16 => ?_)
  refine lv_aload_n hx hb dX12_four_7 rfl (lv_at hl 1 rfl) ?_
  refine va_get (ci := 12) (v := .ref a1) (C := RX12) (T := TX12) (N := 60) hx hb hts hw12 hown hK hP 0 rfl rfl 12 (by decide) (hts (.fieldLink RX12 35 "SmokeTuneModel" "tape" "[I") (List.mem_cons_of_mem _ (List.mem_append_left _ (List.mem_of_getElem? (i := 0) rfl)))) (fun _ h9 => h9) rfl dX12_four_8 ?_
  refine lv_aload_n hx hb dX12_four_11 rfl (lv_at hl 1 rfl) ?_
  refine va_get (ci := 12) (v := .int 19) (C := RX12) (T := TX12) (N := 60) hx hb hts hw12 hown hK hP 0 rfl rfl 13 (by decide) (hts (.fieldLink RX12 227 "SmokeTuneModel" "taped" "I") (List.mem_cons_of_mem _ (List.mem_append_left _ (List.mem_of_getElem? (i := 1) rfl)))) (fun _ h9 => h9) rfl dX12_four_12 ?_
  refine lv_iload_n hx hb dX12_four_15 rfl (lv_at hl 2 rfl) ?_
  refine lv_iload_n hx hb dX12_four_16 rfl (lv_at hl 0 rfl) ?_
  refine lv_ishr hx hb dX12_four_17 ?_
  refine lv_topi (fun x_17 ex_17 => ?_)
  refine lv_sipush (v := 255) hx hb dX12_four_18 (by decide) ?_
  refine lv_iand hx hb dX12_four_21 ?_
  refine lv_topi (fun x_18 ex_18 => ?_)
  refine va_iast hx hb hK hP hD hS 1 0 rfl rfl (i_in (x := 19) rfl (by omega)) dX12_four_22 (fun H locs hP hD hS => ?_)
  generalize hf_19 : (upd f_14 (19 : Int32).toNatClampNeg x_18) = f_19 at hP hD
  have hP : va_P D vwCl [(a0, .inr (12, [w0, w1, w2, w3, w4, w5, w6, w7, w8, w9, w10, w11, .ref a1, .int 19, w14, w15, w16, w17, w18, w19, w20, w21, w22, w23, w24, w25, w26, w27, w28, w29, w30, w31, w32, w33, w34, w35, w36, w37, w38, w39, w40, w41, w42, w43, w44, w45, w46, w47, w48, w49, w50, w51, w52, w53, w54, w55, w56, w57, w58, w59])), (a1, .inl (K 0, 400, .inl f_19))] H := hP
  have hD : va_D A [(a0, .inr (12, [w0, w1, w2, w3, w4, w5, w6, w7, w8, w9, w10, w11, .ref a1, .int 19, w14, w15, w16, w17, w18, w19, w20, w21, w22, w23, w24, w25, w26, w27, w28, w29, w30, w31, w32, w33, w34, w35, w36, w37, w38, w39, w40, w41, w42, w43, w44, w45, w46, w47, w48, w49, w50, w51, w52, w53, w54, w55, w56, w57, w58, w59])), (a1, .inl (K 0, 400, .inl f_19))] := hD
  refine lv_aload_n hx hb dX12_four_23 rfl (lv_at hl 1 rfl) ?_
  refine lv_dup hx hb dX12_four_24 rfl ?_
  refine va_get (ci := 12) (v := .int 19) (C := RX12) (T := TX12) (N := 60) hx hb hts hw12 hown hK hP 0 rfl rfl 13 (by decide) (hts (.fieldLink RX12 227 "SmokeTuneModel" "taped" "I") (List.mem_cons_of_mem _ (List.mem_append_left _ (List.mem_of_getElem? (i := 1) rfl)))) (fun _ h9 => h9) rfl dX12_four_25 ?_
  refine lv_iconst (v := 1) hx hb dX12_four_28 (by decide) ?_
  refine lv_iadd hx hb dX12_four_29 ?_
  refine lv_topi (fun x_20 ex_20 => ?_)
  obtain rfl : x_20 = 20 := ex_20.trans (by first | rfl | decide)
  refine va_put (ci := 12) (v := .int 20) (ty := .int) (C := RX12) (T := TX12) (N := 60) hx hb hts hw12 tyX12 tyX12_ok nmX12 hown hK hP hD hS 0 rfl rfl 13 (by decide) (hts (.fieldLink RX12 227 "SmokeTuneModel" "taped" "I") (List.mem_cons_of_mem _ (List.mem_append_left _ (List.mem_of_getElem? (i := 1) rfl)))) (fun _ h9 => h9) rfl (by decide +kernel) (by first | rfl | decide) (by first | rfl | decide) (Nat.le_of_ble_eq_true rfl) dX12_four_30 (fun H locs hP hD hS => ?_)
  have hP : va_P D vwCl [(a0, .inr (12, [w0, w1, w2, w3, w4, w5, w6, w7, w8, w9, w10, w11, .ref a1, .int 20, w14, w15, w16, w17, w18, w19, w20, w21, w22, w23, w24, w25, w26, w27, w28, w29, w30, w31, w32, w33, w34, w35, w36, w37, w38, w39, w40, w41, w42, w43, w44, w45, w46, w47, w48, w49, w50, w51, w52, w53, w54, w55, w56, w57, w58, w59])), (a1, .inl (K 0, 400, .inl f_19))] H := hP
  have hD : va_D A [(a0, .inr (12, [w0, w1, w2, w3, w4, w5, w6, w7, w8, w9, w10, w11, .ref a1, .int 20, w14, w15, w16, w17, w18, w19, w20, w21, w22, w23, w24, w25, w26, w27, w28, w29, w30, w31, w32, w33, w34, w35, w36, w37, w38, w39, w40, w41, w42, w43, w44, w45, w46, w47, w48, w49, w50, w51, w52, w53, w54, w55, w56, w57, w58, w59])), (a1, .inl (K 0, 400, .inl f_19))] := hD
  refine lv_iinc (v := (-8)) (lv' := [(2, .int (-8)), (0, .ref a0), (1, .int x)]) hx hb dX12_four_33 hl (k := 0) rfl (by decide) (by decide) rfl (fun ls hl => ?_)
  refine lv_goto (tgt := 3) hx hb dX12_four_36 (by decide) ?_
  refine lv_iload_n hx hb dX12_four_3 rfl (lv_at hl 0 rfl) ?_
  refine lv_if_lt (tgt := 39) hx hb dX12_four_4 (by decide) (fun c_21 => ?_) (fun c_21 => absurd (by decide) c_21)
  have hP9 := hP.sub (ws' := [(a0, .inr (12, [w0, w1, w2, w3, w4, w5, w6, w7, w8, w9, w10, w11, .ref a1, .int 20, w14, w15, w16, w17, w18, w19, w20, w21, w22, w23, w24, w25, w26, w27, w28, w29, w30, w31, w32, w33, w34, w35, w36, w37, w38, w39, w40, w41, w42, w43, w44, w45, w46, w47, w48, w49, w50, w51, w52, w53, w54, w55, w56, w57, w58, w59])), (a1, .inl (K 0, 400, .inl f_19))]) [0, 1] rfl
  have hD9 := hD.sub (ws' := [(a0, .inr (12, [w0, w1, w2, w3, w4, w5, w6, w7, w8, w9, w10, w11, .ref a1, .int 20, w14, w15, w16, w17, w18, w19, w20, w21, w22, w23, w24, w25, w26, w27, w28, w29, w30, w31, w32, w33, w34, w35, w36, w37, w38, w39, w40, w41, w42, w43, w44, w45, w46, w47, w48, w49, w50, w51, w52, w53, w54, w55, w56, w57, w58, w59])), (a1, .inl (K 0, 400, .inl f_19))]) [0, 1] (by decide) rfl
  exact W.vret hx hb hr (fun t ht hW => ⟨⟨(fun _ => 0, fun i => match i with | _ => f_19, fun _ => fun _ => 0, fun _ => 0), rfl, trivial, (⟨by rw [ht]; exact hP9, hD9⟩ : Wd D A _ t)⟩, hS.F ht⟩) hS.2.2 dX12_four_39
set_option maxHeartbeats 4000000 in
set_option maxRecDepth 100000 in
theorem c_take_0 (l : Launch) (D : va_G) (K : Nat → ClassId) (a0 : Nat) (x : Int32) (a1 : Nat) (g2 : Value) (g3 : Value) (g4 : Value) (g5 : Value) (f : Nat → Int32) (sz : Nat) : Met l yX8_take wsX8_take ({ frames := 0, cells := 0, slots := 0, locals := 0 }) (va_Pc [.ref a0, .int x] (Pre D K [(a0, .inr (8, [.ref a1, .int 0, g2, g3, g4, g5])), (a1, .inl (K 0, 400, .inl f))] sz)) (va_Qv (S := (Nat → Nat) × (Nat → Nat → Int32) × (Nat → Nat → Int64) × (Nat → Int32)) (fun _ => True) (fun u t => Wd D (va_A [(a0, .inr (8, [.ref a1, .int 0, g2, g3, g4, g5])), (a1, .inl (K 0, 400, .inl f))] sz) ((fun u => [(a0, .inr (8, [.ref a1, .int 4, g2, g3, g4, g5])), (a1, .inl (K 0, 400, .inl ((u.2.1 0))))]) u) t) (va_A [(a0, .inr (8, [.ref a1, .int 0, g2, g3, g4, g5])), (a1, .inl (K 0, 400, .inl f))] sz)) 0 0 (va_A [(a0, .inr (8, [.ref a1, .int 0, g2, g3, g4, g5])), (a1, .inl (K 0, 400, .inl f))] sz) := by
  refine Met.ofW (cc := cX8_take) (maxL := 3) (ret := none) (by decide) rfl ?_
  intro p e s m args below meth c s₁ B hml hv
  obtain ⟨rfl, hsz, hP, hK, hD0, hN⟩ := hv
  have hx := B.exec
  have hb := B.bytes
  have hr := B.returns
  have hts := atoms_spec (ws := wsX8_take) B.pre
  have hown : s.vm.findClass RX8 = some m.cls := findClass_of_methodNamed B.named
  have hlocks := B.notSynchronized
  subst hsz
  have hD := hD0.self (sz := s.heap.size)
  generalize hAe : va_A [(a0, .inr (8, [.ref a1, .int 0, g2, g3, g4, g5])), (a1, .inl (K 0, 400, .inl f))] s.heap.size = A at hD ⊢
  have hA : ∀ q : Nat, s.heap.size ≤ q → A q := fun q h => by rw [← hAe]; exact Or.inr h
  have hS : va_S A s.heap s.heap [] := va_S.rf
  have hP : va_P D vwCl [(a0, .inr (8, [.ref a1, .int 0, g2, g3, g4, g5])), (a1, .inl (K 0, 400, .inl f))] s.heap := hP
  have hl := lv_entry [.ref a0, .int x] (n := 3) (Nat.le_of_ble_eq_true rfl)
  rw [lg_entry_eq]
  generalize (lg_sl [.ref a0, .int x] ++ List.replicate (3 - (lg_sl [.ref a0, .int x]).length) Slot.unset).toArray = ls at hl ⊢
  have hl : lv_has ls 3 [(0, .ref a0), (1, .int x)] := hl
  have hw8 : ∀ w ∈ wsX80, w ∈ wsX8_take := fun w h => (List.mem_cons_of_mem _ (List.mem_append_right _ h))
  refine lv_bipush (v := 24) hx hb dX8_take_0 (by decide) ?_
  refine lv_istore_n (lv' := [(2, .int 24), (0, .ref a0), (1, .int x)]) hx hb dX8_take_2 rfl hl (by decide) rfl (fun ls hl => ?_)
  refine lv_iload_n hx hb dX8_take_3 rfl (lv_at hl 0 rfl) ?_
  refine lv_if_lt (tgt := 49) hx hb dX8_take_4 (by decide) (fun c_1 => absurd c_1 (by decide)) (fun c_1 => ?_)
  refine lv_aload_n hx hb dX8_take_7 rfl (lv_at hl 1 rfl) ?_
  refine va_get (ci := 8) (v := .int 0) (C := RX8) (T := TX8) (N := 6) hx hb hts hw8 hown hK hP 0 rfl rfl 1 (by decide) (hts (.fieldLink RX8 15 "SmokeTune$Tape" "length" "I") (List.mem_cons_of_mem _ (List.mem_append_left _ (List.mem_of_getElem? (i := 0) rfl)))) (fun _ h9 => h9) rfl dX8_take_8 ?_
  refine lv_sipush (v := 400) hx hb dX8_take_11 (by decide) ?_
  refine lv_icmp_ge (tgt := 49) hx hb dX8_take_14 (by decide) (fun c_2 => absurd c_2 (by decide)) (fun c_2 => ?_)
  refine lv_aload_n hx hb dX8_take_17 rfl (lv_at hl 1 rfl) ?_
  refine va_get (ci := 8) (v := .ref a1) (C := RX8) (T := TX8) (N := 6) hx hb hts hw8 hown hK hP 0 rfl rfl 0 (by decide) (hts (.fieldLink RX8 11 "SmokeTune$Tape" "bytes" "[I") (List.mem_cons_of_mem _ (List.mem_append_left _ (List.mem_of_getElem? (i := 1) rfl)))) (fun _ h9 => h9) rfl dX8_take_18 ?_
  refine lv_aload_n hx hb dX8_take_21 rfl (lv_at hl 1 rfl) ?_
  refine va_get (ci := 8) (v := .int 0) (C := RX8) (T := TX8) (N := 6) hx hb hts hw8 hown hK hP 0 rfl rfl 1 (by decide) (hts (.fieldLink RX8 15 "SmokeTune$Tape" "length" "I") (List.mem_cons_of_mem _ (List.mem_append_left _ (List.mem_of_getElem? (i := 0) rfl)))) (fun _ h9 => h9) rfl dX8_take_22 ?_
  refine lv_iload_n hx hb dX8_take_25 rfl (lv_at hl 2 rfl) ?_
  refine lv_iload_n hx hb dX8_take_26 rfl (lv_at hl 0 rfl) ?_
  refine lv_ishr hx hb dX8_take_27 ?_
  refine lv_topi (fun x_3 ex_3 => ?_)
  refine lv_sipush (v := 255) hx hb dX8_take_28 (by decide) ?_
  refine lv_iand hx hb dX8_take_31 ?_
  refine lv_topi (fun x_4 ex_4 => ?_)
  refine va_iast hx hb hK hP hD hS 1 0 rfl rfl (i_in (x := 0) rfl (by omega)) dX8_take_32 (fun H locs hP hD hS => ?_)
  generalize hf_5 : (upd f (0 : Int32).toNatClampNeg x_4) = f_5 at hP hD
  have hP : va_P D vwCl [(a0, .inr (8, [.ref a1, .int 0, g2, g3, g4, g5])), (a1, .inl (K 0, 400, .inl f_5))] H := hP
  have hD : va_D A [(a0, .inr (8, [.ref a1, .int 0, g2, g3, g4, g5])), (a1, .inl (K 0, 400, .inl f_5))] := hD
  refine lv_aload_n hx hb dX8_take_33 rfl (lv_at hl 1 rfl) ?_
  refine lv_dup hx hb dX8_take_34 rfl ?_
  refine va_get (ci := 8) (v := .int 0) (C := RX8) (T := TX8) (N := 6) hx hb hts hw8 hown hK hP 0 rfl rfl 1 (by decide) (hts (.fieldLink RX8 15 "SmokeTune$Tape" "length" "I") (List.mem_cons_of_mem _ (List.mem_append_left _ (List.mem_of_getElem? (i := 0) rfl)))) (fun _ h9 => h9) rfl dX8_take_35 ?_
  refine lv_iconst (v := 1) hx hb dX8_take_38 (by decide) ?_
  refine lv_iadd hx hb dX8_take_39 ?_
  refine lv_topi (fun x_6 ex_6 => ?_)
  obtain rfl : x_6 = 1 := ex_6.trans (by first | rfl | decide)
  refine va_put (ci := 8) (v := .int 1) (ty := .int) (C := RX8) (T := TX8) (N := 6) hx hb hts hw8 tyX8 tyX8_ok nmX8 hown hK hP hD hS 0 rfl rfl 1 (by decide) (hts (.fieldLink RX8 15 "SmokeTune$Tape" "length" "I") (List.mem_cons_of_mem _ (List.mem_append_left _ (List.mem_of_getElem? (i := 0) rfl)))) (fun _ h9 => h9) rfl (by decide +kernel) (by first | rfl | decide) (by first | rfl | decide) (Nat.le_of_ble_eq_true rfl) dX8_take_40 (fun H locs hP hD hS => ?_)
  have hP : va_P D vwCl [(a0, .inr (8, [.ref a1, .int 1, g2, g3, g4, g5])), (a1, .inl (K 0, 400, .inl f_5))] H := hP
  have hD : va_D A [(a0, .inr (8, [.ref a1, .int 1, g2, g3, g4, g5])), (a1, .inl (K 0, 400, .inl f_5))] := hD
  refine lv_iinc (v := 16) (lv' := [(2, .int 16), (0, .ref a0), (1, .int x)]) hx hb dX8_take_43 hl (k := 0) rfl (by decide) (by decide) rfl (fun ls hl => ?_)
  refine lv_goto (tgt := 3) hx hb dX8_take_46 (by decide) ?_
  refine lv_iload_n hx hb dX8_take_3 rfl (lv_at hl 0 rfl) ?_
  refine lv_if_lt (tgt := 49) hx hb dX8_take_4 (by decide) (fun c_7 => absurd c_7 (by decide)) (fun c_7 => ?_)
  refine lv_aload_n hx hb dX8_take_7 rfl (lv_at hl 1 rfl) ?_
  refine va_get (ci := 8) (v := .int 1) (C := RX8) (T := TX8) (N := 6) hx hb hts hw8 hown hK hP 0 rfl rfl 1 (by decide) (hts (.fieldLink RX8 15 "SmokeTune$Tape" "length" "I") (List.mem_cons_of_mem _ (List.mem_append_left _ (List.mem_of_getElem? (i := 0) rfl)))) (fun _ h9 => h9) rfl dX8_take_8 ?_
  refine lv_sipush (v := 400) hx hb dX8_take_11 (by decide) ?_
  refine lv_icmp_ge (tgt := 49) hx hb dX8_take_14 (by decide) (fun c_8 => absurd c_8 (by decide)) (fun c_8 => ?_)
  refine lv_aload_n hx hb dX8_take_17 rfl (lv_at hl 1 rfl) ?_
  refine va_get (ci := 8) (v := .ref a1) (C := RX8) (T := TX8) (N := 6) hx hb hts hw8 hown hK hP 0 rfl rfl 0 (by decide) (hts (.fieldLink RX8 11 "SmokeTune$Tape" "bytes" "[I") (List.mem_cons_of_mem _ (List.mem_append_left _ (List.mem_of_getElem? (i := 1) rfl)))) (fun _ h9 => h9) rfl dX8_take_18 ?_
  refine lv_aload_n hx hb dX8_take_21 rfl (lv_at hl 1 rfl) ?_
  refine va_get (ci := 8) (v := .int 1) (C := RX8) (T := TX8) (N := 6) hx hb hts hw8 hown hK hP 0 rfl rfl 1 (by decide) (hts (.fieldLink RX8 15 "SmokeTune$Tape" "length" "I") (List.mem_cons_of_mem _ (List.mem_append_left _ (List.mem_of_getElem? (i := 0) rfl)))) (fun _ h9 => h9) rfl dX8_take_22 ?_
  refine lv_iload_n hx hb dX8_take_25 rfl (lv_at hl 2 rfl) ?_
  refine lv_iload_n hx hb dX8_take_26 rfl (lv_at hl 0 rfl) ?_
  refine lv_ishr hx hb dX8_take_27 ?_
  refine lv_topi (fun x_9 ex_9 => ?_)
  refine lv_sipush (v := 255) hx hb dX8_take_28 (by decide) ?_
  refine lv_iand hx hb dX8_take_31 ?_
  refine lv_topi (fun x_10 ex_10 => ?_)
  refine va_iast hx hb hK hP hD hS 1 0 rfl rfl (i_in (x := 1) rfl (by omega)) dX8_take_32 (fun H locs hP hD hS => ?_)
  generalize hf_11 : (upd f_5 (1 : Int32).toNatClampNeg x_10) = f_11 at hP hD
  have hP : va_P D vwCl [(a0, .inr (8, [.ref a1, .int 1, g2, g3, g4, g5])), (a1, .inl (K 0, 400, .inl f_11))] H := hP
  have hD : va_D A [(a0, .inr (8, [.ref a1, .int 1, g2, g3, g4, g5])), (a1, .inl (K 0, 400, .inl f_11))] := hD
  refine lv_aload_n hx hb dX8_take_33 rfl (lv_at hl 1 rfl) ?_
  refine lv_dup hx hb dX8_take_34 rfl ?_
  refine va_get (ci := 8) (v := .int 1) (C := RX8) (T := TX8) (N := 6) hx hb hts hw8 hown hK hP 0 rfl rfl 1 (by decide) (hts (.fieldLink RX8 15 "SmokeTune$Tape" "length" "I") (List.mem_cons_of_mem _ (List.mem_append_left _ (List.mem_of_getElem? (i := 0) rfl)))) (fun _ h9 => h9) rfl dX8_take_35 ?_
  refine lv_iconst (v := 1) hx hb dX8_take_38 (by decide) ?_
  refine lv_iadd hx hb dX8_take_39 ?_
  refine lv_topi (fun x_12 ex_12 => ?_)
  obtain rfl : x_12 = 2 := ex_12.trans (by first | rfl | decide)
  refine va_put (ci := 8) (v := .int 2) (ty := .int) (C := RX8) (T := TX8) (N := 6) hx hb hts hw8 tyX8 tyX8_ok nmX8 hown hK hP hD hS 0 rfl rfl 1 (by decide) (hts (.fieldLink RX8 15 "SmokeTune$Tape" "length" "I") (List.mem_cons_of_mem _ (List.mem_append_left _ (List.mem_of_getElem? (i := 0) rfl)))) (fun _ h9 => h9) rfl (by decide +kernel) (by first | rfl | decide) (by first | rfl | decide) (Nat.le_of_ble_eq_true rfl) dX8_take_40 (fun H locs hP hD hS => ?_)
  have hP : va_P D vwCl [(a0, .inr (8, [.ref a1, .int 2, g2, g3, g4, g5])), (a1, .inl (K 0, 400, .inl f_11))] H := hP
  have hD : va_D A [(a0, .inr (8, [.ref a1, .int 2, g2, g3, g4, g5])), (a1, .inl (K 0, 400, .inl f_11))] := hD
  refine lv_iinc (v := 8) (lv' := [(2, .int 8), (0, .ref a0), (1, .int x)]) hx hb dX8_take_43 hl (k := 0) rfl (by decide) (by decide) rfl (fun ls hl => ?_)
  refine lv_goto (tgt := 3) hx hb dX8_take_46 (by decide) ?_
  refine lv_iload_n hx hb dX8_take_3 rfl (lv_at hl 0 rfl) ?_
  refine lv_if_lt (tgt := 49) hx hb dX8_take_4 (by decide) (fun c_13 => absurd c_13 (by decide)) (fun c_13 => ?_)
  refine lv_aload_n hx hb dX8_take_7 rfl (lv_at hl 1 rfl) ?_
  refine va_get (ci := 8) (v := .int 2) (C := RX8) (T := TX8) (N := 6) hx hb hts hw8 hown hK hP 0 rfl rfl 1 (by decide) (hts (.fieldLink RX8 15 "SmokeTune$Tape" "length" "I") (List.mem_cons_of_mem _ (List.mem_append_left _ (List.mem_of_getElem? (i := 0) rfl)))) (fun _ h9 => h9) rfl dX8_take_8 ?_
  refine lv_sipush (v := 400) hx hb dX8_take_11 (by decide) ?_
  refine lv_icmp_ge (tgt := 49) hx hb dX8_take_14 (by decide) (fun c_14 => absurd c_14 (by decide)) (fun c_14 => ?_)
  refine lv_aload_n hx hb dX8_take_17 rfl (lv_at hl 1 rfl) ?_
  refine va_get (ci := 8) (v := .ref a1) (C := RX8) (T := TX8) (N := 6) hx hb hts hw8 hown hK hP 0 rfl rfl 0 (by decide) (hts (.fieldLink RX8 11 "SmokeTune$Tape" "bytes" "[I") (List.mem_cons_of_mem _ (List.mem_append_left _ (List.mem_of_getElem? (i := 1) rfl)))) (fun _ h9 => h9) rfl dX8_take_18 ?_
  refine lv_aload_n hx hb dX8_take_21 rfl (lv_at hl 1 rfl) ?_
  refine va_get (ci := 8) (v := .int 2) (C := RX8) (T := TX8) (N := 6) hx hb hts hw8 hown hK hP 0 rfl rfl 1 (by decide) (hts (.fieldLink RX8 15 "SmokeTune$Tape" "length" "I") (List.mem_cons_of_mem _ (List.mem_append_left _ (List.mem_of_getElem? (i := 0) rfl)))) (fun _ h9 => h9) rfl dX8_take_22 ?_
  refine lv_iload_n hx hb dX8_take_25 rfl (lv_at hl 2 rfl) ?_
  refine lv_iload_n hx hb dX8_take_26 rfl (lv_at hl 0 rfl) ?_
  refine lv_ishr hx hb dX8_take_27 ?_
  refine lv_topi (fun x_15 ex_15 => ?_)
  refine lv_sipush (v := 255) hx hb dX8_take_28 (by decide) ?_
  refine lv_iand hx hb dX8_take_31 ?_
  refine lv_topi (fun x_16 ex_16 => ?_)
  refine va_iast hx hb hK hP hD hS 1 0 rfl rfl (i_in (x := 2) rfl (by omega)) dX8_take_32 (fun H locs hP hD hS => ?_)
  generalize hf_17 : (upd f_11 (2 : Int32).toNatClampNeg x_16) = f_17 at hP hD
  have hP : va_P D vwCl [(a0, .inr (8, [.ref a1, .int 2, g2, g3, g4, g5])), (a1, .inl (K 0, 400, .inl f_17))] H := hP
  have hD : va_D A [(a0, .inr (8, [.ref a1, .int 2, g2, g3, g4, g5])), (a1, .inl (K 0, 400, .inl f_17))] := hD
  refine lv_aload_n hx hb dX8_take_33 rfl (lv_at hl 1 rfl) ?_
  refine lv_dup hx hb dX8_take_34 rfl ?_
  refine va_get (ci := 8) (v := .int 2) (C := RX8) (T := TX8) (N := 6) hx hb hts hw8 hown hK hP 0 rfl rfl 1 (by decide) (hts (.fieldLink RX8 15 "SmokeTune$Tape" "length" "I") (List.mem_cons_of_mem _ (List.mem_append_left _ (List.mem_of_getElem? (i := 0) rfl)))) (fun _ h9 => h9) rfl dX8_take_35 ?_
  refine lv_iconst (v := 1) hx hb dX8_take_38 (by decide) ?_
  refine lv_iadd hx hb dX8_take_39 ?_
  refine lv_topi (fun x_18 ex_18 => ?_)
  obtain rfl : x_18 = 3 := ex_18.trans (by first | rfl | decide)
  refine va_put (ci := 8) (v := .int 3) (ty := .int) (C := RX8) (T := TX8) (N := 6) hx hb hts hw8 tyX8 tyX8_ok nmX8 hown hK hP hD hS 0 rfl rfl 1 (by decide) (hts (.fieldLink RX8 15 "SmokeTune$Tape" "length" "I") (List.mem_cons_of_mem _ (List.mem_append_left _ (List.mem_of_getElem? (i := 0) rfl)))) (fun _ h9 => h9) rfl (by decide +kernel) (by first | rfl | decide) (by first | rfl | decide) (Nat.le_of_ble_eq_true rfl) dX8_take_40 (fun H locs hP hD hS => ?_)
  have hP : va_P D vwCl [(a0, .inr (8, [.ref a1, .int 3, g2, g3, g4, g5])), (a1, .inl (K 0, 400, .inl f_17))] H := hP
  have hD : va_D A [(a0, .inr (8, [.ref a1, .int 3, g2, g3, g4, g5])), (a1, .inl (K 0, 400, .inl f_17))] := hD
  refine lv_iinc (v := 0) (lv' := [(2, .int 0), (0, .ref a0), (1, .int x)]) hx hb dX8_take_43 hl (k := 0) rfl (by decide) (by decide) rfl (fun ls hl => ?_)
  refine lv_goto (tgt := 3) hx hb dX8_take_46 (by decide) ?_
  refine lv_iload_n hx hb dX8_take_3 rfl (lv_at hl 0 rfl) ?_
  refine lv_if_lt (tgt := 49) hx hb dX8_take_4 (by decide) (fun c_19 => absurd c_19 (by decide)) (fun c_19 => ?_)
  refine lv_aload_n hx hb dX8_take_7 rfl (lv_at hl 1 rfl) ?_
  refine va_get (ci := 8) (v := .int 3) (C := RX8) (T := TX8) (N := 6) hx hb hts hw8 hown hK hP 0 rfl rfl 1 (by decide) (hts (.fieldLink RX8 15 "SmokeTune$Tape" "length" "I") (List.mem_cons_of_mem _ (List.mem_append_left _ (List.mem_of_getElem? (i := 0) rfl)))) (fun _ h9 => h9) rfl dX8_take_8 ?_
  refine lv_sipush (v := 400) hx hb dX8_take_11 (by decide) ?_
  refine lv_icmp_ge (tgt := 49) hx hb dX8_take_14 (by decide) (fun c_20 => absurd c_20 (by decide)) (fun c_20 => ?_)
  refine lv_aload_n hx hb dX8_take_17 rfl (lv_at hl 1 rfl) ?_
  refine va_get (ci := 8) (v := .ref a1) (C := RX8) (T := TX8) (N := 6) hx hb hts hw8 hown hK hP 0 rfl rfl 0 (by decide) (hts (.fieldLink RX8 11 "SmokeTune$Tape" "bytes" "[I") (List.mem_cons_of_mem _ (List.mem_append_left _ (List.mem_of_getElem? (i := 1) rfl)))) (fun _ h9 => h9) rfl dX8_take_18 ?_
  refine lv_aload_n hx hb dX8_take_21 rfl (lv_at hl 1 rfl) ?_
  refine va_get (ci := 8) (v := .int 3) (C := RX8) (T := TX8) (N := 6) hx hb hts hw8 hown hK hP 0 rfl rfl 1 (by decide) (hts (.fieldLink RX8 15 "SmokeTune$Tape" "length" "I") (List.mem_cons_of_mem _ (List.mem_append_left _ (List.mem_of_getElem? (i := 0) rfl)))) (fun _ h9 => h9) rfl dX8_take_22 ?_
  refine lv_iload_n hx hb dX8_take_25 rfl (lv_at hl 2 rfl) ?_
  refine lv_iload_n hx hb dX8_take_26 rfl (lv_at hl 0 rfl) ?_
  refine lv_ishr hx hb dX8_take_27 ?_
  refine lv_topi (fun x_21 ex_21 => ?_)
  refine lv_sipush (v := 255) hx hb dX8_take_28 (by decide) ?_
  refine lv_iand hx hb dX8_take_31 ?_
  refine lv_topi (fun x_22 ex_22 => ?_)
  refine va_iast hx hb hK hP hD hS 1 0 rfl rfl (i_in (x := 3) rfl (by omega)) dX8_take_32 (fun H locs hP hD hS => ?_)
  generalize hf_23 : (upd f_17 (3 : Int32).toNatClampNeg x_22) = f_23 at hP hD
  have hP : va_P D vwCl [(a0, .inr (8, [.ref a1, .int 3, g2, g3, g4, g5])), (a1, .inl (K 0, 400, .inl f_23))] H := hP
  have hD : va_D A [(a0, .inr (8, [.ref a1, .int 3, g2, g3, g4, g5])), (a1, .inl (K 0, 400, .inl f_23))] := hD
  refine lv_aload_n hx hb dX8_take_33 rfl (lv_at hl 1 rfl) ?_
  refine lv_dup hx hb dX8_take_34 rfl ?_
  refine va_get (ci := 8) (v := .int 3) (C := RX8) (T := TX8) (N := 6) hx hb hts hw8 hown hK hP 0 rfl rfl 1 (by decide) (hts (.fieldLink RX8 15 "SmokeTune$Tape" "length" "I") (List.mem_cons_of_mem _ (List.mem_append_left _ (List.mem_of_getElem? (i := 0) rfl)))) (fun _ h9 => h9) rfl dX8_take_35 ?_
  refine lv_iconst (v := 1) hx hb dX8_take_38 (by decide) ?_
  refine lv_iadd hx hb dX8_take_39 ?_
  refine lv_topi (fun x_24 ex_24 => ?_)
  obtain rfl : x_24 = 4 := ex_24.trans (by first | rfl | decide)
  refine va_put (ci := 8) (v := .int 4) (ty := .int) (C := RX8) (T := TX8) (N := 6) hx hb hts hw8 tyX8 tyX8_ok nmX8 hown hK hP hD hS 0 rfl rfl 1 (by decide) (hts (.fieldLink RX8 15 "SmokeTune$Tape" "length" "I") (List.mem_cons_of_mem _ (List.mem_append_left _ (List.mem_of_getElem? (i := 0) rfl)))) (fun _ h9 => h9) rfl (by decide +kernel) (by first | rfl | decide) (by first | rfl | decide) (Nat.le_of_ble_eq_true rfl) dX8_take_40 (fun H locs hP hD hS => ?_)
  have hP : va_P D vwCl [(a0, .inr (8, [.ref a1, .int 4, g2, g3, g4, g5])), (a1, .inl (K 0, 400, .inl f_23))] H := hP
  have hD : va_D A [(a0, .inr (8, [.ref a1, .int 4, g2, g3, g4, g5])), (a1, .inl (K 0, 400, .inl f_23))] := hD
  refine lv_iinc (v := (-8)) (lv' := [(2, .int (-8)), (0, .ref a0), (1, .int x)]) hx hb dX8_take_43 hl (k := 0) rfl (by decide) (by decide) rfl (fun ls hl => ?_)
  refine lv_goto (tgt := 3) hx hb dX8_take_46 (by decide) ?_
  refine lv_iload_n hx hb dX8_take_3 rfl (lv_at hl 0 rfl) ?_
  refine lv_if_lt (tgt := 49) hx hb dX8_take_4 (by decide) (fun c_25 => ?_) (fun c_25 => absurd (by decide) c_25)
  have hP9 := hP.sub (ws' := [(a0, .inr (8, [.ref a1, .int 4, g2, g3, g4, g5])), (a1, .inl (K 0, 400, .inl f_23))]) [0, 1] rfl
  have hD9 := hD.sub (ws' := [(a0, .inr (8, [.ref a1, .int 4, g2, g3, g4, g5])), (a1, .inl (K 0, 400, .inl f_23))]) [0, 1] (by decide) rfl
  exact W.vret hx hb hr (fun t ht hW => ⟨⟨(fun _ => 0, fun i => match i with | _ => f_23, fun _ => fun _ => 0, fun _ => 0), rfl, trivial, (⟨by rw [ht]; exact hP9, hD9⟩ : Wd D A _ t)⟩, hS.F ht⟩) hS.2.2 dX8_take_49
set_option maxHeartbeats 4000000 in
set_option maxRecDepth 100000 in
theorem c_take_4 (l : Launch) (D : va_G) (K : Nat → ClassId) (a0 : Nat) (x : Int32) (a1 : Nat) (g2 : Value) (g3 : Value) (g4 : Value) (g5 : Value) (f : Nat → Int32) (sz : Nat) : Met l yX8_take wsX8_take ({ frames := 0, cells := 0, slots := 0, locals := 0 }) (va_Pc [.ref a0, .int x] (Pre D K [(a0, .inr (8, [.ref a1, .int 4, g2, g3, g4, g5])), (a1, .inl (K 0, 400, .inl f))] sz)) (va_Qv (S := (Nat → Nat) × (Nat → Nat → Int32) × (Nat → Nat → Int64) × (Nat → Int32)) (fun _ => True) (fun u t => Wd D (va_A [(a0, .inr (8, [.ref a1, .int 4, g2, g3, g4, g5])), (a1, .inl (K 0, 400, .inl f))] sz) ((fun u => [(a0, .inr (8, [.ref a1, .int 8, g2, g3, g4, g5])), (a1, .inl (K 0, 400, .inl ((u.2.1 0))))]) u) t) (va_A [(a0, .inr (8, [.ref a1, .int 4, g2, g3, g4, g5])), (a1, .inl (K 0, 400, .inl f))] sz)) 0 0 (va_A [(a0, .inr (8, [.ref a1, .int 4, g2, g3, g4, g5])), (a1, .inl (K 0, 400, .inl f))] sz) := by
  refine Met.ofW (cc := cX8_take) (maxL := 3) (ret := none) (by decide) rfl ?_
  intro p e s m args below meth c s₁ B hml hv
  obtain ⟨rfl, hsz, hP, hK, hD0, hN⟩ := hv
  have hx := B.exec
  have hb := B.bytes
  have hr := B.returns
  have hts := atoms_spec (ws := wsX8_take) B.pre
  have hown : s.vm.findClass RX8 = some m.cls := findClass_of_methodNamed B.named
  have hlocks := B.notSynchronized
  subst hsz
  have hD := hD0.self (sz := s.heap.size)
  generalize hAe : va_A [(a0, .inr (8, [.ref a1, .int 4, g2, g3, g4, g5])), (a1, .inl (K 0, 400, .inl f))] s.heap.size = A at hD ⊢
  have hA : ∀ q : Nat, s.heap.size ≤ q → A q := fun q h => by rw [← hAe]; exact Or.inr h
  have hS : va_S A s.heap s.heap [] := va_S.rf
  have hP : va_P D vwCl [(a0, .inr (8, [.ref a1, .int 4, g2, g3, g4, g5])), (a1, .inl (K 0, 400, .inl f))] s.heap := hP
  have hl := lv_entry [.ref a0, .int x] (n := 3) (Nat.le_of_ble_eq_true rfl)
  rw [lg_entry_eq]
  generalize (lg_sl [.ref a0, .int x] ++ List.replicate (3 - (lg_sl [.ref a0, .int x]).length) Slot.unset).toArray = ls at hl ⊢
  have hl : lv_has ls 3 [(0, .ref a0), (1, .int x)] := hl
  have hw8 : ∀ w ∈ wsX80, w ∈ wsX8_take := fun w h => (List.mem_cons_of_mem _ (List.mem_append_right _ h))
  refine lv_bipush (v := 24) hx hb dX8_take_0 (by decide) ?_
  refine lv_istore_n (lv' := [(2, .int 24), (0, .ref a0), (1, .int x)]) hx hb dX8_take_2 rfl hl (by decide) rfl (fun ls hl => ?_)
  refine lv_iload_n hx hb dX8_take_3 rfl (lv_at hl 0 rfl) ?_
  refine lv_if_lt (tgt := 49) hx hb dX8_take_4 (by decide) (fun c_1 => absurd c_1 (by decide)) (fun c_1 => ?_)
  refine lv_aload_n hx hb dX8_take_7 rfl (lv_at hl 1 rfl) ?_
  refine va_get (ci := 8) (v := .int 4) (C := RX8) (T := TX8) (N := 6) hx hb hts hw8 hown hK hP 0 rfl rfl 1 (by decide) (hts (.fieldLink RX8 15 "SmokeTune$Tape" "length" "I") (List.mem_cons_of_mem _ (List.mem_append_left _ (List.mem_of_getElem? (i := 0) rfl)))) (fun _ h9 => h9) rfl dX8_take_8 ?_
  refine lv_sipush (v := 400) hx hb dX8_take_11 (by decide) ?_
  refine lv_icmp_ge (tgt := 49) hx hb dX8_take_14 (by decide) (fun c_2 => absurd c_2 (by decide)) (fun c_2 => ?_)
  refine lv_aload_n hx hb dX8_take_17 rfl (lv_at hl 1 rfl) ?_
  refine va_get (ci := 8) (v := .ref a1) (C := RX8) (T := TX8) (N := 6) hx hb hts hw8 hown hK hP 0 rfl rfl 0 (by decide) (hts (.fieldLink RX8 11 "SmokeTune$Tape" "bytes" "[I") (List.mem_cons_of_mem _ (List.mem_append_left _ (List.mem_of_getElem? (i := 1) rfl)))) (fun _ h9 => h9) rfl dX8_take_18 ?_
  refine lv_aload_n hx hb dX8_take_21 rfl (lv_at hl 1 rfl) ?_
  refine va_get (ci := 8) (v := .int 4) (C := RX8) (T := TX8) (N := 6) hx hb hts hw8 hown hK hP 0 rfl rfl 1 (by decide) (hts (.fieldLink RX8 15 "SmokeTune$Tape" "length" "I") (List.mem_cons_of_mem _ (List.mem_append_left _ (List.mem_of_getElem? (i := 0) rfl)))) (fun _ h9 => h9) rfl dX8_take_22 ?_
  refine lv_iload_n hx hb dX8_take_25 rfl (lv_at hl 2 rfl) ?_
  refine lv_iload_n hx hb dX8_take_26 rfl (lv_at hl 0 rfl) ?_
  refine lv_ishr hx hb dX8_take_27 ?_
  refine lv_topi (fun x_3 ex_3 => ?_)
  refine lv_sipush (v := 255) hx hb dX8_take_28 (by decide) ?_
  refine lv_iand hx hb dX8_take_31 ?_
  refine lv_topi (fun x_4 ex_4 => ?_)
  refine va_iast hx hb hK hP hD hS 1 0 rfl rfl (i_in (x := 4) rfl (by omega)) dX8_take_32 (fun H locs hP hD hS => ?_)
  generalize hf_5 : (upd f (4 : Int32).toNatClampNeg x_4) = f_5 at hP hD
  have hP : va_P D vwCl [(a0, .inr (8, [.ref a1, .int 4, g2, g3, g4, g5])), (a1, .inl (K 0, 400, .inl f_5))] H := hP
  have hD : va_D A [(a0, .inr (8, [.ref a1, .int 4, g2, g3, g4, g5])), (a1, .inl (K 0, 400, .inl f_5))] := hD
  refine lv_aload_n hx hb dX8_take_33 rfl (lv_at hl 1 rfl) ?_
  refine lv_dup hx hb dX8_take_34 rfl ?_
  refine va_get (ci := 8) (v := .int 4) (C := RX8) (T := TX8) (N := 6) hx hb hts hw8 hown hK hP 0 rfl rfl 1 (by decide) (hts (.fieldLink RX8 15 "SmokeTune$Tape" "length" "I") (List.mem_cons_of_mem _ (List.mem_append_left _ (List.mem_of_getElem? (i := 0) rfl)))) (fun _ h9 => h9) rfl dX8_take_35 ?_
  refine lv_iconst (v := 1) hx hb dX8_take_38 (by decide) ?_
  refine lv_iadd hx hb dX8_take_39 ?_
  refine lv_topi (fun x_6 ex_6 => ?_)
  obtain rfl : x_6 = 5 := ex_6.trans (by first | rfl | decide)
  refine va_put (ci := 8) (v := .int 5) (ty := .int) (C := RX8) (T := TX8) (N := 6) hx hb hts hw8 tyX8 tyX8_ok nmX8 hown hK hP hD hS 0 rfl rfl 1 (by decide) (hts (.fieldLink RX8 15 "SmokeTune$Tape" "length" "I") (List.mem_cons_of_mem _ (List.mem_append_left _ (List.mem_of_getElem? (i := 0) rfl)))) (fun _ h9 => h9) rfl (by decide +kernel) (by first | rfl | decide) (by first | rfl | decide) (Nat.le_of_ble_eq_true rfl) dX8_take_40 (fun H locs hP hD hS => ?_)
  have hP : va_P D vwCl [(a0, .inr (8, [.ref a1, .int 5, g2, g3, g4, g5])), (a1, .inl (K 0, 400, .inl f_5))] H := hP
  have hD : va_D A [(a0, .inr (8, [.ref a1, .int 5, g2, g3, g4, g5])), (a1, .inl (K 0, 400, .inl f_5))] := hD
  refine lv_iinc (v := 16) (lv' := [(2, .int 16), (0, .ref a0), (1, .int x)]) hx hb dX8_take_43 hl (k := 0) rfl (by decide) (by decide) rfl (fun ls hl => ?_)
  refine lv_goto (tgt := 3) hx hb dX8_take_46 (by decide) ?_
  refine lv_iload_n hx hb dX8_take_3 rfl (lv_at hl 0 rfl) ?_
  refine lv_if_lt (tgt := 49) hx hb dX8_take_4 (by decide) (fun c_7 => absurd c_7 (by decide)) (fun c_7 => ?_)
  refine lv_aload_n hx hb dX8_take_7 rfl (lv_at hl 1 rfl) ?_
  refine va_get (ci := 8) (v := .int 5) (C := RX8) (T := TX8) (N := 6) hx hb hts hw8 hown hK hP 0 rfl rfl 1 (by decide) (hts (.fieldLink RX8 15 "SmokeTune$Tape" "length" "I") (List.mem_cons_of_mem _ (List.mem_append_left _ (List.mem_of_getElem? (i := 0) rfl)))) (fun _ h9 => h9) rfl dX8_take_8 ?_
  refine lv_sipush (v := 400) hx hb dX8_take_11 (by decide) ?_
  refine lv_icmp_ge (tgt := 49) hx hb dX8_take_14 (by decide) (fun c_8 => absurd c_8 (by decide)) (fun c_8 => ?_)
  refine lv_aload_n hx hb dX8_take_17 rfl (lv_at hl 1 rfl) ?_
  refine va_get (ci := 8) (v := .ref a1) (C := RX8) (T := TX8) (N := 6) hx hb hts hw8 hown hK hP 0 rfl rfl 0 (by decide) (hts (.fieldLink RX8 11 "SmokeTune$Tape" "bytes" "[I") (List.mem_cons_of_mem _ (List.mem_append_left _ (List.mem_of_getElem? (i := 1) rfl)))) (fun _ h9 => h9) rfl dX8_take_18 ?_
  refine lv_aload_n hx hb dX8_take_21 rfl (lv_at hl 1 rfl) ?_
  refine va_get (ci := 8) (v := .int 5) (C := RX8) (T := TX8) (N := 6) hx hb hts hw8 hown hK hP 0 rfl rfl 1 (by decide) (hts (.fieldLink RX8 15 "SmokeTune$Tape" "length" "I") (List.mem_cons_of_mem _ (List.mem_append_left _ (List.mem_of_getElem? (i := 0) rfl)))) (fun _ h9 => h9) rfl dX8_take_22 ?_
  refine lv_iload_n hx hb dX8_take_25 rfl (lv_at hl 2 rfl) ?_
  refine lv_iload_n hx hb dX8_take_26 rfl (lv_at hl 0 rfl) ?_
  refine lv_ishr hx hb dX8_take_27 ?_
  refine lv_topi (fun x_9 ex_9 => ?_)
  refine lv_sipush (v := 255) hx hb dX8_take_28 (by decide) ?_
  refine lv_iand hx hb dX8_take_31 ?_
  refine lv_topi (fun x_10 ex_10 => ?_)
  refine va_iast hx hb hK hP hD hS 1 0 rfl rfl (i_in (x := 5) rfl (by omega)) dX8_take_32 (fun H locs hP hD hS => ?_)
  generalize hf_11 : (upd f_5 (5 : Int32).toNatClampNeg x_10) = f_11 at hP hD
  have hP : va_P D vwCl [(a0, .inr (8, [.ref a1, .int 5, g2, g3, g4, g5])), (a1, .inl (K 0, 400, .inl f_11))] H := hP
  have hD : va_D A [(a0, .inr (8, [.ref a1, .int 5, g2, g3, g4, g5])), (a1, .inl (K 0, 400, .inl f_11))] := hD
  refine lv_aload_n hx hb dX8_take_33 rfl (lv_at hl 1 rfl) ?_
  refine lv_dup hx hb dX8_take_34 rfl ?_
  refine va_get (ci := 8) (v := .int 5) (C := RX8) (T := TX8) (N := 6) hx hb hts hw8 hown hK hP 0 rfl rfl 1 (by decide) (hts (.fieldLink RX8 15 "SmokeTune$Tape" "length" "I") (List.mem_cons_of_mem _ (List.mem_append_left _ (List.mem_of_getElem? (i := 0) rfl)))) (fun _ h9 => h9) rfl dX8_take_35 ?_
  refine lv_iconst (v := 1) hx hb dX8_take_38 (by decide) ?_
  refine lv_iadd hx hb dX8_take_39 ?_
  refine lv_topi (fun x_12 ex_12 => ?_)
  obtain rfl : x_12 = 6 := ex_12.trans (by first | rfl | decide)
  refine va_put (ci := 8) (v := .int 6) (ty := .int) (C := RX8) (T := TX8) (N := 6) hx hb hts hw8 tyX8 tyX8_ok nmX8 hown hK hP hD hS 0 rfl rfl 1 (by decide) (hts (.fieldLink RX8 15 "SmokeTune$Tape" "length" "I") (List.mem_cons_of_mem _ (List.mem_append_left _ (List.mem_of_getElem? (i := 0) rfl)))) (fun _ h9 => h9) rfl (by decide +kernel) (by first | rfl | decide) (by first | rfl | decide) (Nat.le_of_ble_eq_true rfl) dX8_take_40 (fun H locs hP hD hS => ?_)
  have hP : va_P D vwCl [(a0, .inr (8, [.ref a1, .int 6, g2, g3, g4, g5])), (a1, .inl (K 0, 400, .inl f_11))] H := hP
  have hD : va_D A [(a0, .inr (8, [.ref a1, .int 6, g2, g3, g4, g5])), (a1, .inl (K 0, 400, .inl f_11))] := hD
  refine lv_iinc (v := 8) (lv' := [(2, .int 8), (0, .ref a0), (1, .int x)]) hx hb dX8_take_43 hl (k := 0) rfl (by decide) (by decide) rfl (fun ls hl => ?_)
  refine lv_goto (tgt := 3) hx hb dX8_take_46 (by decide) ?_
  refine lv_iload_n hx hb dX8_take_3 rfl (lv_at hl 0 rfl) ?_
  refine lv_if_lt (tgt := 49) hx hb dX8_take_4 (by decide) (fun c_13 => absurd c_13 (by decide)) (fun c_13 => ?_)
  refine lv_aload_n hx hb dX8_take_7 rfl (lv_at hl 1 rfl) ?_
  refine va_get (ci := 8) (v := .int 6) (C := RX8) (T := TX8) (N := 6) hx hb hts hw8 hown hK hP 0 rfl rfl 1 (by decide) (hts (.fieldLink RX8 15 "SmokeTune$Tape" "length" "I") (List.mem_cons_of_mem _ (List.mem_append_left _ (List.mem_of_getElem? (i := 0) rfl)))) (fun _ h9 => h9) rfl dX8_take_8 ?_
  refine lv_sipush (v := 400) hx hb dX8_take_11 (by decide) ?_
  refine lv_icmp_ge (tgt := 49) hx hb dX8_take_14 (by decide) (fun c_14 => absurd c_14 (by decide)) (fun c_14 => ?_)
  refine lv_aload_n hx hb dX8_take_17 rfl (lv_at hl 1 rfl) ?_
  refine va_get (ci := 8) (v := .ref a1) (C := RX8) (T := TX8) (N := 6) hx hb hts hw8 hown hK hP 0 rfl rfl 0 (by decide) (hts (.fieldLink RX8 11 "SmokeTune$Tape" "bytes" "[I") (List.mem_cons_of_mem _ (List.mem_append_left _ (List.mem_of_getElem? (i := 1) rfl)))) (fun _ h9 => h9) rfl dX8_take_18 ?_
  refine lv_aload_n hx hb dX8_take_21 rfl (lv_at hl 1 rfl) ?_
  refine va_get (ci := 8) (v := .int 6) (C := RX8) (T := TX8) (N := 6) hx hb hts hw8 hown hK hP 0 rfl rfl 1 (by decide) (hts (.fieldLink RX8 15 "SmokeTune$Tape" "length" "I") (List.mem_cons_of_mem _ (List.mem_append_left _ (List.mem_of_getElem? (i := 0) rfl)))) (fun _ h9 => h9) rfl dX8_take_22 ?_
  refine lv_iload_n hx hb dX8_take_25 rfl (lv_at hl 2 rfl) ?_
  refine lv_iload_n hx hb dX8_take_26 rfl (lv_at hl 0 rfl) ?_
  refine lv_ishr hx hb dX8_take_27 ?_
  refine lv_topi (fun x_15 ex_15 => ?_)
  refine lv_sipush (v := 255) hx hb dX8_take_28 (by decide) ?_
  refine lv_iand hx hb dX8_take_31 ?_
  refine lv_topi (fun x_16 ex_16 => ?_)
  refine va_iast hx hb hK hP hD hS 1 0 rfl rfl (i_in (x := 6) rfl (by omega)) dX8_take_32 (fun H locs hP hD hS => ?_)
  generalize hf_17 : (upd f_11 (6 : Int32).toNatClampNeg x_16) = f_17 at hP hD
  have hP : va_P D vwCl [(a0, .inr (8, [.ref a1, .int 6, g2, g3, g4, g5])), (a1, .inl (K 0, 400, .inl f_17))] H := hP
  have hD : va_D A [(a0, .inr (8, [.ref a1, .int 6, g2, g3, g4, g5])), (a1, .inl (K 0, 400, .inl f_17))] := hD
  refine lv_aload_n hx hb dX8_take_33 rfl (lv_at hl 1 rfl) ?_
  refine lv_dup hx hb dX8_take_34 rfl ?_
  refine va_get (ci := 8) (v := .int 6) (C := RX8) (T := TX8) (N := 6) hx hb hts hw8 hown hK hP 0 rfl rfl 1 (by decide) (hts (.fieldLink RX8 15 "SmokeTune$Tape" "length" "I") (List.mem_cons_of_mem _ (List.mem_append_left _ (List.mem_of_getElem? (i := 0) rfl)))) (fun _ h9 => h9) rfl dX8_take_35 ?_
  refine lv_iconst (v := 1) hx hb dX8_take_38 (by decide) ?_
  refine lv_iadd hx hb dX8_take_39 ?_
  refine lv_topi (fun x_18 ex_18 => ?_)
  obtain rfl : x_18 = 7 := ex_18.trans (by first | rfl | decide)
  refine va_put (ci := 8) (v := .int 7) (ty := .int) (C := RX8) (T := TX8) (N := 6) hx hb hts hw8 tyX8 tyX8_ok nmX8 hown hK hP hD hS 0 rfl rfl 1 (by decide) (hts (.fieldLink RX8 15 "SmokeTune$Tape" "length" "I") (List.mem_cons_of_mem _ (List.mem_append_left _ (List.mem_of_getElem? (i := 0) rfl)))) (fun _ h9 => h9) rfl (by decide +kernel) (by first | rfl | decide) (by first | rfl | decide) (Nat.le_of_ble_eq_true rfl) dX8_take_40 (fun H locs hP hD hS => ?_)
  have hP : va_P D vwCl [(a0, .inr (8, [.ref a1, .int 7, g2, g3, g4, g5])), (a1, .inl (K 0, 400, .inl f_17))] H := hP
  have hD : va_D A [(a0, .inr (8, [.ref a1, .int 7, g2, g3, g4, g5])), (a1, .inl (K 0, 400, .inl f_17))] := hD
  refine lv_iinc (v := 0) (lv' := [(2, .int 0), (0, .ref a0), (1, .int x)]) hx hb dX8_take_43 hl (k := 0) rfl (by decide) (by decide) rfl (fun ls hl => ?_)
  refine lv_goto (tgt := 3) hx hb dX8_take_46 (by decide) ?_
  refine lv_iload_n hx hb dX8_take_3 rfl (lv_at hl 0 rfl) ?_
  refine lv_if_lt (tgt := 49) hx hb dX8_take_4 (by decide) (fun c_19 => absurd c_19 (by decide)) (fun c_19 => ?_)
  refine lv_aload_n hx hb dX8_take_7 rfl (lv_at hl 1 rfl) ?_
  refine va_get (ci := 8) (v := .int 7) (C := RX8) (T := TX8) (N := 6) hx hb hts hw8 hown hK hP 0 rfl rfl 1 (by decide) (hts (.fieldLink RX8 15 "SmokeTune$Tape" "length" "I") (List.mem_cons_of_mem _ (List.mem_append_left _ (List.mem_of_getElem? (i := 0) rfl)))) (fun _ h9 => h9) rfl dX8_take_8 ?_
  refine lv_sipush (v := 400) hx hb dX8_take_11 (by decide) ?_
  refine lv_icmp_ge (tgt := 49) hx hb dX8_take_14 (by decide) (fun c_20 => absurd c_20 (by decide)) (fun c_20 => ?_)
  refine lv_aload_n hx hb dX8_take_17 rfl (lv_at hl 1 rfl) ?_
  refine va_get (ci := 8) (v := .ref a1) (C := RX8) (T := TX8) (N := 6) hx hb hts hw8 hown hK hP 0 rfl rfl 0 (by decide) (hts (.fieldLink RX8 11 "SmokeTune$Tape" "bytes" "[I") (List.mem_cons_of_mem _ (List.mem_append_left _ (List.mem_of_getElem? (i := 1) rfl)))) (fun _ h9 => h9) rfl dX8_take_18 ?_
  refine lv_aload_n hx hb dX8_take_21 rfl (lv_at hl 1 rfl) ?_
  refine va_get (ci := 8) (v := .int 7) (C := RX8) (T := TX8) (N := 6) hx hb hts hw8 hown hK hP 0 rfl rfl 1 (by decide) (hts (.fieldLink RX8 15 "SmokeTune$Tape" "length" "I") (List.mem_cons_of_mem _ (List.mem_append_left _ (List.mem_of_getElem? (i := 0) rfl)))) (fun _ h9 => h9) rfl dX8_take_22 ?_
  refine lv_iload_n hx hb dX8_take_25 rfl (lv_at hl 2 rfl) ?_
  refine lv_iload_n hx hb dX8_take_26 rfl (lv_at hl 0 rfl) ?_
  refine lv_ishr hx hb dX8_take_27 ?_
  refine lv_topi (fun x_21 ex_21 => ?_)
  refine lv_sipush (v := 255) hx hb dX8_take_28 (by decide) ?_
  refine lv_iand hx hb dX8_take_31 ?_
  refine lv_topi (fun x_22 ex_22 => ?_)
  refine va_iast hx hb hK hP hD hS 1 0 rfl rfl (i_in (x := 7) rfl (by omega)) dX8_take_32 (fun H locs hP hD hS => ?_)
  generalize hf_23 : (upd f_17 (7 : Int32).toNatClampNeg x_22) = f_23 at hP hD
  have hP : va_P D vwCl [(a0, .inr (8, [.ref a1, .int 7, g2, g3, g4, g5])), (a1, .inl (K 0, 400, .inl f_23))] H := hP
  have hD : va_D A [(a0, .inr (8, [.ref a1, .int 7, g2, g3, g4, g5])), (a1, .inl (K 0, 400, .inl f_23))] := hD
  refine lv_aload_n hx hb dX8_take_33 rfl (lv_at hl 1 rfl) ?_
  refine lv_dup hx hb dX8_take_34 rfl ?_
  refine va_get (ci := 8) (v := .int 7) (C := RX8) (T := TX8) (N := 6) hx hb hts hw8 hown hK hP 0 rfl rfl 1 (by decide) (hts (.fieldLink RX8 15 "SmokeTune$Tape" "length" "I") (List.mem_cons_of_mem _ (List.mem_append_left _ (List.mem_of_getElem? (i := 0) rfl)))) (fun _ h9 => h9) rfl dX8_take_35 ?_
  refine lv_iconst (v := 1) hx hb dX8_take_38 (by decide) ?_
  refine lv_iadd hx hb dX8_take_39 ?_
  refine lv_topi (fun x_24 ex_24 => ?_)
  obtain rfl : x_24 = 8 := ex_24.trans (by first | rfl | decide)
  refine va_put (ci := 8) (v := .int 8) (ty := .int) (C := RX8) (T := TX8) (N := 6) hx hb hts hw8 tyX8 tyX8_ok nmX8 hown hK hP hD hS 0 rfl rfl 1 (by decide) (hts (.fieldLink RX8 15 "SmokeTune$Tape" "length" "I") (List.mem_cons_of_mem _ (List.mem_append_left _ (List.mem_of_getElem? (i := 0) rfl)))) (fun _ h9 => h9) rfl (by decide +kernel) (by first | rfl | decide) (by first | rfl | decide) (Nat.le_of_ble_eq_true rfl) dX8_take_40 (fun H locs hP hD hS => ?_)
  have hP : va_P D vwCl [(a0, .inr (8, [.ref a1, .int 8, g2, g3, g4, g5])), (a1, .inl (K 0, 400, .inl f_23))] H := hP
  have hD : va_D A [(a0, .inr (8, [.ref a1, .int 8, g2, g3, g4, g5])), (a1, .inl (K 0, 400, .inl f_23))] := hD
  refine lv_iinc (v := (-8)) (lv' := [(2, .int (-8)), (0, .ref a0), (1, .int x)]) hx hb dX8_take_43 hl (k := 0) rfl (by decide) (by decide) rfl (fun ls hl => ?_)
  refine lv_goto (tgt := 3) hx hb dX8_take_46 (by decide) ?_
  refine lv_iload_n hx hb dX8_take_3 rfl (lv_at hl 0 rfl) ?_
  refine lv_if_lt (tgt := 49) hx hb dX8_take_4 (by decide) (fun c_25 => ?_) (fun c_25 => absurd (by decide) c_25)
  have hP9 := hP.sub (ws' := [(a0, .inr (8, [.ref a1, .int 8, g2, g3, g4, g5])), (a1, .inl (K 0, 400, .inl f_23))]) [0, 1] rfl
  have hD9 := hD.sub (ws' := [(a0, .inr (8, [.ref a1, .int 8, g2, g3, g4, g5])), (a1, .inl (K 0, 400, .inl f_23))]) [0, 1] (by decide) rfl
  exact W.vret hx hb hr (fun t ht hW => ⟨⟨(fun _ => 0, fun i => match i with | _ => f_23, fun _ => fun _ => 0, fun _ => 0), rfl, trivial, (⟨by rw [ht]; exact hP9, hD9⟩ : Wd D A _ t)⟩, hS.F ht⟩) hS.2.2 dX8_take_49
set_option maxHeartbeats 4000000 in
set_option maxRecDepth 100000 in
theorem c_take_8 (l : Launch) (D : va_G) (K : Nat → ClassId) (a0 : Nat) (x : Int32) (a1 : Nat) (g2 : Value) (g3 : Value) (g4 : Value) (g5 : Value) (f : Nat → Int32) (sz : Nat) : Met l yX8_take wsX8_take ({ frames := 0, cells := 0, slots := 0, locals := 0 }) (va_Pc [.ref a0, .int x] (Pre D K [(a0, .inr (8, [.ref a1, .int 8, g2, g3, g4, g5])), (a1, .inl (K 0, 400, .inl f))] sz)) (va_Qv (S := (Nat → Nat) × (Nat → Nat → Int32) × (Nat → Nat → Int64) × (Nat → Int32)) (fun _ => True) (fun u t => Wd D (va_A [(a0, .inr (8, [.ref a1, .int 8, g2, g3, g4, g5])), (a1, .inl (K 0, 400, .inl f))] sz) ((fun u => [(a0, .inr (8, [.ref a1, .int 12, g2, g3, g4, g5])), (a1, .inl (K 0, 400, .inl ((u.2.1 0))))]) u) t) (va_A [(a0, .inr (8, [.ref a1, .int 8, g2, g3, g4, g5])), (a1, .inl (K 0, 400, .inl f))] sz)) 0 0 (va_A [(a0, .inr (8, [.ref a1, .int 8, g2, g3, g4, g5])), (a1, .inl (K 0, 400, .inl f))] sz) := by
  refine Met.ofW (cc := cX8_take) (maxL := 3) (ret := none) (by decide) rfl ?_
  intro p e s m args below meth c s₁ B hml hv
  obtain ⟨rfl, hsz, hP, hK, hD0, hN⟩ := hv
  have hx := B.exec
  have hb := B.bytes
  have hr := B.returns
  have hts := atoms_spec (ws := wsX8_take) B.pre
  have hown : s.vm.findClass RX8 = some m.cls := findClass_of_methodNamed B.named
  have hlocks := B.notSynchronized
  subst hsz
  have hD := hD0.self (sz := s.heap.size)
  generalize hAe : va_A [(a0, .inr (8, [.ref a1, .int 8, g2, g3, g4, g5])), (a1, .inl (K 0, 400, .inl f))] s.heap.size = A at hD ⊢
  have hA : ∀ q : Nat, s.heap.size ≤ q → A q := fun q h => by rw [← hAe]; exact Or.inr h
  have hS : va_S A s.heap s.heap [] := va_S.rf
  have hP : va_P D vwCl [(a0, .inr (8, [.ref a1, .int 8, g2, g3, g4, g5])), (a1, .inl (K 0, 400, .inl f))] s.heap := hP
  have hl := lv_entry [.ref a0, .int x] (n := 3) (Nat.le_of_ble_eq_true rfl)
  rw [lg_entry_eq]
  generalize (lg_sl [.ref a0, .int x] ++ List.replicate (3 - (lg_sl [.ref a0, .int x]).length) Slot.unset).toArray = ls at hl ⊢
  have hl : lv_has ls 3 [(0, .ref a0), (1, .int x)] := hl
  have hw8 : ∀ w ∈ wsX80, w ∈ wsX8_take := fun w h => (List.mem_cons_of_mem _ (List.mem_append_right _ h))
  refine lv_bipush (v := 24) hx hb dX8_take_0 (by decide) ?_
  refine lv_istore_n (lv' := [(2, .int 24), (0, .ref a0), (1, .int x)]) hx hb dX8_take_2 rfl hl (by decide) rfl (fun ls hl => ?_)
  refine lv_iload_n hx hb dX8_take_3 rfl (lv_at hl 0 rfl) ?_
  refine lv_if_lt (tgt := 49) hx hb dX8_take_4 (by decide) (fun c_1 => absurd c_1 (by decide)) (fun c_1 => ?_)
  refine lv_aload_n hx hb dX8_take_7 rfl (lv_at hl 1 rfl) ?_
  refine va_get (ci := 8) (v := .int 8) (C := RX8) (T := TX8) (N := 6) hx hb hts hw8 hown hK hP 0 rfl rfl 1 (by decide) (hts (.fieldLink RX8 15 "SmokeTune$Tape" "length" "I") (List.mem_cons_of_mem _ (List.mem_append_left _ (List.mem_of_getElem? (i := 0) rfl)))) (fun _ h9 => h9) rfl dX8_take_8 ?_
  refine lv_sipush (v := 400) hx hb dX8_take_11 (by decide) ?_
  refine lv_icmp_ge (tgt := 49) hx hb dX8_take_14 (by decide) (fun c_2 => absurd c_2 (by decide)) (fun c_2 => ?_)
  refine lv_aload_n hx hb dX8_take_17 rfl (lv_at hl 1 rfl) ?_
  refine va_get (ci := 8) (v := .ref a1) (C := RX8) (T := TX8) (N := 6) hx hb hts hw8 hown hK hP 0 rfl rfl 0 (by decide) (hts (.fieldLink RX8 11 "SmokeTune$Tape" "bytes" "[I") (List.mem_cons_of_mem _ (List.mem_append_left _ (List.mem_of_getElem? (i := 1) rfl)))) (fun _ h9 => h9) rfl dX8_take_18 ?_
  refine lv_aload_n hx hb dX8_take_21 rfl (lv_at hl 1 rfl) ?_
  refine va_get (ci := 8) (v := .int 8) (C := RX8) (T := TX8) (N := 6) hx hb hts hw8 hown hK hP 0 rfl rfl 1 (by decide) (hts (.fieldLink RX8 15 "SmokeTune$Tape" "length" "I") (List.mem_cons_of_mem _ (List.mem_append_left _ (List.mem_of_getElem? (i := 0) rfl)))) (fun _ h9 => h9) rfl dX8_take_22 ?_
  refine lv_iload_n hx hb dX8_take_25 rfl (lv_at hl 2 rfl) ?_
  refine lv_iload_n hx hb dX8_take_26 rfl (lv_at hl 0 rfl) ?_
  refine lv_ishr hx hb dX8_take_27 ?_
  refine lv_topi (fun x_3 ex_3 => ?_)
  refine lv_sipush (v := 255) hx hb dX8_take_28 (by decide) ?_
  refine lv_iand hx hb dX8_take_31 ?_
  refine lv_topi (fun x_4 ex_4 => ?_)
  refine va_iast hx hb hK hP hD hS 1 0 rfl rfl (i_in (x := 8) rfl (by omega)) dX8_take_32 (fun H locs hP hD hS => ?_)
  generalize hf_5 : (upd f (8 : Int32).toNatClampNeg x_4) = f_5 at hP hD
  have hP : va_P D vwCl [(a0, .inr (8, [.ref a1, .int 8, g2, g3, g4, g5])), (a1, .inl (K 0, 400, .inl f_5))] H := hP
  have hD : va_D A [(a0, .inr (8, [.ref a1, .int 8, g2, g3, g4, g5])), (a1, .inl (K 0, 400, .inl f_5))] := hD
  refine lv_aload_n hx hb dX8_take_33 rfl (lv_at hl 1 rfl) ?_
  refine lv_dup hx hb dX8_take_34 rfl ?_
  refine va_get (ci := 8) (v := .int 8) (C := RX8) (T := TX8) (N := 6) hx hb hts hw8 hown hK hP 0 rfl rfl 1 (by decide) (hts (.fieldLink RX8 15 "SmokeTune$Tape" "length" "I") (List.mem_cons_of_mem _ (List.mem_append_left _ (List.mem_of_getElem? (i := 0) rfl)))) (fun _ h9 => h9) rfl dX8_take_35 ?_
  refine lv_iconst (v := 1) hx hb dX8_take_38 (by decide) ?_
  refine lv_iadd hx hb dX8_take_39 ?_
  refine lv_topi (fun x_6 ex_6 => ?_)
  obtain rfl : x_6 = 9 := ex_6.trans (by first | rfl | decide)
  refine va_put (ci := 8) (v := .int 9) (ty := .int) (C := RX8) (T := TX8) (N := 6) hx hb hts hw8 tyX8 tyX8_ok nmX8 hown hK hP hD hS 0 rfl rfl 1 (by decide) (hts (.fieldLink RX8 15 "SmokeTune$Tape" "length" "I") (List.mem_cons_of_mem _ (List.mem_append_left _ (List.mem_of_getElem? (i := 0) rfl)))) (fun _ h9 => h9) rfl (by decide +kernel) (by first | rfl | decide) (by first | rfl | decide) (Nat.le_of_ble_eq_true rfl) dX8_take_40 (fun H locs hP hD hS => ?_)
  have hP : va_P D vwCl [(a0, .inr (8, [.ref a1, .int 9, g2, g3, g4, g5])), (a1, .inl (K 0, 400, .inl f_5))] H := hP
  have hD : va_D A [(a0, .inr (8, [.ref a1, .int 9, g2, g3, g4, g5])), (a1, .inl (K 0, 400, .inl f_5))] := hD
  refine lv_iinc (v := 16) (lv' := [(2, .int 16), (0, .ref a0), (1, .int x)]) hx hb dX8_take_43 hl (k := 0) rfl (by decide) (by decide) rfl (fun ls hl => ?_)
  refine lv_goto (tgt := 3) hx hb dX8_take_46 (by decide) ?_
  refine lv_iload_n hx hb dX8_take_3 rfl (lv_at hl 0 rfl) ?_
  refine lv_if_lt (tgt := 49) hx hb dX8_take_4 (by decide) (fun c_7 => absurd c_7 (by decide)) (fun c_7 => ?_)
  refine lv_aload_n hx hb dX8_take_7 rfl (lv_at hl 1 rfl) ?_
  refine va_get (ci := 8) (v := .int 9) (C := RX8) (T := TX8) (N := 6) hx hb hts hw8 hown hK hP 0 rfl rfl 1 (by decide) (hts (.fieldLink RX8 15 "SmokeTune$Tape" "length" "I") (List.mem_cons_of_mem _ (List.mem_append_left _ (List.mem_of_getElem? (i := 0) rfl)))) (fun _ h9 => h9) rfl dX8_take_8 ?_
  refine lv_sipush (v := 400) hx hb dX8_take_11 (by decide) ?_
  refine lv_icmp_ge (tgt := 49) hx hb dX8_take_14 (by decide) (fun c_8 => absurd c_8 (by decide)) (fun c_8 => ?_)
  refine lv_aload_n hx hb dX8_take_17 rfl (lv_at hl 1 rfl) ?_
  refine va_get (ci := 8) (v := .ref a1) (C := RX8) (T := TX8) (N := 6) hx hb hts hw8 hown hK hP 0 rfl rfl 0 (by decide) (hts (.fieldLink RX8 11 "SmokeTune$Tape" "bytes" "[I") (List.mem_cons_of_mem _ (List.mem_append_left _ (List.mem_of_getElem? (i := 1) rfl)))) (fun _ h9 => h9) rfl dX8_take_18 ?_
  refine lv_aload_n hx hb dX8_take_21 rfl (lv_at hl 1 rfl) ?_
  refine va_get (ci := 8) (v := .int 9) (C := RX8) (T := TX8) (N := 6) hx hb hts hw8 hown hK hP 0 rfl rfl 1 (by decide) (hts (.fieldLink RX8 15 "SmokeTune$Tape" "length" "I") (List.mem_cons_of_mem _ (List.mem_append_left _ (List.mem_of_getElem? (i := 0) rfl)))) (fun _ h9 => h9) rfl dX8_take_22 ?_
  refine lv_iload_n hx hb dX8_take_25 rfl (lv_at hl 2 rfl) ?_
  refine lv_iload_n hx hb dX8_take_26 rfl (lv_at hl 0 rfl) ?_
  refine lv_ishr hx hb dX8_take_27 ?_
  refine lv_topi (fun x_9 ex_9 => ?_)
  refine lv_sipush (v := 255) hx hb dX8_take_28 (by decide) ?_
  refine lv_iand hx hb dX8_take_31 ?_
  refine lv_topi (fun x_10 ex_10 => ?_)
  refine va_iast hx hb hK hP hD hS 1 0 rfl rfl (i_in (x := 9) rfl (by omega)) dX8_take_32 (fun H locs hP hD hS => ?_)
  generalize hf_11 : (upd f_5 (9 : Int32).toNatClampNeg x_10) = f_11 at hP hD
  have hP : va_P D vwCl [(a0, .inr (8, [.ref a1, .int 9, g2, g3, g4, g5])), (a1, .inl (K 0, 400, .inl f_11))] H := hP
  have hD : va_D A [(a0, .inr (8, [.ref a1, .int 9, g2, g3, g4, g5])), (a1, .inl (K 0, 400, .inl f_11))] := hD
  refine lv_aload_n hx hb dX8_take_33 rfl (lv_at hl 1 rfl) ?_
  refine lv_dup hx hb dX8_take_34 rfl ?_
  refine va_get (ci := 8) (v := .int 9) (C := RX8) (T := TX8) (N := 6) hx hb hts hw8 hown hK hP 0 rfl rfl 1 (by decide) (hts (.fieldLink RX8 15 "SmokeTune$Tape" "length" "I") (List.mem_cons_of_mem _ (List.mem_append_left _ (List.mem_of_getElem? (i := 0) rfl)))) (fun _ h9 => h9) rfl dX8_take_35 ?_
  refine lv_iconst (v := 1) hx hb dX8_take_38 (by decide) ?_
  refine lv_iadd hx hb dX8_take_39 ?_
  refine lv_topi (fun x_12 ex_12 => ?_)
  obtain rfl : x_12 = 10 := ex_12.trans (by first | rfl | decide)
  refine va_put (ci := 8) (v := .int 10) (ty := .int) (C := RX8) (T := TX8) (N := 6) hx hb hts hw8 tyX8 tyX8_ok nmX8 hown hK hP hD hS 0 rfl rfl 1 (by decide) (hts (.fieldLink RX8 15 "SmokeTune$Tape" "length" "I") (List.mem_cons_of_mem _ (List.mem_append_left _ (List.mem_of_getElem? (i := 0) rfl)))) (fun _ h9 => h9) rfl (by decide +kernel) (by first | rfl | decide) (by first | rfl | decide) (Nat.le_of_ble_eq_true rfl) dX8_take_40 (fun H locs hP hD hS => ?_)
  have hP : va_P D vwCl [(a0, .inr (8, [.ref a1, .int 10, g2, g3, g4, g5])), (a1, .inl (K 0, 400, .inl f_11))] H := hP
  have hD : va_D A [(a0, .inr (8, [.ref a1, .int 10, g2, g3, g4, g5])), (a1, .inl (K 0, 400, .inl f_11))] := hD
  refine lv_iinc (v := 8) (lv' := [(2, .int 8), (0, .ref a0), (1, .int x)]) hx hb dX8_take_43 hl (k := 0) rfl (by decide) (by decide) rfl (fun ls hl => ?_)
  refine lv_goto (tgt := 3) hx hb dX8_take_46 (by decide) ?_
  refine lv_iload_n hx hb dX8_take_3 rfl (lv_at hl 0 rfl) ?_
  refine lv_if_lt (tgt := 49) hx hb dX8_take_4 (by decide) (fun c_13 => absurd c_13 (by decide)) (fun c_13 => ?_)
  refine lv_aload_n hx hb dX8_take_7 rfl (lv_at hl 1 rfl) ?_
  refine va_get (ci := 8) (v := .int 10) (C := RX8) (T := TX8) (N := 6) hx hb hts hw8 hown hK hP 0 rfl rfl 1 (by decide) (hts (.fieldLink RX8 15 "SmokeTune$Tape" "length" "I") (List.mem_cons_of_mem _ (List.mem_append_left _ (List.mem_of_getElem? (i := 0) rfl)))) (fun _ h9 => h9) rfl dX8_take_8 ?_
  refine lv_sipush (v := 400) hx hb dX8_take_11 (by decide) ?_
  refine lv_icmp_ge (tgt := 49) hx hb dX8_take_14 (by decide) (fun c_14 => absurd c_14 (by decide)) (fun c_14 => ?_)
  refine lv_aload_n hx hb dX8_take_17 rfl (lv_at hl 1 rfl) ?_
  refine va_get (ci := 8) (v := .ref a1) (C := RX8) (T := TX8) (N := 6) hx hb hts hw8 hown hK hP 0 rfl rfl 0 (by decide) (hts (.fieldLink RX8 11 "SmokeTune$Tape" "bytes" "[I") (List.mem_cons_of_mem _ (List.mem_append_left _ (List.mem_of_getElem? (i := 1) rfl)))) (fun _ h9 => h9) rfl dX8_take_18 ?_
  refine lv_aload_n hx hb dX8_take_21 rfl (lv_at hl 1 rfl) ?_
  refine va_get (ci := 8) (v := .int 10) (C := RX8) (T := TX8) (N := 6) hx hb hts hw8 hown hK hP 0 rfl rfl 1 (by decide) (hts (.fieldLink RX8 15 "SmokeTune$Tape" "length" "I") (List.mem_cons_of_mem _ (List.mem_append_left _ (List.mem_of_getElem? (i := 0) rfl)))) (fun _ h9 => h9) rfl dX8_take_22 ?_
  refine lv_iload_n hx hb dX8_take_25 rfl (lv_at hl 2 rfl) ?_
  refine lv_iload_n hx hb dX8_take_26 rfl (lv_at hl 0 rfl) ?_
  refine lv_ishr hx hb dX8_take_27 ?_
  refine lv_topi (fun x_15 ex_15 => ?_)
  refine lv_sipush (v := 255) hx hb dX8_take_28 (by decide) ?_
  refine lv_iand hx hb dX8_take_31 ?_
  refine lv_topi (fun x_16 ex_16 => ?_)
  refine va_iast hx hb hK hP hD hS 1 0 rfl rfl (i_in (x := 10) rfl (by omega)) dX8_take_32 (fun H locs hP hD hS => ?_)
  generalize hf_17 : (upd f_11 (10 : Int32).toNatClampNeg x_16) = f_17 at hP hD
  have hP : va_P D vwCl [(a0, .inr (8, [.ref a1, .int 10, g2, g3, g4, g5])), (a1, .inl (K 0, 400, .inl f_17))] H := hP
  have hD : va_D A [(a0, .inr (8, [.ref a1, .int 10, g2, g3, g4, g5])), (a1, .inl (K 0, 400, .inl f_17))] := hD
  refine lv_aload_n hx hb dX8_take_33 rfl (lv_at hl 1 rfl) ?_
  refine lv_dup hx hb dX8_take_34 rfl ?_
  refine va_get (ci := 8) (v := .int 10) (C := RX8) (T := TX8) (N := 6) hx hb hts hw8 hown hK hP 0 rfl rfl 1 (by decide) (hts (.fieldLink RX8 15 "SmokeTune$Tape" "length" "I") (List.mem_cons_of_mem _ (List.mem_append_left _ (List.mem_of_getElem? (i := 0) rfl)))) (fun _ h9 => h9) rfl dX8_take_35 ?_
  refine lv_iconst (v := 1) hx hb dX8_take_38 (by decide) ?_
  refine lv_iadd hx hb dX8_take_39 ?_
  refine lv_topi (fun x_18 ex_18 => ?_)
  obtain rfl : x_18 = 11 := ex_18.trans (by first | rfl | decide)
  refine va_put (ci := 8) (v := .int 11) (ty := .int) (C := RX8) (T := TX8) (N := 6) hx hb hts hw8 tyX8 tyX8_ok nmX8 hown hK hP hD hS 0 rfl rfl 1 (by decide) (hts (.fieldLink RX8 15 "SmokeTune$Tape" "length" "I") (List.mem_cons_of_mem _ (List.mem_append_left _ (List.mem_of_getElem? (i := 0) rfl)))) (fun _ h9 => h9) rfl (by decide +kernel) (by first | rfl | decide) (by first | rfl | decide) (Nat.le_of_ble_eq_true rfl) dX8_take_40 (fun H locs hP hD hS => ?_)
  have hP : va_P D vwCl [(a0, .inr (8, [.ref a1, .int 11, g2, g3, g4, g5])), (a1, .inl (K 0, 400, .inl f_17))] H := hP
  have hD : va_D A [(a0, .inr (8, [.ref a1, .int 11, g2, g3, g4, g5])), (a1, .inl (K 0, 400, .inl f_17))] := hD
  refine lv_iinc (v := 0) (lv' := [(2, .int 0), (0, .ref a0), (1, .int x)]) hx hb dX8_take_43 hl (k := 0) rfl (by decide) (by decide) rfl (fun ls hl => ?_)
  refine lv_goto (tgt := 3) hx hb dX8_take_46 (by decide) ?_
  refine lv_iload_n hx hb dX8_take_3 rfl (lv_at hl 0 rfl) ?_
  refine lv_if_lt (tgt := 49) hx hb dX8_take_4 (by decide) (fun c_19 => absurd c_19 (by decide)) (fun c_19 => ?_)
  refine lv_aload_n hx hb dX8_take_7 rfl (lv_at hl 1 rfl) ?_
  refine va_get (ci := 8) (v := .int 11) (C := RX8) (T := TX8) (N := 6) hx hb hts hw8 hown hK hP 0 rfl rfl 1 (by decide) (hts (.fieldLink RX8 15 "SmokeTune$Tape" "length" "I") (List.mem_cons_of_mem _ (List.mem_append_left _ (List.mem_of_getElem? (i := 0) rfl)))) (fun _ h9 => h9) rfl dX8_take_8 ?_
  refine lv_sipush (v := 400) hx hb dX8_take_11 (by decide) ?_
  refine lv_icmp_ge (tgt := 49) hx hb dX8_take_14 (by decide) (fun c_20 => absurd c_20 (by decide)) (fun c_20 => ?_)
  refine lv_aload_n hx hb dX8_take_17 rfl (lv_at hl 1 rfl) ?_
  refine va_get (ci := 8) (v := .ref a1) (C := RX8) (T := TX8) (N := 6) hx hb hts hw8 hown hK hP 0 rfl rfl 0 (by decide) (hts (.fieldLink RX8 11 "SmokeTune$Tape" "bytes" "[I") (List.mem_cons_of_mem _ (List.mem_append_left _ (List.mem_of_getElem? (i := 1) rfl)))) (fun _ h9 => h9) rfl dX8_take_18 ?_
  refine lv_aload_n hx hb dX8_take_21 rfl (lv_at hl 1 rfl) ?_
  refine va_get (ci := 8) (v := .int 11) (C := RX8) (T := TX8) (N := 6) hx hb hts hw8 hown hK hP 0 rfl rfl 1 (by decide) (hts (.fieldLink RX8 15 "SmokeTune$Tape" "length" "I") (List.mem_cons_of_mem _ (List.mem_append_left _ (List.mem_of_getElem? (i := 0) rfl)))) (fun _ h9 => h9) rfl dX8_take_22 ?_
  refine lv_iload_n hx hb dX8_take_25 rfl (lv_at hl 2 rfl) ?_
  refine lv_iload_n hx hb dX8_take_26 rfl (lv_at hl 0 rfl) ?_
  refine lv_ishr hx hb dX8_take_27 ?_
  refine lv_topi (fun x_21 ex_21 => ?_)
  refine lv_sipush (v := 255) hx hb dX8_take_28 (by decide) ?_
  refine lv_iand hx hb dX8_take_31 ?_
  refine lv_topi (fun x_22 ex_22 => ?_)
  refine va_iast hx hb hK hP hD hS 1 0 rfl rfl (i_in (x := 11) rfl (by omega)) dX8_take_32 (fun H locs hP hD hS => ?_)
  generalize hf_23 : (upd f_17 (11 : Int32).toNatClampNeg x_22) = f_23 at hP hD
  have hP : va_P D vwCl [(a0, .inr (8, [.ref a1, .int 11, g2, g3, g4, g5])), (a1, .inl (K 0, 400, .inl f_23))] H := hP
  have hD : va_D A [(a0, .inr (8, [.ref a1, .int 11, g2, g3, g4, g5])), (a1, .inl (K 0, 400, .inl f_23))] := hD
  refine lv_aload_n hx hb dX8_take_33 rfl (lv_at hl 1 rfl) ?_
  refine lv_dup hx hb dX8_take_34 rfl ?_
  refine va_get (ci := 8) (v := .int 11) (C := RX8) (T := TX8) (N := 6) hx hb hts hw8 hown hK hP 0 rfl rfl 1 (by decide) (hts (.fieldLink RX8 15 "SmokeTune$Tape" "length" "I") (List.mem_cons_of_mem _ (List.mem_append_left _ (List.mem_of_getElem? (i := 0) rfl)))) (fun _ h9 => h9) rfl dX8_take_35 ?_
  refine lv_iconst (v := 1) hx hb dX8_take_38 (by decide) ?_
  refine lv_iadd hx hb dX8_take_39 ?_
  refine lv_topi (fun x_24 ex_24 => ?_)
  obtain rfl : x_24 = 12 := ex_24.trans (by first | rfl | decide)
  refine va_put (ci := 8) (v := .int 12) (ty := .int) (C := RX8) (T := TX8) (N := 6) hx hb hts hw8 tyX8 tyX8_ok nmX8 hown hK hP hD hS 0 rfl rfl 1 (by decide) (hts (.fieldLink RX8 15 "SmokeTune$Tape" "length" "I") (List.mem_cons_of_mem _ (List.mem_append_left _ (List.mem_of_getElem? (i := 0) rfl)))) (fun _ h9 => h9) rfl (by decide +kernel) (by first | rfl | decide) (by first | rfl | decide) (Nat.le_of_ble_eq_true rfl) dX8_take_40 (fun H locs hP hD hS => ?_)
  have hP : va_P D vwCl [(a0, .inr (8, [.ref a1, .int 12, g2, g3, g4, g5])), (a1, .inl (K 0, 400, .inl f_23))] H := hP
  have hD : va_D A [(a0, .inr (8, [.ref a1, .int 12, g2, g3, g4, g5])), (a1, .inl (K 0, 400, .inl f_23))] := hD
  refine lv_iinc (v := (-8)) (lv' := [(2, .int (-8)), (0, .ref a0), (1, .int x)]) hx hb dX8_take_43 hl (k := 0) rfl (by decide) (by decide) rfl (fun ls hl => ?_)
  refine lv_goto (tgt := 3) hx hb dX8_take_46 (by decide) ?_
  refine lv_iload_n hx hb dX8_take_3 rfl (lv_at hl 0 rfl) ?_
  refine lv_if_lt (tgt := 49) hx hb dX8_take_4 (by decide) (fun c_25 => ?_) (fun c_25 => absurd (by decide) c_25)
  have hP9 := hP.sub (ws' := [(a0, .inr (8, [.ref a1, .int 12, g2, g3, g4, g5])), (a1, .inl (K 0, 400, .inl f_23))]) [0, 1] rfl
  have hD9 := hD.sub (ws' := [(a0, .inr (8, [.ref a1, .int 12, g2, g3, g4, g5])), (a1, .inl (K 0, 400, .inl f_23))]) [0, 1] (by decide) rfl
  exact W.vret hx hb hr (fun t ht hW => ⟨⟨(fun _ => 0, fun i => match i with | _ => f_23, fun _ => fun _ => 0, fun _ => 0), rfl, trivial, (⟨by rw [ht]; exact hP9, hD9⟩ : Wd D A _ t)⟩, hS.F ht⟩) hS.2.2 dX8_take_49
set_option maxHeartbeats 4000000 in
set_option maxRecDepth 100000 in
theorem c_take_12 (l : Launch) (D : va_G) (K : Nat → ClassId) (a0 : Nat) (x : Int32) (a1 : Nat) (g2 : Value) (g3 : Value) (g4 : Value) (g5 : Value) (f : Nat → Int32) (sz : Nat) : Met l yX8_take wsX8_take ({ frames := 0, cells := 0, slots := 0, locals := 0 }) (va_Pc [.ref a0, .int x] (Pre D K [(a0, .inr (8, [.ref a1, .int 12, g2, g3, g4, g5])), (a1, .inl (K 0, 400, .inl f))] sz)) (va_Qv (S := (Nat → Nat) × (Nat → Nat → Int32) × (Nat → Nat → Int64) × (Nat → Int32)) (fun _ => True) (fun u t => Wd D (va_A [(a0, .inr (8, [.ref a1, .int 12, g2, g3, g4, g5])), (a1, .inl (K 0, 400, .inl f))] sz) ((fun u => [(a0, .inr (8, [.ref a1, .int 16, g2, g3, g4, g5])), (a1, .inl (K 0, 400, .inl ((u.2.1 0))))]) u) t) (va_A [(a0, .inr (8, [.ref a1, .int 12, g2, g3, g4, g5])), (a1, .inl (K 0, 400, .inl f))] sz)) 0 0 (va_A [(a0, .inr (8, [.ref a1, .int 12, g2, g3, g4, g5])), (a1, .inl (K 0, 400, .inl f))] sz) := by
  refine Met.ofW (cc := cX8_take) (maxL := 3) (ret := none) (by decide) rfl ?_
  intro p e s m args below meth c s₁ B hml hv
  obtain ⟨rfl, hsz, hP, hK, hD0, hN⟩ := hv
  have hx := B.exec
  have hb := B.bytes
  have hr := B.returns
  have hts := atoms_spec (ws := wsX8_take) B.pre
  have hown : s.vm.findClass RX8 = some m.cls := findClass_of_methodNamed B.named
  have hlocks := B.notSynchronized
  subst hsz
  have hD := hD0.self (sz := s.heap.size)
  generalize hAe : va_A [(a0, .inr (8, [.ref a1, .int 12, g2, g3, g4, g5])), (a1, .inl (K 0, 400, .inl f))] s.heap.size = A at hD ⊢
  have hA : ∀ q : Nat, s.heap.size ≤ q → A q := fun q h => by rw [← hAe]; exact Or.inr h
  have hS : va_S A s.heap s.heap [] := va_S.rf
  have hP : va_P D vwCl [(a0, .inr (8, [.ref a1, .int 12, g2, g3, g4, g5])), (a1, .inl (K 0, 400, .inl f))] s.heap := hP
  have hl := lv_entry [.ref a0, .int x] (n := 3) (Nat.le_of_ble_eq_true rfl)
  rw [lg_entry_eq]
  generalize (lg_sl [.ref a0, .int x] ++ List.replicate (3 - (lg_sl [.ref a0, .int x]).length) Slot.unset).toArray = ls at hl ⊢
  have hl : lv_has ls 3 [(0, .ref a0), (1, .int x)] := hl
  have hw8 : ∀ w ∈ wsX80, w ∈ wsX8_take := fun w h => (List.mem_cons_of_mem _ (List.mem_append_right _ h))
  refine lv_bipush (v := 24) hx hb dX8_take_0 (by decide) ?_
  refine lv_istore_n (lv' := [(2, .int 24), (0, .ref a0), (1, .int x)]) hx hb dX8_take_2 rfl hl (by decide) rfl (fun ls hl => ?_)
  refine lv_iload_n hx hb dX8_take_3 rfl (lv_at hl 0 rfl) ?_
  refine lv_if_lt (tgt := 49) hx hb dX8_take_4 (by decide) (fun c_1 => absurd c_1 (by decide)) (fun c_1 => ?_)
  refine lv_aload_n hx hb dX8_take_7 rfl (lv_at hl 1 rfl) ?_
  refine va_get (ci := 8) (v := .int 12) (C := RX8) (T := TX8) (N := 6) hx hb hts hw8 hown hK hP 0 rfl rfl 1 (by decide) (hts (.fieldLink RX8 15 "SmokeTune$Tape" "length" "I") (List.mem_cons_of_mem _ (List.mem_append_left _ (List.mem_of_getElem? (i := 0) rfl)))) (fun _ h9 => h9) rfl dX8_take_8 ?_
  refine lv_sipush (v := 400) hx hb dX8_take_11 (by decide) ?_
  refine lv_icmp_ge (tgt := 49) hx hb dX8_take_14 (by decide) (fun c_2 => absurd c_2 (by decide)) (fun c_2 => ?_)
  refine lv_aload_n hx hb dX8_take_17 rfl (lv_at hl 1 rfl) ?_
  refine va_get (ci := 8) (v := .ref a1) (C := RX8) (T := TX8) (N := 6) hx hb hts hw8 hown hK hP 0 rfl rfl 0 (by decide) (hts (.fieldLink RX8 11 "SmokeTune$Tape" "bytes" "[I") (List.mem_cons_of_mem _ (List.mem_append_left _ (List.mem_of_getElem? (i := 1) rfl)))) (fun _ h9 => h9) rfl dX8_take_18 ?_
  refine lv_aload_n hx hb dX8_take_21 rfl (lv_at hl 1 rfl) ?_
  refine va_get (ci := 8) (v := .int 12) (C := RX8) (T := TX8) (N := 6) hx hb hts hw8 hown hK hP 0 rfl rfl 1 (by decide) (hts (.fieldLink RX8 15 "SmokeTune$Tape" "length" "I") (List.mem_cons_of_mem _ (List.mem_append_left _ (List.mem_of_getElem? (i := 0) rfl)))) (fun _ h9 => h9) rfl dX8_take_22 ?_
  refine lv_iload_n hx hb dX8_take_25 rfl (lv_at hl 2 rfl) ?_
  refine lv_iload_n hx hb dX8_take_26 rfl (lv_at hl 0 rfl) ?_
  refine lv_ishr hx hb dX8_take_27 ?_
  refine lv_topi (fun x_3 ex_3 => ?_)
  refine lv_sipush (v := 255) hx hb dX8_take_28 (by decide) ?_
  refine lv_iand hx hb dX8_take_31 ?_
  refine lv_topi (fun x_4 ex_4 => ?_)
  refine va_iast hx hb hK hP hD hS 1 0 rfl rfl (i_in (x := 12) rfl (by omega)) dX8_take_32 (fun H locs hP hD hS => ?_)
  generalize hf_5 : (upd f (12 : Int32).toNatClampNeg x_4) = f_5 at hP hD
  have hP : va_P D vwCl [(a0, .inr (8, [.ref a1, .int 12, g2, g3, g4, g5])), (a1, .inl (K 0, 400, .inl f_5))] H := hP
  have hD : va_D A [(a0, .inr (8, [.ref a1, .int 12, g2, g3, g4, g5])), (a1, .inl (K 0, 400, .inl f_5))] := hD
  refine lv_aload_n hx hb dX8_take_33 rfl (lv_at hl 1 rfl) ?_
  refine lv_dup hx hb dX8_take_34 rfl ?_
  refine va_get (ci := 8) (v := .int 12) (C := RX8) (T := TX8) (N := 6) hx hb hts hw8 hown hK hP 0 rfl rfl 1 (by decide) (hts (.fieldLink RX8 15 "SmokeTune$Tape" "length" "I") (List.mem_cons_of_mem _ (List.mem_append_left _ (List.mem_of_getElem? (i := 0) rfl)))) (fun _ h9 => h9) rfl dX8_take_35 ?_
  refine lv_iconst (v := 1) hx hb dX8_take_38 (by decide) ?_
  refine lv_iadd hx hb dX8_take_39 ?_
  refine lv_topi (fun x_6 ex_6 => ?_)
  obtain rfl : x_6 = 13 := ex_6.trans (by first | rfl | decide)
  refine va_put (ci := 8) (v := .int 13) (ty := .int) (C := RX8) (T := TX8) (N := 6) hx hb hts hw8 tyX8 tyX8_ok nmX8 hown hK hP hD hS 0 rfl rfl 1 (by decide) (hts (.fieldLink RX8 15 "SmokeTune$Tape" "length" "I") (List.mem_cons_of_mem _ (List.mem_append_left _ (List.mem_of_getElem? (i := 0) rfl)))) (fun _ h9 => h9) rfl (by decide +kernel) (by first | rfl | decide) (by first | rfl | decide) (Nat.le_of_ble_eq_true rfl) dX8_take_40 (fun H locs hP hD hS => ?_)
  have hP : va_P D vwCl [(a0, .inr (8, [.ref a1, .int 13, g2, g3, g4, g5])), (a1, .inl (K 0, 400, .inl f_5))] H := hP
  have hD : va_D A [(a0, .inr (8, [.ref a1, .int 13, g2, g3, g4, g5])), (a1, .inl (K 0, 400, .inl f_5))] := hD
  refine lv_iinc (v := 16) (lv' := [(2, .int 16), (0, .ref a0), (1, .int x)]) hx hb dX8_take_43 hl (k := 0) rfl (by decide) (by decide) rfl (fun ls hl => ?_)
  refine lv_goto (tgt := 3) hx hb dX8_take_46 (by decide) ?_
  refine lv_iload_n hx hb dX8_take_3 rfl (lv_at hl 0 rfl) ?_
  refine lv_if_lt (tgt := 49) hx hb dX8_take_4 (by decide) (fun c_7 => absurd c_7 (by decide)) (fun c_7 => ?_)
  refine lv_aload_n hx hb dX8_take_7 rfl (lv_at hl 1 rfl) ?_
  refine va_get (ci := 8) (v := .int 13) (C := RX8) (T := TX8) (N := 6) hx hb hts hw8 hown hK hP 0 rfl rfl 1 (by decide) (hts (.fieldLink RX8 15 "SmokeTune$Tape" "length" "I") (List.mem_cons_of_mem _ (List.mem_append_left _ (List.mem_of_getElem? (i := 0) rfl)))) (fun _ h9 => h9) rfl dX8_take_8 ?_
  refine lv_sipush (v := 400) hx hb dX8_take_11 (by decide) ?_
  refine lv_icmp_ge (tgt := 49) hx hb dX8_take_14 (by decide) (fun c_8 => absurd c_8 (by decide)) (fun c_8 => ?_)
  refine lv_aload_n hx hb dX8_take_17 rfl (lv_at hl 1 rfl) ?_
  refine va_get (ci := 8) (v := .ref a1) (C := RX8) (T := TX8) (N := 6) hx hb hts hw8 hown hK hP 0 rfl rfl 0 (by decide) (hts (.fieldLink RX8 11 "SmokeTune$Tape" "bytes" "[I") (List.mem_cons_of_mem _ (List.mem_append_left _ (List.mem_of_getElem? (i := 1) rfl)))) (fun _ h9 => h9) rfl dX8_take_18 ?_
  refine lv_aload_n hx hb dX8_take_21 rfl (lv_at hl 1 rfl) ?_
  refine va_get (ci := 8) (v := .int 13) (C := RX8) (T := TX8) (N := 6) hx hb hts hw8 hown hK hP 0 rfl rfl 1 (by decide) (hts (.fieldLink RX8 15 "SmokeTune$Tape" "length" "I") (List.mem_cons_of_mem _ (List.mem_append_left _ (List.mem_of_getElem? (i := 0) rfl)))) (fun _ h9 => h9) rfl dX8_take_22 ?_
  refine lv_iload_n hx hb dX8_take_25 rfl (lv_at hl 2 rfl) ?_
  refine lv_iload_n hx hb dX8_take_26 rfl (lv_at hl 0 rfl) ?_
  refine lv_ishr hx hb dX8_take_27 ?_
  refine lv_topi (fun x_9 ex_9 => ?_)
  refine lv_sipush (v := 255) hx hb dX8_take_28 (by decide) ?_
  refine lv_iand hx hb dX8_take_31 ?_
  refine lv_topi (fun x_10 ex_10 => ?_)
  refine va_iast hx hb hK hP hD hS 1 0 rfl rfl (i_in (x := 13) rfl (by omega)) dX8_take_32 (fun H locs hP hD hS => ?_)
  generalize hf_11 : (upd f_5 (13 : Int32).toNatClampNeg x_10) = f_11 at hP hD
  have hP : va_P D vwCl [(a0, .inr (8, [.ref a1, .int 13, g2, g3, g4, g5])), (a1, .inl (K 0, 400, .inl f_11))] H := hP
  have hD : va_D A [(a0, .inr (8, [.ref a1, .int 13, g2, g3, g4, g5])), (a1, .inl (K 0, 400, .inl f_11))] := hD
  refine lv_aload_n hx hb dX8_take_33 rfl (lv_at hl 1 rfl) ?_
  refine lv_dup hx hb dX8_take_34 rfl ?_
  refine va_get (ci := 8) (v := .int 13) (C := RX8) (T := TX8) (N := 6) hx hb hts hw8 hown hK hP 0 rfl rfl 1 (by decide) (hts (.fieldLink RX8 15 "SmokeTune$Tape" "length" "I") (List.mem_cons_of_mem _ (List.mem_append_left _ (List.mem_of_getElem? (i := 0) rfl)))) (fun _ h9 => h9) rfl dX8_take_35 ?_
  refine lv_iconst (v := 1) hx hb dX8_take_38 (by decide) ?_
  refine lv_iadd hx hb dX8_take_39 ?_
  refine lv_topi (fun x_12 ex_12 => ?_)
  obtain rfl : x_12 = 14 := ex_12.trans (by first | rfl | decide)
  refine va_put (ci := 8) (v := .int 14) (ty := .int) (C := RX8) (T := TX8) (N := 6) hx hb hts hw8 tyX8 tyX8_ok nmX8 hown hK hP hD hS 0 rfl rfl 1 (by decide) (hts (.fieldLink RX8 15 "SmokeTune$Tape" "length" "I") (List.mem_cons_of_mem _ (List.mem_append_left _ (List.mem_of_getElem? (i := 0) rfl)))) (fun _ h9 => h9) rfl (by decide +kernel) (by first | rfl | decide) (by first | rfl | decide) (Nat.le_of_ble_eq_true rfl) dX8_take_40 (fun H locs hP hD hS => ?_)
  have hP : va_P D vwCl [(a0, .inr (8, [.ref a1, .int 14, g2, g3, g4, g5])), (a1, .inl (K 0, 400, .inl f_11))] H := hP
  have hD : va_D A [(a0, .inr (8, [.ref a1, .int 14, g2, g3, g4, g5])), (a1, .inl (K 0, 400, .inl f_11))] := hD
  refine lv_iinc (v := 8) (lv' := [(2, .int 8), (0, .ref a0), (1, .int x)]) hx hb dX8_take_43 hl (k := 0) rfl (by decide) (by decide) rfl (fun ls hl => ?_)
  refine lv_goto (tgt := 3) hx hb dX8_take_46 (by decide) ?_
  refine lv_iload_n hx hb dX8_take_3 rfl (lv_at hl 0 rfl) ?_
  refine lv_if_lt (tgt := 49) hx hb dX8_take_4 (by decide) (fun c_13 => absurd c_13 (by decide)) (fun c_13 => ?_)
  refine lv_aload_n hx hb dX8_take_7 rfl (lv_at hl 1 rfl) ?_
  refine va_get (ci := 8) (v := .int 14) (C := RX8) (T := TX8) (N := 6) hx hb hts hw8 hown hK hP 0 rfl rfl 1 (by decide) (hts (.fieldLink RX8 15 "SmokeTune$Tape" "length" "I") (List.mem_cons_of_mem _ (List.mem_append_left _ (List.mem_of_getElem? (i := 0) rfl)))) (fun _ h9 => h9) rfl dX8_take_8 ?_
  refine lv_sipush (v := 400) hx hb dX8_take_11 (by decide) ?_
  refine lv_icmp_ge (tgt := 49) hx hb dX8_take_14 (by decide) (fun c_14 => absurd c_14 (by decide)) (fun c_14 => ?_)
  refine lv_aload_n hx hb dX8_take_17 rfl (lv_at hl 1 rfl) ?_
  refine va_get (ci := 8) (v := .ref a1) (C := RX8) (T := TX8) (N := 6) hx hb hts hw8 hown hK hP 0 rfl rfl 0 (by decide) (hts (.fieldLink RX8 11 "SmokeTune$Tape" "bytes" "[I") (List.mem_cons_of_mem _ (List.mem_append_left _ (List.mem_of_getElem? (i := 1) rfl)))) (fun _ h9 => h9) rfl dX8_take_18 ?_
  refine lv_aload_n hx hb dX8_take_21 rfl (lv_at hl 1 rfl) ?_
  refine va_get (ci := 8) (v := .int 14) (C := RX8) (T := TX8) (N := 6) hx hb hts hw8 hown hK hP 0 rfl rfl 1 (by decide) (hts (.fieldLink RX8 15 "SmokeTune$Tape" "length" "I") (List.mem_cons_of_mem _ (List.mem_append_left _ (List.mem_of_getElem? (i := 0) rfl)))) (fun _ h9 => h9) rfl dX8_take_22 ?_
  refine lv_iload_n hx hb dX8_take_25 rfl (lv_at hl 2 rfl) ?_
  refine lv_iload_n hx hb dX8_take_26 rfl (lv_at hl 0 rfl) ?_
  refine lv_ishr hx hb dX8_take_27 ?_
  refine lv_topi (fun x_15 ex_15 => ?_)
  refine lv_sipush (v := 255) hx hb dX8_take_28 (by decide) ?_
  refine lv_iand hx hb dX8_take_31 ?_
  refine lv_topi (fun x_16 ex_16 => ?_)
  refine va_iast hx hb hK hP hD hS 1 0 rfl rfl (i_in (x := 14) rfl (by omega)) dX8_take_32 (fun H locs hP hD hS => ?_)
  generalize hf_17 : (upd f_11 (14 : Int32).toNatClampNeg x_16) = f_17 at hP hD
  have hP : va_P D vwCl [(a0, .inr (8, [.ref a1, .int 14, g2, g3, g4, g5])), (a1, .inl (K 0, 400, .inl f_17))] H := hP
  have hD : va_D A [(a0, .inr (8, [.ref a1, .int 14, g2, g3, g4, g5])), (a1, .inl (K 0, 400, .inl f_17))] := hD
  refine lv_aload_n hx hb dX8_take_33 rfl (lv_at hl 1 rfl) ?_
  refine lv_dup hx hb dX8_take_34 rfl ?_
  refine va_get (ci := 8) (v := .int 14) (C := RX8) (T := TX8) (N := 6) hx hb hts hw8 hown hK hP 0 rfl rfl 1 (by decide) (hts (.fieldLink RX8 15 "SmokeTune$Tape" "length" "I") (List.mem_cons_of_mem _ (List.mem_append_left _ (List.mem_of_getElem? (i := 0) rfl)))) (fun _ h9 => h9) rfl dX8_take_35 ?_
  refine lv_iconst (v := 1) hx hb dX8_take_38 (by decide) ?_
  refine lv_iadd hx hb dX8_take_39 ?_
  refine lv_topi (fun x_18 ex_18 => ?_)
  obtain rfl : x_18 = 15 := ex_18.trans (by first | rfl | decide)
  refine va_put (ci := 8) (v := .int 15) (ty := .int) (C := RX8) (T := TX8) (N := 6) hx hb hts hw8 tyX8 tyX8_ok nmX8 hown hK hP hD hS 0 rfl rfl 1 (by decide) (hts (.fieldLink RX8 15 "SmokeTune$Tape" "length" "I") (List.mem_cons_of_mem _ (List.mem_append_left _ (List.mem_of_getElem? (i := 0) rfl)))) (fun _ h9 => h9) rfl (by decide +kernel) (by first | rfl | decide) (by first | rfl | decide) (Nat.le_of_ble_eq_true rfl) dX8_take_40 (fun H locs hP hD hS => ?_)
  have hP : va_P D vwCl [(a0, .inr (8, [.ref a1, .int 15, g2, g3, g4, g5])), (a1, .inl (K 0, 400, .inl f_17))] H := hP
  have hD : va_D A [(a0, .inr (8, [.ref a1, .int 15, g2, g3, g4, g5])), (a1, .inl (K 0, 400, .inl f_17))] := hD
  refine lv_iinc (v := 0) (lv' := [(2, .int 0), (0, .ref a0), (1, .int x)]) hx hb dX8_take_43 hl (k := 0) rfl (by decide) (by decide) rfl (fun ls hl => ?_)
  refine lv_goto (tgt := 3) hx hb dX8_take_46 (by decide) ?_
  refine lv_iload_n hx hb dX8_take_3 rfl (lv_at hl 0 rfl) ?_
  refine lv_if_lt (tgt := 49) hx hb dX8_take_4 (by decide) (fun c_19 => absurd c_19 (by decide)) (fun c_19 => ?_)
  refine lv_aload_n hx hb dX8_take_7 rfl (lv_at hl 1 rfl) ?_
  refine va_get (ci := 8) (v := .int 15) (C := RX8) (T := TX8) (N := 6) hx hb hts hw8 hown hK hP 0 rfl rfl 1 (by decide) (hts (.fieldLink RX8 15 "SmokeTune$Tape" "length" "I") (List.mem_cons_of_mem _ (List.mem_append_left _ (List.mem_of_getElem? (i := 0) rfl)))) (fun _ h9 => h9) rfl dX8_take_8 ?_
  refine lv_sipush (v := 400) hx hb dX8_take_11 (by decide) ?_
  refine lv_icmp_ge (tgt := 49) hx hb dX8_take_14 (by decide) (fun c_20 => absurd c_20 (by decide)) (fun c_20 => ?_)
  refine lv_aload_n hx hb dX8_take_17 rfl (lv_at hl 1 rfl) ?_
  refine va_get (ci := 8) (v := .ref a1) (C := RX8) (T := TX8) (N := 6) hx hb hts hw8 hown hK hP 0 rfl rfl 0 (by decide) (hts (.fieldLink RX8 11 "SmokeTune$Tape" "bytes" "[I") (List.mem_cons_of_mem _ (List.mem_append_left _ (List.mem_of_getElem? (i := 1) rfl)))) (fun _ h9 => h9) rfl dX8_take_18 ?_
  refine lv_aload_n hx hb dX8_take_21 rfl (lv_at hl 1 rfl) ?_
  refine va_get (ci := 8) (v := .int 15) (C := RX8) (T := TX8) (N := 6) hx hb hts hw8 hown hK hP 0 rfl rfl 1 (by decide) (hts (.fieldLink RX8 15 "SmokeTune$Tape" "length" "I") (List.mem_cons_of_mem _ (List.mem_append_left _ (List.mem_of_getElem? (i := 0) rfl)))) (fun _ h9 => h9) rfl dX8_take_22 ?_
  refine lv_iload_n hx hb dX8_take_25 rfl (lv_at hl 2 rfl) ?_
  refine lv_iload_n hx hb dX8_take_26 rfl (lv_at hl 0 rfl) ?_
  refine lv_ishr hx hb dX8_take_27 ?_
  refine lv_topi (fun x_21 ex_21 => ?_)
  refine lv_sipush (v := 255) hx hb dX8_take_28 (by decide) ?_
  refine lv_iand hx hb dX8_take_31 ?_
  refine lv_topi (fun x_22 ex_22 => ?_)
  refine va_iast hx hb hK hP hD hS 1 0 rfl rfl (i_in (x := 15) rfl (by omega)) dX8_take_32 (fun H locs hP hD hS => ?_)
  generalize hf_23 : (upd f_17 (15 : Int32).toNatClampNeg x_22) = f_23 at hP hD
  have hP : va_P D vwCl [(a0, .inr (8, [.ref a1, .int 15, g2, g3, g4, g5])), (a1, .inl (K 0, 400, .inl f_23))] H := hP
  have hD : va_D A [(a0, .inr (8, [.ref a1, .int 15, g2, g3, g4, g5])), (a1, .inl (K 0, 400, .inl f_23))] := hD
  refine lv_aload_n hx hb dX8_take_33 rfl (lv_at hl 1 rfl) ?_
  refine lv_dup hx hb dX8_take_34 rfl ?_
  refine va_get (ci := 8) (v := .int 15) (C := RX8) (T := TX8) (N := 6) hx hb hts hw8 hown hK hP 0 rfl rfl 1 (by decide) (hts (.fieldLink RX8 15 "SmokeTune$Tape" "length" "I") (List.mem_cons_of_mem _ (List.mem_append_left _ (List.mem_of_getElem? (i := 0) rfl)))) (fun _ h9 => h9) rfl dX8_take_35 ?_
  refine lv_iconst (v := 1) hx hb dX8_take_38 (by decide) ?_
  refine lv_iadd hx hb dX8_take_39 ?_
  refine lv_topi (fun x_24 ex_24 => ?_)
  obtain rfl : x_24 = 16 := ex_24.trans (by first | rfl | decide)
  refine va_put (ci := 8) (v := .int 16) (ty := .int) (C := RX8) (T := TX8) (N := 6) hx hb hts hw8 tyX8 tyX8_ok nmX8 hown hK hP hD hS 0 rfl rfl 1 (by decide) (hts (.fieldLink RX8 15 "SmokeTune$Tape" "length" "I") (List.mem_cons_of_mem _ (List.mem_append_left _ (List.mem_of_getElem? (i := 0) rfl)))) (fun _ h9 => h9) rfl (by decide +kernel) (by first | rfl | decide) (by first | rfl | decide) (Nat.le_of_ble_eq_true rfl) dX8_take_40 (fun H locs hP hD hS => ?_)
  have hP : va_P D vwCl [(a0, .inr (8, [.ref a1, .int 16, g2, g3, g4, g5])), (a1, .inl (K 0, 400, .inl f_23))] H := hP
  have hD : va_D A [(a0, .inr (8, [.ref a1, .int 16, g2, g3, g4, g5])), (a1, .inl (K 0, 400, .inl f_23))] := hD
  refine lv_iinc (v := (-8)) (lv' := [(2, .int (-8)), (0, .ref a0), (1, .int x)]) hx hb dX8_take_43 hl (k := 0) rfl (by decide) (by decide) rfl (fun ls hl => ?_)
  refine lv_goto (tgt := 3) hx hb dX8_take_46 (by decide) ?_
  refine lv_iload_n hx hb dX8_take_3 rfl (lv_at hl 0 rfl) ?_
  refine lv_if_lt (tgt := 49) hx hb dX8_take_4 (by decide) (fun c_25 => ?_) (fun c_25 => absurd (by decide) c_25)
  have hP9 := hP.sub (ws' := [(a0, .inr (8, [.ref a1, .int 16, g2, g3, g4, g5])), (a1, .inl (K 0, 400, .inl f_23))]) [0, 1] rfl
  have hD9 := hD.sub (ws' := [(a0, .inr (8, [.ref a1, .int 16, g2, g3, g4, g5])), (a1, .inl (K 0, 400, .inl f_23))]) [0, 1] (by decide) rfl
  exact W.vret hx hb hr (fun t ht hW => ⟨⟨(fun _ => 0, fun i => match i with | _ => f_23, fun _ => fun _ => 0, fun _ => 0), rfl, trivial, (⟨by rw [ht]; exact hP9, hD9⟩ : Wd D A _ t)⟩, hS.F ht⟩) hS.2.2 dX8_take_49
set_option maxHeartbeats 4000000 in
set_option maxRecDepth 100000 in
theorem c_take_16 (l : Launch) (D : va_G) (K : Nat → ClassId) (a0 : Nat) (x : Int32) (a1 : Nat) (g2 : Value) (g3 : Value) (g4 : Value) (g5 : Value) (f : Nat → Int32) (sz : Nat) : Met l yX8_take wsX8_take ({ frames := 0, cells := 0, slots := 0, locals := 0 }) (va_Pc [.ref a0, .int x] (Pre D K [(a0, .inr (8, [.ref a1, .int 16, g2, g3, g4, g5])), (a1, .inl (K 0, 400, .inl f))] sz)) (va_Qv (S := (Nat → Nat) × (Nat → Nat → Int32) × (Nat → Nat → Int64) × (Nat → Int32)) (fun _ => True) (fun u t => Wd D (va_A [(a0, .inr (8, [.ref a1, .int 16, g2, g3, g4, g5])), (a1, .inl (K 0, 400, .inl f))] sz) ((fun u => [(a0, .inr (8, [.ref a1, .int 20, g2, g3, g4, g5])), (a1, .inl (K 0, 400, .inl ((u.2.1 0))))]) u) t) (va_A [(a0, .inr (8, [.ref a1, .int 16, g2, g3, g4, g5])), (a1, .inl (K 0, 400, .inl f))] sz)) 0 0 (va_A [(a0, .inr (8, [.ref a1, .int 16, g2, g3, g4, g5])), (a1, .inl (K 0, 400, .inl f))] sz) := by
  refine Met.ofW (cc := cX8_take) (maxL := 3) (ret := none) (by decide) rfl ?_
  intro p e s m args below meth c s₁ B hml hv
  obtain ⟨rfl, hsz, hP, hK, hD0, hN⟩ := hv
  have hx := B.exec
  have hb := B.bytes
  have hr := B.returns
  have hts := atoms_spec (ws := wsX8_take) B.pre
  have hown : s.vm.findClass RX8 = some m.cls := findClass_of_methodNamed B.named
  have hlocks := B.notSynchronized
  subst hsz
  have hD := hD0.self (sz := s.heap.size)
  generalize hAe : va_A [(a0, .inr (8, [.ref a1, .int 16, g2, g3, g4, g5])), (a1, .inl (K 0, 400, .inl f))] s.heap.size = A at hD ⊢
  have hA : ∀ q : Nat, s.heap.size ≤ q → A q := fun q h => by rw [← hAe]; exact Or.inr h
  have hS : va_S A s.heap s.heap [] := va_S.rf
  have hP : va_P D vwCl [(a0, .inr (8, [.ref a1, .int 16, g2, g3, g4, g5])), (a1, .inl (K 0, 400, .inl f))] s.heap := hP
  have hl := lv_entry [.ref a0, .int x] (n := 3) (Nat.le_of_ble_eq_true rfl)
  rw [lg_entry_eq]
  generalize (lg_sl [.ref a0, .int x] ++ List.replicate (3 - (lg_sl [.ref a0, .int x]).length) Slot.unset).toArray = ls at hl ⊢
  have hl : lv_has ls 3 [(0, .ref a0), (1, .int x)] := hl
  have hw8 : ∀ w ∈ wsX80, w ∈ wsX8_take := fun w h => (List.mem_cons_of_mem _ (List.mem_append_right _ h))
  refine lv_bipush (v := 24) hx hb dX8_take_0 (by decide) ?_
  refine lv_istore_n (lv' := [(2, .int 24), (0, .ref a0), (1, .int x)]) hx hb dX8_take_2 rfl hl (by decide) rfl (fun ls hl => ?_)
  refine lv_iload_n hx hb dX8_take_3 rfl (lv_at hl 0 rfl) ?_
  refine lv_if_lt (tgt := 49) hx hb dX8_take_4 (by decide) (fun c_1 => absurd c_1 (by decide)) (fun c_1 => ?_)
  refine lv_aload_n hx hb dX8_take_7 rfl (lv_at hl 1 rfl) ?_
  refine va_get (ci := 8) (v := .int 16) (C := RX8) (T := TX8) (N := 6) hx hb hts hw8 hown hK hP 0 rfl rfl 1 (by decide) (hts (.fieldLink RX8 15 "SmokeTune$Tape" "length" "I") (List.mem_cons_of_mem _ (List.mem_append_left _ (List.mem_of_getElem? (i := 0) rfl)))) (fun _ h9 => h9) rfl dX8_take_8 ?_
  refine lv_sipush (v := 400) hx hb dX8_take_11 (by decide) ?_
  refine lv_icmp_ge (tgt := 49) hx hb dX8_take_14 (by decide) (fun c_2 => absurd c_2 (by decide)) (fun c_2 => ?_)
  refine lv_aload_n hx hb dX8_take_17 rfl (lv_at hl 1 rfl) ?_
  refine va_get (ci := 8) (v := .ref a1) (C := RX8) (T := TX8) (N := 6) hx hb hts hw8 hown hK hP 0 rfl rfl 0 (by decide) (hts (.fieldLink RX8 11 "SmokeTune$Tape" "bytes" "[I") (List.mem_cons_of_mem _ (List.mem_append_left _ (List.mem_of_getElem? (i := 1) rfl)))) (fun _ h9 => h9) rfl dX8_take_18 ?_
  refine lv_aload_n hx hb dX8_take_21 rfl (lv_at hl 1 rfl) ?_
  refine va_get (ci := 8) (v := .int 16) (C := RX8) (T := TX8) (N := 6) hx hb hts hw8 hown hK hP 0 rfl rfl 1 (by decide) (hts (.fieldLink RX8 15 "SmokeTune$Tape" "length" "I") (List.mem_cons_of_mem _ (List.mem_append_left _ (List.mem_of_getElem? (i := 0) rfl)))) (fun _ h9 => h9) rfl dX8_take_22 ?_
  refine lv_iload_n hx hb dX8_take_25 rfl (lv_at hl 2 rfl) ?_
  refine lv_iload_n hx hb dX8_take_26 rfl (lv_at hl 0 rfl) ?_
  refine lv_ishr hx hb dX8_take_27 ?_
  refine lv_topi (fun x_3 ex_3 => ?_)
  refine lv_sipush (v := 255) hx hb dX8_take_28 (by decide) ?_
  refine lv_iand hx hb dX8_take_31 ?_
  refine lv_topi (fun x_4 ex_4 => ?_)
  refine va_iast hx hb hK hP hD hS 1 0 rfl rfl (i_in (x := 16) rfl (by omega)) dX8_take_32 (fun H locs hP hD hS => ?_)
  generalize hf_5 : (upd f (16 : Int32).toNatClampNeg x_4) = f_5 at hP hD
  have hP : va_P D vwCl [(a0, .inr (8, [.ref a1, .int 16, g2, g3, g4, g5])), (a1, .inl (K 0, 400, .inl f_5))] H := hP
  have hD : va_D A [(a0, .inr (8, [.ref a1, .int 16, g2, g3, g4, g5])), (a1, .inl (K 0, 400, .inl f_5))] := hD
  refine lv_aload_n hx hb dX8_take_33 rfl (lv_at hl 1 rfl) ?_
  refine lv_dup hx hb dX8_take_34 rfl ?_
  refine va_get (ci := 8) (v := .int 16) (C := RX8) (T := TX8) (N := 6) hx hb hts hw8 hown hK hP 0 rfl rfl 1 (by decide) (hts (.fieldLink RX8 15 "SmokeTune$Tape" "length" "I") (List.mem_cons_of_mem _ (List.mem_append_left _ (List.mem_of_getElem? (i := 0) rfl)))) (fun _ h9 => h9) rfl dX8_take_35 ?_
  refine lv_iconst (v := 1) hx hb dX8_take_38 (by decide) ?_
  refine lv_iadd hx hb dX8_take_39 ?_
  refine lv_topi (fun x_6 ex_6 => ?_)
  obtain rfl : x_6 = 17 := ex_6.trans (by first | rfl | decide)
  refine va_put (ci := 8) (v := .int 17) (ty := .int) (C := RX8) (T := TX8) (N := 6) hx hb hts hw8 tyX8 tyX8_ok nmX8 hown hK hP hD hS 0 rfl rfl 1 (by decide) (hts (.fieldLink RX8 15 "SmokeTune$Tape" "length" "I") (List.mem_cons_of_mem _ (List.mem_append_left _ (List.mem_of_getElem? (i := 0) rfl)))) (fun _ h9 => h9) rfl (by decide +kernel) (by first | rfl | decide) (by first | rfl | decide) (Nat.le_of_ble_eq_true rfl) dX8_take_40 (fun H locs hP hD hS => ?_)
  have hP : va_P D vwCl [(a0, .inr (8, [.ref a1, .int 17, g2, g3, g4, g5])), (a1, .inl (K 0, 400, .inl f_5))] H := hP
  have hD : va_D A [(a0, .inr (8, [.ref a1, .int 17, g2, g3, g4, g5])), (a1, .inl (K 0, 400, .inl f_5))] := hD
  refine lv_iinc (v := 16) (lv' := [(2, .int 16), (0, .ref a0), (1, .int x)]) hx hb dX8_take_43 hl (k := 0) rfl (by decide) (by decide) rfl (fun ls hl => ?_)
  refine lv_goto (tgt := 3) hx hb dX8_take_46 (by decide) ?_
  refine lv_iload_n hx hb dX8_take_3 rfl (lv_at hl 0 rfl) ?_
  refine lv_if_lt (tgt := 49) hx hb dX8_take_4 (by decide) (fun c_7 => absurd c_7 (by decide)) (fun c_7 => ?_)
  refine lv_aload_n hx hb dX8_take_7 rfl (lv_at hl 1 rfl) ?_
  refine va_get (ci := 8) (v := .int 17) (C := RX8) (T := TX8) (N := 6) hx hb hts hw8 hown hK hP 0 rfl rfl 1 (by decide) (hts (.fieldLink RX8 15 "SmokeTune$Tape" "length" "I") (List.mem_cons_of_mem _ (List.mem_append_left _ (List.mem_of_getElem? (i := 0) rfl)))) (fun _ h9 => h9) rfl dX8_take_8 ?_
  refine lv_sipush (v := 400) hx hb dX8_take_11 (by decide) ?_
  refine lv_icmp_ge (tgt := 49) hx hb dX8_take_14 (by decide) (fun c_8 => absurd c_8 (by decide)) (fun c_8 => ?_)
  refine lv_aload_n hx hb dX8_take_17 rfl (lv_at hl 1 rfl) ?_
  refine va_get (ci := 8) (v := .ref a1) (C := RX8) (T := TX8) (N := 6) hx hb hts hw8 hown hK hP 0 rfl rfl 0 (by decide) (hts (.fieldLink RX8 11 "SmokeTune$Tape" "bytes" "[I") (List.mem_cons_of_mem _ (List.mem_append_left _ (List.mem_of_getElem? (i := 1) rfl)))) (fun _ h9 => h9) rfl dX8_take_18 ?_
  refine lv_aload_n hx hb dX8_take_21 rfl (lv_at hl 1 rfl) ?_
  refine va_get (ci := 8) (v := .int 17) (C := RX8) (T := TX8) (N := 6) hx hb hts hw8 hown hK hP 0 rfl rfl 1 (by decide) (hts (.fieldLink RX8 15 "SmokeTune$Tape" "length" "I") (List.mem_cons_of_mem _ (List.mem_append_left _ (List.mem_of_getElem? (i := 0) rfl)))) (fun _ h9 => h9) rfl dX8_take_22 ?_
  refine lv_iload_n hx hb dX8_take_25 rfl (lv_at hl 2 rfl) ?_
  refine lv_iload_n hx hb dX8_take_26 rfl (lv_at hl 0 rfl) ?_
  refine lv_ishr hx hb dX8_take_27 ?_
  refine lv_topi (fun x_9 ex_9 => ?_)
  refine lv_sipush (v := 255) hx hb dX8_take_28 (by decide) ?_
  refine lv_iand hx hb dX8_take_31 ?_
  refine lv_topi (fun x_10 ex_10 => ?_)
  refine va_iast hx hb hK hP hD hS 1 0 rfl rfl (i_in (x := 17) rfl (by omega)) dX8_take_32 (fun H locs hP hD hS => ?_)
  generalize hf_11 : (upd f_5 (17 : Int32).toNatClampNeg x_10) = f_11 at hP hD
  have hP : va_P D vwCl [(a0, .inr (8, [.ref a1, .int 17, g2, g3, g4, g5])), (a1, .inl (K 0, 400, .inl f_11))] H := hP
  have hD : va_D A [(a0, .inr (8, [.ref a1, .int 17, g2, g3, g4, g5])), (a1, .inl (K 0, 400, .inl f_11))] := hD
  refine lv_aload_n hx hb dX8_take_33 rfl (lv_at hl 1 rfl) ?_
  refine lv_dup hx hb dX8_take_34 rfl ?_
  refine va_get (ci := 8) (v := .int 17) (C := RX8) (T := TX8) (N := 6) hx hb hts hw8 hown hK hP 0 rfl rfl 1 (by decide) (hts (.fieldLink RX8 15 "SmokeTune$Tape" "length" "I") (List.mem_cons_of_mem _ (List.mem_append_left _ (List.mem_of_getElem? (i := 0) rfl)))) (fun _ h9 => h9) rfl dX8_take_35 ?_
  refine lv_iconst (v := 1) hx hb dX8_take_38 (by decide) ?_
  refine lv_iadd hx hb dX8_take_39 ?_
  refine lv_topi (fun x_12 ex_12 => ?_)
  obtain rfl : x_12 = 18 := ex_12.trans (by first | rfl | decide)
  refine va_put (ci := 8) (v := .int 18) (ty := .int) (C := RX8) (T := TX8) (N := 6) hx hb hts hw8 tyX8 tyX8_ok nmX8 hown hK hP hD hS 0 rfl rfl 1 (by decide) (hts (.fieldLink RX8 15 "SmokeTune$Tape" "length" "I") (List.mem_cons_of_mem _ (List.mem_append_left _ (List.mem_of_getElem? (i := 0) rfl)))) (fun _ h9 => h9) rfl (by decide +kernel) (by first | rfl | decide) (by first | rfl | decide) (Nat.le_of_ble_eq_true rfl) dX8_take_40 (fun H locs hP hD hS => ?_)
  have hP : va_P D vwCl [(a0, .inr (8, [.ref a1, .int 18, g2, g3, g4, g5])), (a1, .inl (K 0, 400, .inl f_11))] H := hP
  have hD : va_D A [(a0, .inr (8, [.ref a1, .int 18, g2, g3, g4, g5])), (a1, .inl (K 0, 400, .inl f_11))] := hD
  refine lv_iinc (v := 8) (lv' := [(2, .int 8), (0, .ref a0), (1, .int x)]) hx hb dX8_take_43 hl (k := 0) rfl (by decide) (by decide) rfl (fun ls hl => ?_)
  refine lv_goto (tgt := 3) hx hb dX8_take_46 (by decide) ?_
  refine lv_iload_n hx hb dX8_take_3 rfl (lv_at hl 0 rfl) ?_
  refine lv_if_lt (tgt := 49) hx hb dX8_take_4 (by decide) (fun c_13 => absurd c_13 (by decide)) (fun c_13 => ?_)
  refine lv_aload_n hx hb dX8_take_7 rfl (lv_at hl 1 rfl) ?_
  refine va_get (ci := 8) (v := .int 18) (C := RX8) (T := TX8) (N := 6) hx hb hts hw8 hown hK hP 0 rfl rfl 1 (by decide) (hts (.fieldLink RX8 15 "SmokeTune$Tape" "length" "I") (List.mem_cons_of_mem _ (List.mem_append_left _ (List.mem_of_getElem? (i := 0) rfl)))) (fun _ h9 => h9) rfl dX8_take_8 ?_
  refine lv_sipush (v := 400) hx hb dX8_take_11 (by decide) ?_
  refine lv_icmp_ge (tgt := 49) hx hb dX8_take_14 (by decide) (fun c_14 => absurd c_14 (by decide)) (fun c_14 => ?_)
  refine lv_aload_n hx hb dX8_take_17 rfl (lv_at hl 1 rfl) ?_
  refine va_get (ci := 8) (v := .ref a1) (C := RX8) (T := TX8) (N := 6) hx hb hts hw8 hown hK hP 0 rfl rfl 0 (by decide) (hts (.fieldLink RX8 11 "SmokeTune$Tape" "bytes" "[I") (List.mem_cons_of_mem _ (List.mem_append_left _ (List.mem_of_getElem? (i := 1) rfl)))) (fun _ h9 => h9) rfl dX8_take_18 ?_
  refine lv_aload_n hx hb dX8_take_21 rfl (lv_at hl 1 rfl) ?_
  refine va_get (ci := 8) (v := .int 18) (C := RX8) (T := TX8) (N := 6) hx hb hts hw8 hown hK hP 0 rfl rfl 1 (by decide) (hts (.fieldLink RX8 15 "SmokeTune$Tape" "length" "I") (List.mem_cons_of_mem _ (List.mem_append_left _ (List.mem_of_getElem? (i := 0) rfl)))) (fun _ h9 => h9) rfl dX8_take_22 ?_
  refine lv_iload_n hx hb dX8_take_25 rfl (lv_at hl 2 rfl) ?_
  refine lv_iload_n hx hb dX8_take_26 rfl (lv_at hl 0 rfl) ?_
  refine lv_ishr hx hb dX8_take_27 ?_
  refine lv_topi (fun x_15 ex_15 => ?_)
  refine lv_sipush (v := 255) hx hb dX8_take_28 (by decide) ?_
  refine lv_iand hx hb dX8_take_31 ?_
  refine lv_topi (fun x_16 ex_16 => ?_)
  refine va_iast hx hb hK hP hD hS 1 0 rfl rfl (i_in (x := 18) rfl (by omega)) dX8_take_32 (fun H locs hP hD hS => ?_)
  generalize hf_17 : (upd f_11 (18 : Int32).toNatClampNeg x_16) = f_17 at hP hD
  have hP : va_P D vwCl [(a0, .inr (8, [.ref a1, .int 18, g2, g3, g4, g5])), (a1, .inl (K 0, 400, .inl f_17))] H := hP
  have hD : va_D A [(a0, .inr (8, [.ref a1, .int 18, g2, g3, g4, g5])), (a1, .inl (K 0, 400, .inl f_17))] := hD
  refine lv_aload_n hx hb dX8_take_33 rfl (lv_at hl 1 rfl) ?_
  refine lv_dup hx hb dX8_take_34 rfl ?_
  refine va_get (ci := 8) (v := .int 18) (C := RX8) (T := TX8) (N := 6) hx hb hts hw8 hown hK hP 0 rfl rfl 1 (by decide) (hts (.fieldLink RX8 15 "SmokeTune$Tape" "length" "I") (List.mem_cons_of_mem _ (List.mem_append_left _ (List.mem_of_getElem? (i := 0) rfl)))) (fun _ h9 => h9) rfl dX8_take_35 ?_
  refine lv_iconst (v := 1) hx hb dX8_take_38 (by decide) ?_
  refine lv_iadd hx hb dX8_take_39 ?_
  refine lv_topi (fun x_18 ex_18 => ?_)
  obtain rfl : x_18 = 19 := ex_18.trans (by first | rfl | decide)
  refine va_put (ci := 8) (v := .int 19) (ty := .int) (C := RX8) (T := TX8) (N := 6) hx hb hts hw8 tyX8 tyX8_ok nmX8 hown hK hP hD hS 0 rfl rfl 1 (by decide) (hts (.fieldLink RX8 15 "SmokeTune$Tape" "length" "I") (List.mem_cons_of_mem _ (List.mem_append_left _ (List.mem_of_getElem? (i := 0) rfl)))) (fun _ h9 => h9) rfl (by decide +kernel) (by first | rfl | decide) (by first | rfl | decide) (Nat.le_of_ble_eq_true rfl) dX8_take_40 (fun H locs hP hD hS => ?_)
  have hP : va_P D vwCl [(a0, .inr (8, [.ref a1, .int 19, g2, g3, g4, g5])), (a1, .inl (K 0, 400, .inl f_17))] H := hP
  have hD : va_D A [(a0, .inr (8, [.ref a1, .int 19, g2, g3, g4, g5])), (a1, .inl (K 0, 400, .inl f_17))] := hD
  refine lv_iinc (v := 0) (lv' := [(2, .int 0), (0, .ref a0), (1, .int x)]) hx hb dX8_take_43 hl (k := 0) rfl (by decide) (by decide) rfl (fun ls hl => ?_)
  refine lv_goto (tgt := 3) hx hb dX8_take_46 (by decide) ?_
  refine lv_iload_n hx hb dX8_take_3 rfl (lv_at hl 0 rfl) ?_
  refine lv_if_lt (tgt := 49) hx hb dX8_take_4 (by decide) (fun c_19 => absurd c_19 (by decide)) (fun c_19 => ?_)
  refine lv_aload_n hx hb dX8_take_7 rfl (lv_at hl 1 rfl) ?_
  refine va_get (ci := 8) (v := .int 19) (C := RX8) (T := TX8) (N := 6) hx hb hts hw8 hown hK hP 0 rfl rfl 1 (by decide) (hts (.fieldLink RX8 15 "SmokeTune$Tape" "length" "I") (List.mem_cons_of_mem _ (List.mem_append_left _ (List.mem_of_getElem? (i := 0) rfl)))) (fun _ h9 => h9) rfl dX8_take_8 ?_
  refine lv_sipush (v := 400) hx hb dX8_take_11 (by decide) ?_
  refine lv_icmp_ge (tgt := 49) hx hb dX8_take_14 (by decide) (fun c_20 => absurd c_20 (by decide)) (fun c_20 => ?_)
  refine lv_aload_n hx hb dX8_take_17 rfl (lv_at hl 1 rfl) ?_
  refine va_get (ci := 8) (v := .ref a1) (C := RX8) (T := TX8) (N := 6) hx hb hts hw8 hown hK hP 0 rfl rfl 0 (by decide) (hts (.fieldLink RX8 11 "SmokeTune$Tape" "bytes" "[I") (List.mem_cons_of_mem _ (List.mem_append_left _ (List.mem_of_getElem? (i := 1) rfl)))) (fun _ h9 => h9) rfl dX8_take_18 ?_
  refine lv_aload_n hx hb dX8_take_21 rfl (lv_at hl 1 rfl) ?_
  refine va_get (ci := 8) (v := .int 19) (C := RX8) (T := TX8) (N := 6) hx hb hts hw8 hown hK hP 0 rfl rfl 1 (by decide) (hts (.fieldLink RX8 15 "SmokeTune$Tape" "length" "I") (List.mem_cons_of_mem _ (List.mem_append_left _ (List.mem_of_getElem? (i := 0) rfl)))) (fun _ h9 => h9) rfl dX8_take_22 ?_
  refine lv_iload_n hx hb dX8_take_25 rfl (lv_at hl 2 rfl) ?_
  refine lv_iload_n hx hb dX8_take_26 rfl (lv_at hl 0 rfl) ?_
  refine lv_ishr hx hb dX8_take_27 ?_
  refine lv_topi (fun x_21 ex_21 => ?_)
  refine lv_sipush (v := 255) hx hb dX8_take_28 (by decide) ?_
  refine lv_iand hx hb dX8_take_31 ?_
  refine lv_topi (fun x_22 ex_22 => ?_)
  refine va_iast hx hb hK hP hD hS 1 0 rfl rfl (i_in (x := 19) rfl (by omega)) dX8_take_32 (fun H locs hP hD hS => ?_)
  generalize hf_23 : (upd f_17 (19 : Int32).toNatClampNeg x_22) = f_23 at hP hD
  have hP : va_P D vwCl [(a0, .inr (8, [.ref a1, .int 19, g2, g3, g4, g5])), (a1, .inl (K 0, 400, .inl f_23))] H := hP
  have hD : va_D A [(a0, .inr (8, [.ref a1, .int 19, g2, g3, g4, g5])), (a1, .inl (K 0, 400, .inl f_23))] := hD
  refine lv_aload_n hx hb dX8_take_33 rfl (lv_at hl 1 rfl) ?_
  refine lv_dup hx hb dX8_take_34 rfl ?_
  refine va_get (ci := 8) (v := .int 19) (C := RX8) (T := TX8) (N := 6) hx hb hts hw8 hown hK hP 0 rfl rfl 1 (by decide) (hts (.fieldLink RX8 15 "SmokeTune$Tape" "length" "I") (List.mem_cons_of_mem _ (List.mem_append_left _ (List.mem_of_getElem? (i := 0) rfl)))) (fun _ h9 => h9) rfl dX8_take_35 ?_
  refine lv_iconst (v := 1) hx hb dX8_take_38 (by decide) ?_
  refine lv_iadd hx hb dX8_take_39 ?_
  refine lv_topi (fun x_24 ex_24 => ?_)
  obtain rfl : x_24 = 20 := ex_24.trans (by first | rfl | decide)
  refine va_put (ci := 8) (v := .int 20) (ty := .int) (C := RX8) (T := TX8) (N := 6) hx hb hts hw8 tyX8 tyX8_ok nmX8 hown hK hP hD hS 0 rfl rfl 1 (by decide) (hts (.fieldLink RX8 15 "SmokeTune$Tape" "length" "I") (List.mem_cons_of_mem _ (List.mem_append_left _ (List.mem_of_getElem? (i := 0) rfl)))) (fun _ h9 => h9) rfl (by decide +kernel) (by first | rfl | decide) (by first | rfl | decide) (Nat.le_of_ble_eq_true rfl) dX8_take_40 (fun H locs hP hD hS => ?_)
  have hP : va_P D vwCl [(a0, .inr (8, [.ref a1, .int 20, g2, g3, g4, g5])), (a1, .inl (K 0, 400, .inl f_23))] H := hP
  have hD : va_D A [(a0, .inr (8, [.ref a1, .int 20, g2, g3, g4, g5])), (a1, .inl (K 0, 400, .inl f_23))] := hD
  refine lv_iinc (v := (-8)) (lv' := [(2, .int (-8)), (0, .ref a0), (1, .int x)]) hx hb dX8_take_43 hl (k := 0) rfl (by decide) (by decide) rfl (fun ls hl => ?_)
  refine lv_goto (tgt := 3) hx hb dX8_take_46 (by decide) ?_
  refine lv_iload_n hx hb dX8_take_3 rfl (lv_at hl 0 rfl) ?_
  refine lv_if_lt (tgt := 49) hx hb dX8_take_4 (by decide) (fun c_25 => ?_) (fun c_25 => absurd (by decide) c_25)
  have hP9 := hP.sub (ws' := [(a0, .inr (8, [.ref a1, .int 20, g2, g3, g4, g5])), (a1, .inl (K 0, 400, .inl f_23))]) [0, 1] rfl
  have hD9 := hD.sub (ws' := [(a0, .inr (8, [.ref a1, .int 20, g2, g3, g4, g5])), (a1, .inl (K 0, 400, .inl f_23))]) [0, 1] (by decide) rfl
  exact W.vret hx hb hr (fun t ht hW => ⟨⟨(fun _ => 0, fun i => match i with | _ => f_23, fun _ => fun _ => 0, fun _ => 0), rfl, trivial, (⟨by rw [ht]; exact hP9, hD9⟩ : Wd D A _ t)⟩, hS.F ht⟩) hS.2.2 dX8_take_49
