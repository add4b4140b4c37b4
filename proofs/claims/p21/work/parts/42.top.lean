theorem dX11_sounds_1 : decode cX11_sounds 1 = .ok (.tableswitch 59 0 2 #[27, 35, 43], 27) := by decide +kernel
theorem BX11_fault_0 : bsegs (ByteArray.data cX11_fault |>.toList.drop 0) 0 [(0, [42]), (1, [180, 0, 30]), (4, [180, 0, 200]), (7, [172])] = true := by decide +kernel
theorem dX11_fault_0 : decode cX11_fault 0 = .ok (.aload_n 0, 1) := dk_42 (bs_at BX11_fault_0 0 rfl)
theorem dX11_fault_1 : decode cX11_fault 1 = .ok (.getfield 30, 3) := dk_180 0 30 (bs_at BX11_fault_0 1 rfl) rfl
theorem dX11_fault_4 : decode cX11_fault 4 = .ok (.getfield 200, 3) := dk_180 0 200 (bs_at BX11_fault_0 2 rfl) rfl
theorem dX11_fault_7 : decode cX11_fault 7 = .ok (.ireturn, 1) := dk_172 (bs_at BX11_fault_0 3 rfl)
theorem BX11_stopped_0 : bsegs (ByteArray.data cX11_stopped |>.toList.drop 0) 0 [(0, [42]), (1, [180, 0, 42]), (4, [180, 0, 193]), (7, [172])] = true := by decide +kernel
theorem dX11_stopped_0 : decode cX11_stopped 0 = .ok (.aload_n 0, 1) := dk_42 (bs_at BX11_stopped_0 0 rfl)
theorem dX11_stopped_1 : decode cX11_stopped 1 = .ok (.getfield 42, 3) := dk_180 0 42 (bs_at BX11_stopped_0 1 rfl) rfl
theorem dX11_stopped_4 : decode cX11_stopped 4 = .ok (.getfield 193, 3) := dk_180 0 193 (bs_at BX11_stopped_0 2 rfl) rfl
theorem dX11_stopped_7 : decode cX11_stopped 7 = .ok (.ireturn, 1) := dk_172 (bs_at BX11_stopped_0 3 rfl)
theorem BX11_force_0 : bsegs (ByteArray.data cX11_force |>.toList.drop 0) 0 [(0, [27]), (1, [2]), (2, [159, 0, 27]), (5, [27]), (6, [3]), (7, [42]), (8, [180, 0, 10]), (11, [180, 0, 173]), (14, [4]), (15, [100]), (16, [184, 0, 97]), (19, [154, 0, 10]), (22, [42]), (23, [16, 254]), (25, [182, 0, 101]), (28, [172]), (29, [42]), (30, [180, 0, 10]), (33, [180, 0, 203]), (36, [61]), (37, [42]), (38, [180, 0, 10]), (41, [27]), (42, [181, 0, 203])] = true := by decide +kernel
theorem dX11_force_0 : decode cX11_force 0 = .ok (.iload_n 1, 1) := dk_27 (bs_at BX11_force_0 0 rfl)
theorem dX11_force_1 : decode cX11_force 1 = .ok (.iconst (-1), 1) := dk_2 (bs_at BX11_force_0 1 rfl)
theorem dX11_force_2 : decode cX11_force 2 = .ok (.if_icmp .eq 27, 3) := dk_159 0 27 (bs_at BX11_force_0 2 rfl) rfl
theorem dX11_force_5 : decode cX11_force 5 = .ok (.iload_n 1, 1) := dk_27 (bs_at BX11_force_0 3 rfl)
theorem dX11_force_6 : decode cX11_force 6 = .ok (.iconst 0, 1) := dk_3 (bs_at BX11_force_0 4 rfl)
theorem dX11_force_7 : decode cX11_force 7 = .ok (.aload_n 0, 1) := dk_42 (bs_at BX11_force_0 5 rfl)
theorem dX11_force_8 : decode cX11_force 8 = .ok (.getfield 10, 3) := dk_180 0 10 (bs_at BX11_force_0 6 rfl) rfl
theorem dX11_force_11 : decode cX11_force 11 = .ok (.getfield 173, 3) := dk_180 0 173 (bs_at BX11_force_0 7 rfl) rfl
theorem dX11_force_14 : decode cX11_force 14 = .ok (.iconst 1, 1) := dk_4 (bs_at BX11_force_0 8 rfl)
theorem dX11_force_15 : decode cX11_force 15 = .ok (.isub, 1) := dk_100 (bs_at BX11_force_0 9 rfl)
theorem dX11_force_16 : decode cX11_force 16 = .ok (.invokestatic 97, 3) := dk_184 0 97 (bs_at BX11_force_0 10 rfl) rfl
theorem dX11_force_19 : decode cX11_force 19 = .ok (.ifCond .ne 10, 3) := dk_154 0 10 (bs_at BX11_force_0 11 rfl) rfl
theorem dX11_force_22 : decode cX11_force 22 = .ok (.aload_n 0, 1) := dk_42 (bs_at BX11_force_0 12 rfl)
theorem dX11_force_23 : decode cX11_force 23 = .ok (.bipush (-2), 2) := dk_16 254 (bs_at BX11_force_0 13 rfl) rfl
theorem dX11_force_25 : decode cX11_force 25 = .ok (.invokevirtual 101, 3) := dk_182 0 101 (bs_at BX11_force_0 14 rfl) rfl
theorem dX11_force_28 : decode cX11_force 28 = .ok (.ireturn, 1) := dk_172 (bs_at BX11_force_0 15 rfl)
theorem dX11_force_29 : decode cX11_force 29 = .ok (.aload_n 0, 1) := dk_42 (bs_at BX11_force_0 16 rfl)
theorem dX11_force_30 : decode cX11_force 30 = .ok (.getfield 10, 3) := dk_180 0 10 (bs_at BX11_force_0 17 rfl) rfl
theorem dX11_force_33 : decode cX11_force 33 = .ok (.getfield 203, 3) := dk_180 0 203 (bs_at BX11_force_0 18 rfl) rfl
theorem dX11_force_36 : decode cX11_force 36 = .ok (.istore_n 2, 1) := dk_61 (bs_at BX11_force_0 19 rfl)
theorem dX11_force_37 : decode cX11_force 37 = .ok (.aload_n 0, 1) := dk_42 (bs_at BX11_force_0 20 rfl)
theorem dX11_force_38 : decode cX11_force 38 = .ok (.getfield 10, 3) := dk_180 0 10 (bs_at BX11_force_0 21 rfl) rfl
theorem dX11_force_41 : decode cX11_force 41 = .ok (.iload_n 1, 1) := dk_27 (bs_at BX11_force_0 22 rfl)
theorem dX11_force_42 : decode cX11_force 42 = .ok (.putfield 203, 3) := dk_181 0 203 (bs_at BX11_force_0 23 rfl) rfl
theorem BX11_force_45 : bsegs (ByteArray.data cX11_force |>.toList.drop 45) 45 [(45, [42]), (46, [28]), (47, [182, 0, 118]), (50, [172])] = true := by decide +kernel
theorem dX11_force_45 : decode cX11_force 45 = .ok (.aload_n 0, 1) := dk_42 (bs_at BX11_force_45 0 rfl)
theorem dX11_force_46 : decode cX11_force 46 = .ok (.iload_n 2, 1) := dk_28 (bs_at BX11_force_45 1 rfl)
theorem dX11_force_47 : decode cX11_force 47 = .ok (.invokevirtual 118, 3) := dk_182 0 118 (bs_at BX11_force_45 2 rfl) rfl
theorem dX11_force_50 : decode cX11_force 50 = .ok (.ireturn, 1) := dk_172 (bs_at BX11_force_45 3 rfl)
theorem BX11_discord_0 : bsegs (ByteArray.data cX11_discord |>.toList.drop 0) 0 [(0, [42]), (1, [180, 0, 50]), (4, [42]), (5, [180, 0, 10]), (8, [182, 0, 206]), (11, [172])] = true := by decide +kernel
theorem dX11_discord_0 : decode cX11_discord 0 = .ok (.aload_n 0, 1) := dk_42 (bs_at BX11_discord_0 0 rfl)
theorem dX11_discord_1 : decode cX11_discord 1 = .ok (.getfield 50, 3) := dk_180 0 50 (bs_at BX11_discord_0 1 rfl) rfl
theorem dX11_discord_4 : decode cX11_discord 4 = .ok (.aload_n 0, 1) := dk_42 (bs_at BX11_discord_0 2 rfl)
theorem dX11_discord_5 : decode cX11_discord 5 = .ok (.getfield 10, 3) := dk_180 0 10 (bs_at BX11_discord_0 3 rfl) rfl
theorem dX11_discord_8 : decode cX11_discord 8 = .ok (.invokevirtual 206, 3) := dk_182 0 206 (bs_at BX11_discord_0 4 rfl) rfl
theorem dX11_discord_11 : decode cX11_discord 11 = .ok (.ireturn, 1) := dk_172 (bs_at BX11_discord_0 5 rfl)
theorem BX11_sounds_0 : bsegs (ByteArray.data cX11_sounds |>.toList.drop 0) 0 [(0, [27]), (28, [42]), (29, [180, 0, 10]), (32, [182, 0, 210]), (35, [172]), (36, [42]), (37, [180, 0, 10]), (40, [182, 0, 214]), (43, [172]), (44, [42]), (45, [180, 0, 10]), (48, [182, 0, 217]), (51, [153, 0, 7]), (54, [4]), (55, [167, 0, 4]), (58, [3]), (59, [172]), (60, [2]), (61, [172])] = true := by decide +kernel
theorem dX11_sounds_0 : decode cX11_sounds 0 = .ok (.iload_n 1, 1) := dk_27 (bs_at BX11_sounds_0 0 rfl)
theorem dX11_sounds_28 : decode cX11_sounds 28 = .ok (.aload_n 0, 1) := dk_42 (bs_at BX11_sounds_0 1 rfl)
theorem dX11_sounds_29 : decode cX11_sounds 29 = .ok (.getfield 10, 3) := dk_180 0 10 (bs_at BX11_sounds_0 2 rfl) rfl
theorem dX11_sounds_32 : decode cX11_sounds 32 = .ok (.invokevirtual 210, 3) := dk_182 0 210 (bs_at BX11_sounds_0 3 rfl) rfl
theorem dX11_sounds_35 : decode cX11_sounds 35 = .ok (.ireturn, 1) := dk_172 (bs_at BX11_sounds_0 4 rfl)
theorem dX11_sounds_36 : decode cX11_sounds 36 = .ok (.aload_n 0, 1) := dk_42 (bs_at BX11_sounds_0 5 rfl)
theorem dX11_sounds_37 : decode cX11_sounds 37 = .ok (.getfield 10, 3) := dk_180 0 10 (bs_at BX11_sounds_0 6 rfl) rfl
theorem dX11_sounds_40 : decode cX11_sounds 40 = .ok (.invokevirtual 214, 3) := dk_182 0 214 (bs_at BX11_sounds_0 7 rfl) rfl
theorem dX11_sounds_43 : decode cX11_sounds 43 = .ok (.ireturn, 1) := dk_172 (bs_at BX11_sounds_0 8 rfl)
theorem dX11_sounds_44 : decode cX11_sounds 44 = .ok (.aload_n 0, 1) := dk_42 (bs_at BX11_sounds_0 9 rfl)
theorem dX11_sounds_45 : decode cX11_sounds 45 = .ok (.getfield 10, 3) := dk_180 0 10 (bs_at BX11_sounds_0 10 rfl) rfl
theorem dX11_sounds_48 : decode cX11_sounds 48 = .ok (.invokevirtual 217, 3) := dk_182 0 217 (bs_at BX11_sounds_0 11 rfl) rfl
theorem dX11_sounds_51 : decode cX11_sounds 51 = .ok (.ifCond .eq 7, 3) := dk_153 0 7 (bs_at BX11_sounds_0 12 rfl) rfl
theorem dX11_sounds_54 : decode cX11_sounds 54 = .ok (.iconst 1, 1) := dk_4 (bs_at BX11_sounds_0 13 rfl)
theorem dX11_sounds_55 : decode cX11_sounds 55 = .ok (.goto 4, 3) := dk_167 0 4 (bs_at BX11_sounds_0 14 rfl) rfl
theorem dX11_sounds_58 : decode cX11_sounds 58 = .ok (.iconst 0, 1) := dk_3 (bs_at BX11_sounds_0 15 rfl)
theorem dX11_sounds_59 : decode cX11_sounds 59 = .ok (.ireturn, 1) := dk_172 (bs_at BX11_sounds_0 16 rfl)
theorem dX11_sounds_60 : decode cX11_sounds 60 = .ok (.iconst (-1), 1) := dk_2 (bs_at BX11_sounds_0 17 rfl)
theorem dX11_sounds_61 : decode cX11_sounds 61 = .ok (.ireturn, 1) := dk_172 (bs_at BX11_sounds_0 18 rfl)
theorem BX11_stoke_0 : bsegs (ByteArray.data cX11_stoke |>.toList.drop 0) 0 [(0, [42]), (1, [180, 0, 61]), (4, [42]), (5, [180, 0, 10]), (8, [182, 0, 221]), (11, [42]), (12, [3]), (13, [42]), (14, [180, 0, 50]), (17, [42]), (18, [180, 0, 10]), (21, [27]), (22, [182, 0, 225]), (25, [182, 0, 229]), (28, [172])] = true := by decide +kernel
theorem dX11_stoke_0 : decode cX11_stoke 0 = .ok (.aload_n 0, 1) := dk_42 (bs_at BX11_stoke_0 0 rfl)
theorem dX11_stoke_1 : decode cX11_stoke 1 = .ok (.getfield 61, 3) := dk_180 0 61 (bs_at BX11_stoke_0 1 rfl) rfl
theorem dX11_stoke_4 : decode cX11_stoke 4 = .ok (.aload_n 0, 1) := dk_42 (bs_at BX11_stoke_0 2 rfl)
theorem dX11_stoke_5 : decode cX11_stoke 5 = .ok (.getfield 10, 3) := dk_180 0 10 (bs_at BX11_stoke_0 3 rfl) rfl
theorem dX11_stoke_8 : decode cX11_stoke 8 = .ok (.invokevirtual 221, 3) := dk_182 0 221 (bs_at BX11_stoke_0 4 rfl) rfl
theorem dX11_stoke_11 : decode cX11_stoke 11 = .ok (.aload_n 0, 1) := dk_42 (bs_at BX11_stoke_0 5 rfl)
theorem dX11_stoke_12 : decode cX11_stoke 12 = .ok (.iconst 0, 1) := dk_3 (bs_at BX11_stoke_0 6 rfl)
theorem dX11_stoke_13 : decode cX11_stoke 13 = .ok (.aload_n 0, 1) := dk_42 (bs_at BX11_stoke_0 7 rfl)
theorem dX11_stoke_14 : decode cX11_stoke 14 = .ok (.getfield 50, 3) := dk_180 0 50 (bs_at BX11_stoke_0 8 rfl) rfl
theorem dX11_stoke_17 : decode cX11_stoke 17 = .ok (.aload_n 0, 1) := dk_42 (bs_at BX11_stoke_0 9 rfl)
theorem dX11_stoke_18 : decode cX11_stoke 18 = .ok (.getfield 10, 3) := dk_180 0 10 (bs_at BX11_stoke_0 10 rfl) rfl
theorem dX11_stoke_21 : decode cX11_stoke 21 = .ok (.iload_n 1, 1) := dk_27 (bs_at BX11_stoke_0 11 rfl)
theorem dX11_stoke_22 : decode cX11_stoke 22 = .ok (.invokevirtual 225, 3) := dk_182 0 225 (bs_at BX11_stoke_0 12 rfl) rfl
theorem dX11_stoke_25 : decode cX11_stoke 25 = .ok (.invokevirtual 229, 3) := dk_182 0 229 (bs_at BX11_stoke_0 13 rfl) rfl
theorem dX11_stoke_28 : decode cX11_stoke 28 = .ok (.ireturn, 1) := dk_172 (bs_at BX11_stoke_0 14 rfl)
theorem BX11_damp_0 : bsegs (ByteArray.data cX11_damp |>.toList.drop 0) 0 [(0, [42]), (1, [180, 0, 61]), (4, [42]), (5, [180, 0, 10]), (8, [182, 0, 221]), (11, [42]), (12, [4]), (13, [42]), (14, [180, 0, 50]), (17, [42]), (18, [180, 0, 10]), (21, [27]), (22, [28]), (23, [182, 0, 232]), (26, [182, 0, 229]), (29, [172])] = true := by decide +kernel
theorem dX11_damp_0 : decode cX11_damp 0 = .ok (.aload_n 0, 1) := dk_42 (bs_at BX11_damp_0 0 rfl)
theorem dX11_damp_1 : decode cX11_damp 1 = .ok (.getfield 61, 3) := dk_180 0 61 (bs_at BX11_damp_0 1 rfl) rfl
theorem dX11_damp_4 : decode cX11_damp 4 = .ok (.aload_n 0, 1) := dk_42 (bs_at BX11_damp_0 2 rfl)
theorem dX11_damp_5 : decode cX11_damp 5 = .ok (.getfield 10, 3) := dk_180 0 10 (bs_at BX11_damp_0 3 rfl) rfl
theorem dX11_damp_8 : decode cX11_damp 8 = .ok (.invokevirtual 221, 3) := dk_182 0 221 (bs_at BX11_damp_0 4 rfl) rfl
theorem dX11_damp_11 : decode cX11_damp 11 = .ok (.aload_n 0, 1) := dk_42 (bs_at BX11_damp_0 5 rfl)
theorem dX11_damp_12 : decode cX11_damp 12 = .ok (.iconst 1, 1) := dk_4 (bs_at BX11_damp_0 6 rfl)
theorem dX11_damp_13 : decode cX11_damp 13 = .ok (.aload_n 0, 1) := dk_42 (bs_at BX11_damp_0 7 rfl)
theorem dX11_damp_14 : decode cX11_damp 14 = .ok (.getfield 50, 3) := dk_180 0 50 (bs_at BX11_damp_0 8 rfl) rfl
theorem dX11_damp_17 : decode cX11_damp 17 = .ok (.aload_n 0, 1) := dk_42 (bs_at BX11_damp_0 9 rfl)
theorem dX11_damp_18 : decode cX11_damp 18 = .ok (.getfield 10, 3) := dk_180 0 10 (bs_at BX11_damp_0 10 rfl) rfl
theorem dX11_damp_21 : decode cX11_damp 21 = .ok (.iload_n 1, 1) := dk_27 (bs_at BX11_damp_0 11 rfl)
theorem dX11_damp_22 : decode cX11_damp 22 = .ok (.iload_n 2, 1) := dk_28 (bs_at BX11_damp_0 12 rfl)
theorem dX11_damp_23 : decode cX11_damp 23 = .ok (.invokevirtual 232, 3) := dk_182 0 232 (bs_at BX11_damp_0 13 rfl) rfl
theorem dX11_damp_26 : decode cX11_damp 26 = .ok (.invokevirtual 229, 3) := dk_182 0 229 (bs_at BX11_damp_0 14 rfl) rfl
theorem dX11_damp_29 : decode cX11_damp 29 = .ok (.ireturn, 1) := dk_172 (bs_at BX11_damp_0 15 rfl)
theorem BX11_buy_0 : bsegs (ByteArray.data cX11_buy |>.toList.drop 0) 0 [(0, [42]), (1, [180, 0, 61]), (4, [42]), (5, [180, 0, 10]), (8, [182, 0, 221]), (11, [42]), (12, [5]), (13, [42]), (14, [180, 0, 50]), (17, [42]), (18, [180, 0, 10]), (21, [27]), (22, [28]), (23, [182, 0, 236]), (26, [182, 0, 229]), (29, [172])] = true := by decide +kernel
theorem dX11_buy_0 : decode cX11_buy 0 = .ok (.aload_n 0, 1) := dk_42 (bs_at BX11_buy_0 0 rfl)
theorem dX11_buy_1 : decode cX11_buy 1 = .ok (.getfield 61, 3) := dk_180 0 61 (bs_at BX11_buy_0 1 rfl) rfl
theorem dX11_buy_4 : decode cX11_buy 4 = .ok (.aload_n 0, 1) := dk_42 (bs_at BX11_buy_0 2 rfl)
theorem dX11_buy_5 : decode cX11_buy 5 = .ok (.getfield 10, 3) := dk_180 0 10 (bs_at BX11_buy_0 3 rfl) rfl
theorem dX11_buy_8 : decode cX11_buy 8 = .ok (.invokevirtual 221, 3) := dk_182 0 221 (bs_at BX11_buy_0 4 rfl) rfl
theorem dX11_buy_11 : decode cX11_buy 11 = .ok (.aload_n 0, 1) := dk_42 (bs_at BX11_buy_0 5 rfl)
theorem dX11_buy_12 : decode cX11_buy 12 = .ok (.iconst 2, 1) := dk_5 (bs_at BX11_buy_0 6 rfl)
theorem dX11_buy_13 : decode cX11_buy 13 = .ok (.aload_n 0, 1) := dk_42 (bs_at BX11_buy_0 7 rfl)
theorem dX11_buy_14 : decode cX11_buy 14 = .ok (.getfield 50, 3) := dk_180 0 50 (bs_at BX11_buy_0 8 rfl) rfl
theorem dX11_buy_17 : decode cX11_buy 17 = .ok (.aload_n 0, 1) := dk_42 (bs_at BX11_buy_0 9 rfl)
theorem dX11_buy_18 : decode cX11_buy 18 = .ok (.getfield 10, 3) := dk_180 0 10 (bs_at BX11_buy_0 10 rfl) rfl
theorem dX11_buy_21 : decode cX11_buy 21 = .ok (.iload_n 1, 1) := dk_27 (bs_at BX11_buy_0 11 rfl)
theorem dX11_buy_22 : decode cX11_buy 22 = .ok (.iload_n 2, 1) := dk_28 (bs_at BX11_buy_0 12 rfl)
theorem dX11_buy_23 : decode cX11_buy 23 = .ok (.invokevirtual 236, 3) := dk_182 0 236 (bs_at BX11_buy_0 13 rfl) rfl
theorem dX11_buy_26 : decode cX11_buy 26 = .ok (.invokevirtual 229, 3) := dk_182 0 229 (bs_at BX11_buy_0 14 rfl) rfl
theorem dX11_buy_29 : decode cX11_buy 29 = .ok (.ireturn, 1) := dk_172 (bs_at BX11_buy_0 15 rfl)
theorem BX11_pass_0 : bsegs (ByteArray.data cX11_pass |>.toList.drop 0) 0 [(0, [42]), (1, [180, 0, 61]), (4, [42]), (5, [180, 0, 10]), (8, [182, 0, 221]), (11, [42]), (12, [6]), (13, [42]), (14, [180, 0, 50]), (17, [42]), (18, [180, 0, 10]), (21, [182, 0, 239]), (24, [182, 0, 229]), (27, [172])] = true := by decide +kernel
theorem dX11_pass_0 : decode cX11_pass 0 = .ok (.aload_n 0, 1) := dk_42 (bs_at BX11_pass_0 0 rfl)
theorem dX11_pass_1 : decode cX11_pass 1 = .ok (.getfield 61, 3) := dk_180 0 61 (bs_at BX11_pass_0 1 rfl) rfl
theorem dX11_pass_4 : decode cX11_pass 4 = .ok (.aload_n 0, 1) := dk_42 (bs_at BX11_pass_0 2 rfl)
theorem dX11_pass_5 : decode cX11_pass 5 = .ok (.getfield 10, 3) := dk_180 0 10 (bs_at BX11_pass_0 3 rfl) rfl
theorem dX11_pass_8 : decode cX11_pass 8 = .ok (.invokevirtual 221, 3) := dk_182 0 221 (bs_at BX11_pass_0 4 rfl) rfl
theorem dX11_pass_11 : decode cX11_pass 11 = .ok (.aload_n 0, 1) := dk_42 (bs_at BX11_pass_0 5 rfl)
theorem dX11_pass_12 : decode cX11_pass 12 = .ok (.iconst 3, 1) := dk_6 (bs_at BX11_pass_0 6 rfl)
theorem dX11_pass_13 : decode cX11_pass 13 = .ok (.aload_n 0, 1) := dk_42 (bs_at BX11_pass_0 7 rfl)
theorem dX11_pass_14 : decode cX11_pass 14 = .ok (.getfield 50, 3) := dk_180 0 50 (bs_at BX11_pass_0 8 rfl) rfl
theorem dX11_pass_17 : decode cX11_pass 17 = .ok (.aload_n 0, 1) := dk_42 (bs_at BX11_pass_0 9 rfl)
theorem dX11_pass_18 : decode cX11_pass 18 = .ok (.getfield 10, 3) := dk_180 0 10 (bs_at BX11_pass_0 10 rfl) rfl
theorem dX11_pass_21 : decode cX11_pass 21 = .ok (.invokevirtual 239, 3) := dk_182 0 239 (bs_at BX11_pass_0 11 rfl) rfl
theorem dX11_pass_24 : decode cX11_pass 24 = .ok (.invokevirtual 229, 3) := dk_182 0 229 (bs_at BX11_pass_0 12 rfl) rfl
theorem dX11_pass_27 : decode cX11_pass 27 = .ok (.ireturn, 1) := dk_172 (bs_at BX11_pass_0 13 rfl)
theorem BX11_undo_0 : bsegs (ByteArray.data cX11_undo |>.toList.drop 0) 0 [(0, [42]), (1, [180, 0, 61]), (4, [42]), (5, [180, 0, 10]), (8, [182, 0, 242]), (11, [60]), (12, [27]), (13, [2]), (14, [160, 0, 12]), (17, [42]), (18, [16, 253]), (20, [182, 0, 101]), (23, [167, 0, 8]), (26, [42]), (27, [27]), (28, [182, 0, 118]), (31, [172])] = true := by decide +kernel
theorem dX11_undo_0 : decode cX11_undo 0 = .ok (.aload_n 0, 1) := dk_42 (bs_at BX11_undo_0 0 rfl)
theorem dX11_undo_1 : decode cX11_undo 1 = .ok (.getfield 61, 3) := dk_180 0 61 (bs_at BX11_undo_0 1 rfl) rfl
theorem dX11_undo_4 : decode cX11_undo 4 = .ok (.aload_n 0, 1) := dk_42 (bs_at BX11_undo_0 2 rfl)
theorem dX11_undo_5 : decode cX11_undo 5 = .ok (.getfield 10, 3) := dk_180 0 10 (bs_at BX11_undo_0 3 rfl) rfl
theorem dX11_undo_8 : decode cX11_undo 8 = .ok (.invokevirtual 242, 3) := dk_182 0 242 (bs_at BX11_undo_0 4 rfl) rfl
theorem dX11_undo_11 : decode cX11_undo 11 = .ok (.istore_n 1, 1) := dk_60 (bs_at BX11_undo_0 5 rfl)
theorem dX11_undo_12 : decode cX11_undo 12 = .ok (.iload_n 1, 1) := dk_27 (bs_at BX11_undo_0 6 rfl)
theorem dX11_undo_13 : decode cX11_undo 13 = .ok (.iconst (-1), 1) := dk_2 (bs_at BX11_undo_0 7 rfl)
theorem dX11_undo_14 : decode cX11_undo 14 = .ok (.if_icmp .ne 12, 3) := dk_160 0 12 (bs_at BX11_undo_0 8 rfl) rfl
theorem dX11_undo_17 : decode cX11_undo 17 = .ok (.aload_n 0, 1) := dk_42 (bs_at BX11_undo_0 9 rfl)
theorem dX11_undo_18 : decode cX11_undo 18 = .ok (.bipush (-3), 2) := dk_16 253 (bs_at BX11_undo_0 10 rfl) rfl
theorem dX11_undo_20 : decode cX11_undo 20 = .ok (.invokevirtual 101, 3) := dk_182 0 101 (bs_at BX11_undo_0 11 rfl) rfl
theorem dX11_undo_23 : decode cX11_undo 23 = .ok (.goto 8, 3) := dk_167 0 8 (bs_at BX11_undo_0 12 rfl) rfl
theorem dX11_undo_26 : decode cX11_undo 26 = .ok (.aload_n 0, 1) := dk_42 (bs_at BX11_undo_0 13 rfl)
theorem dX11_undo_27 : decode cX11_undo 27 = .ok (.iload_n 1, 1) := dk_27 (bs_at BX11_undo_0 14 rfl)
theorem dX11_undo_28 : decode cX11_undo 28 = .ok (.invokevirtual 118, 3) := dk_182 0 118 (bs_at BX11_undo_0 15 rfl) rfl
theorem dX11_undo_31 : decode cX11_undo 31 = .ok (.ireturn, 1) := dk_172 (bs_at BX11_undo_0 16 rfl)
theorem ggX11_force_X11_accept : GoodIn wsX11_force wsX11_accept := gi_ch ch_X11_force ch_X11_accept (by decide +kernel)
theorem gX11_force_X11_accept : GoodIn wsX11_force (wsV RX11 118 RX11 yX11_accept wsX11_accept) := gi_ch ch_X11_force (ch_v [390, 391, 6, 144] rfl ch_X11_accept) (by decide +kernel)
theorem ggX11_force_X11_within : GoodIn wsX11_force wsX11_within := gi_ch ch_X11_force ch_X11_within (by decide +kernel)
theorem gX11_force_X11_within : GoodIn wsX11_force (va_wsS RX11 97 yX11_within wsX11_within) := gi_ch ch_X11_force (ch_s [372, 373, 144] rfl ch_X11_within) (by decide +kernel)
theorem ggX11_force_X11_refuse : GoodIn wsX11_force wsX11_refuse := gi_ch ch_X11_force ch_X11_refuse (by decide +kernel)
theorem gX11_force_X11_refuse : GoodIn wsX11_force (wsV RX11 101 RX11 yX11_refuse wsX11_refuse) := gi_ch ch_X11_force (ch_v [375, 376, 0, 144] rfl ch_X11_refuse) (by decide +kernel)
theorem ggX11_discord_X10_discords : GoodIn wsX11_discord wsX10_discords := gi_ch ch_X11_discord ch_X10_discords (by decide +kernel)
set_option maxRecDepth 20000 in
theorem gX11_discord_X10_discords_n206 : GoodIn wsX11_discord (wsX10_discords) := ggX11_discord_X10_discords
theorem ggX11_sounds_X9_notesNow : GoodIn wsX11_sounds wsX9_notesNow := gi_ch ch_X11_sounds ch_X9_notesNow (by decide +kernel)
set_option maxRecDepth 20000 in
theorem gX11_sounds_X9_notesNow_n210 : GoodIn wsX11_sounds (wsX9_notesNow) := ggX11_sounds_X9_notesNow
theorem ggX11_sounds_X9_thirdsNow : GoodIn wsX11_sounds wsX9_thirdsNow := gi_ch ch_X11_sounds ch_X9_thirdsNow (by decide +kernel)
set_option maxRecDepth 20000 in
theorem gX11_sounds_X9_thirdsNow_n214 : GoodIn wsX11_sounds (wsX9_thirdsNow) := ggX11_sounds_X9_thirdsNow
theorem ggX11_sounds_X9_meetsChord : GoodIn wsX11_sounds wsX9_meetsChord := gi_ch ch_X11_sounds ch_X9_meetsChord (by decide +kernel)
set_option maxRecDepth 20000 in
theorem gX11_sounds_X9_meetsChord_n217 : GoodIn wsX11_sounds (wsX9_meetsChord) := ggX11_sounds_X9_meetsChord
theorem ggX11_stoke_X2_draft : GoodIn wsX11_stoke wsX2_draft := gi_ch ch_X11_stoke ch_X2_draft (by decide +kernel)
set_option maxRecDepth 20000 in
theorem gX11_stoke_X2_draft_n221 : GoodIn wsX11_stoke (wsX2_draft) := ggX11_stoke_X2_draft
theorem ggX11_stoke_X10_kindle : GoodIn wsX11_stoke wsX10_kindle := gi_ch ch_X11_stoke ch_X10_kindle (by decide +kernel)
set_option maxRecDepth 20000 in
theorem gX11_stoke_X10_kindle_n225 : GoodIn wsX11_stoke (wsX10_kindle) := ggX11_stoke_X10_kindle
theorem ggX11_stoke_X11_settle : GoodIn wsX11_stoke wsX11_settle := gi_ch ch_X11_stoke ch_X11_settle (by decide +kernel)
theorem gX11_stoke_X11_settle : GoodIn wsX11_stoke (wsV RX11 229 RX11 yX11_settle wsX11_settle) := gi_ch ch_X11_stoke (ch_v [658, 659, 54, 144] rfl ch_X11_settle) (by decide +kernel)
theorem ggX11_damp_X2_draft : GoodIn wsX11_damp wsX2_draft := gi_ch ch_X11_damp ch_X2_draft (by decide +kernel)
set_option maxRecDepth 20000 in
theorem gX11_damp_X2_draft_n221 : GoodIn wsX11_damp (wsX2_draft) := ggX11_damp_X2_draft
theorem ggX11_damp_X10_quench : GoodIn wsX11_damp wsX10_quench := gi_ch ch_X11_damp ch_X10_quench (by decide +kernel)
set_option maxRecDepth 20000 in
theorem gX11_damp_X10_quench_n232 : GoodIn wsX11_damp (wsX10_quench) := ggX11_damp_X10_quench
theorem ggX11_damp_X11_settle : GoodIn wsX11_damp wsX11_settle := gi_ch ch_X11_damp ch_X11_settle (by decide +kernel)
theorem gX11_damp_X11_settle : GoodIn wsX11_damp (wsV RX11 229 RX11 yX11_settle wsX11_settle) := gi_ch ch_X11_damp (ch_v [658, 659, 54, 144] rfl ch_X11_settle) (by decide +kernel)
theorem ggX11_buy_X2_draft : GoodIn wsX11_buy wsX2_draft := gi_ch ch_X11_buy ch_X2_draft (by decide +kernel)
set_option maxRecDepth 20000 in
theorem gX11_buy_X2_draft_n221 : GoodIn wsX11_buy (wsX2_draft) := ggX11_buy_X2_draft
theorem ggX11_buy_X10_supply : GoodIn wsX11_buy wsX10_supply := gi_ch ch_X11_buy ch_X10_supply (by decide +kernel)
set_option maxRecDepth 20000 in
theorem gX11_buy_X10_supply_n236 : GoodIn wsX11_buy (wsX10_supply) := ggX11_buy_X10_supply
theorem ggX11_buy_X11_settle : GoodIn wsX11_buy wsX11_settle := gi_ch ch_X11_buy ch_X11_settle (by decide +kernel)
theorem gX11_buy_X11_settle : GoodIn wsX11_buy (wsV RX11 229 RX11 yX11_settle wsX11_settle) := gi_ch ch_X11_buy (ch_v [658, 659, 54, 144] rfl ch_X11_settle) (by decide +kernel)
theorem ggX11_pass_X2_draft : GoodIn wsX11_pass wsX2_draft := gi_ch ch_X11_pass ch_X2_draft (by decide +kernel)
set_option maxRecDepth 20000 in
theorem gX11_pass_X2_draft_n221 : GoodIn wsX11_pass (wsX2_draft) := ggX11_pass_X2_draft
theorem ggX11_pass_X10_nextHour : GoodIn wsX11_pass wsX10_nextHour := gi_ch ch_X11_pass ch_X10_nextHour (by decide +kernel)
set_option maxRecDepth 20000 in
theorem gX11_pass_X10_nextHour_n239 : GoodIn wsX11_pass (wsX10_nextHour) := ggX11_pass_X10_nextHour
theorem ggX11_pass_X11_settle : GoodIn wsX11_pass wsX11_settle := gi_ch ch_X11_pass ch_X11_settle (by decide +kernel)
theorem gX11_pass_X11_settle : GoodIn wsX11_pass (wsV RX11 229 RX11 yX11_settle wsX11_settle) := gi_ch ch_X11_pass (ch_v [658, 659, 54, 144] rfl ch_X11_settle) (by decide +kernel)
theorem ggX11_undo_X2_takeBack : GoodIn wsX11_undo wsX2_takeBack := gi_ch ch_X11_undo ch_X2_takeBack (by decide +kernel)
set_option maxRecDepth 20000 in
theorem gX11_undo_X2_takeBack_n242 : GoodIn wsX11_undo (wsX2_takeBack) := ggX11_undo_X2_takeBack
theorem ggX11_undo_X11_accept : GoodIn wsX11_undo wsX11_accept := gi_ch ch_X11_undo ch_X11_accept (by decide +kernel)
theorem gX11_undo_X11_accept : GoodIn wsX11_undo (wsV RX11 118 RX11 yX11_accept wsX11_accept) := gi_ch ch_X11_undo (ch_v [390, 391, 6, 144] rfl ch_X11_accept) (by decide +kernel)
theorem ggX11_undo_X11_refuse : GoodIn wsX11_undo wsX11_refuse := gi_ch ch_X11_undo ch_X11_refuse (by decide +kernel)
theorem gX11_undo_X11_refuse : GoodIn wsX11_undo (wsV RX11 101 RX11 yX11_refuse wsX11_refuse) := gi_ch ch_X11_undo (ch_v [375, 376, 0, 144] rfl ch_X11_refuse) (by decide +kernel)
set_option maxRecDepth 100000 in
noncomputable def E_w_fault (fl : Int32) : Int32 :=
  (fl : Int32)
set_option maxHeartbeats 4000000 in
set_option maxRecDepth 100000 in
theorem w_fault (l : Launch) (D : va_G) (K : Nat → ClassId) (o0 : Nat) (o_0 : Value) (o_1 : Value) (o_2 : Value) (o_3 : Value) (b0 : Nat) (o_5 : Value) (o_6 : Value) (o_7 : Value) (o_8 : Value) (o_9 : Value) (o_10 : Value) (o_11 : Value) (o_12 : Value) (o_13 : Value) (o_14 : Value) (o_15 : Value) (o_16 : Value) (r_0 : Value) (r_1 : Value) (r_2 : Value) (r_3 : Value) (fl : Int32) (sz : Nat) : Met l yX11_fault wsX11_fault ({ frames := 0, cells := 0, slots := 0, locals := 0 }) (va_Pc [.ref o0] (Pre D K [(o0, .inr (11, [o_0, o_1, o_2, o_3, .ref b0, o_5, o_6, o_7, o_8, o_9, o_10, o_11, o_12, o_13, o_14, o_15, o_16])), (b0, .inr (6, [r_0, r_1, r_2, r_3, .int fl]))] sz)) (vp_Si (fun r : Int32 => (r = E_w_fault fl) ∧ True)) 0 0 (fun _ => False) := by
  refine Met.ofW (cc := cX11_fault) (maxL := 1) (ret := (some .int)) (by decide +kernel) rfl ?_
  intro p e s m args below meth c s₁ B hml hv
  obtain ⟨rfl, hsz, hP, hK, hD0, hN⟩ := hv
  have hx := B.exec
  have hb := B.bytes
  have hr := B.returns
  have hts := atoms_spec (ws := wsX11_fault) B.pre
  have hown : s.vm.findClass RX11 = some m.cls := findClass_of_methodNamed B.named
  have hlocks := B.notSynchronized
  subst hsz
  have hD := hD0
  replace hP : va_P D vwCl [(o0, .inr (11, [o_0, o_1, o_2, o_3, .ref b0, o_5, o_6, o_7, o_8, o_9, o_10, o_11, o_12, o_13, o_14, o_15, o_16])), (b0, .inr (6, [r_0, r_1, r_2, r_3, .int fl]))] s.heap := hP
  have hl := lv_entry [.ref o0] (n := 1) (Nat.le_of_ble_eq_true rfl)
  rw [lg_entry_eq]
  generalize (lg_sl [.ref o0] ++ List.replicate (1 - (lg_sl [.ref o0]).length) Slot.unset).toArray = ls at hl ⊢
  have hl : lv_has ls 1 [(0, .ref o0)] := hl
  have hw6 : ∀ w ∈ wsX60, w ∈ wsX11_fault := fun w h => (List.mem_cons_of_mem _ (List.mem_append_right _ h))
  have hw11 : ∀ w ∈ wsX110, w ∈ wsX11_fault := fun w h => (List.mem_cons_of_mem _ (List.mem_append_left _ (List.mem_append_right _ h)))
  generalize hQ : MQ below _ _ s _ _ _ = Q
  have hE := E_w_fault.eq_def fl
  refine lv_aload_n hx hb dX11_fault_0 rfl (lv_at hl 0 rfl) ?_
  refine va_get (ci := 11) (v := .ref b0) (C := RX11) (T := TX11) (N := 17) hx hb hts hw11 hown hK hP 0 rfl rfl 4 (by decide +kernel) (hts _ mm_X11_fault_338) (fun _ h9 => h9) rfl dX11_fault_1 ?_
  refine va_getN (ci := 6) (v := .int fl) (C := RX6) (T := TX6) (N := 5) hx hb hts hw6 hown hK hP 1 rfl rfl 4 (by decide +kernel) (nst_use hN 133 rfl) (fun _ h9 => h9) rfl dX11_fault_4 ?_
  rw [← hQ]
  exact W.iret (v := fl) hx hb hr (fun t ht hW => ⟨_, rfl, ⟨hE.symm, trivial⟩, ht⟩) (fun q hq => by cases hq) dX11_fault_7
set_option maxRecDepth 100000 in
noncomputable def E_w_stopped (sp : Int32) : Int32 :=
  (sp : Int32)
set_option maxHeartbeats 4000000 in
set_option maxRecDepth 100000 in
theorem w_stopped (l : Launch) (D : va_G) (K : Nat → ClassId) (o0 : Nat) (o_0 : Value) (o_1 : Value) (o_2 : Value) (o_3 : Value) (o_4 : Value) (o_5 : Value) (e0 : Nat) (o_7 : Value) (o_8 : Value) (o_9 : Value) (o_10 : Value) (o_11 : Value) (o_12 : Value) (o_13 : Value) (o_14 : Value) (o_15 : Value) (o_16 : Value) (e_0 : Value) (e_1 : Value) (e_2 : Value) (e_3 : Value) (e_4 : Value) (e_5 : Value) (e_6 : Value) (sp : Int32) (sz : Nat) : Met l yX11_stopped wsX11_stopped ({ frames := 0, cells := 0, slots := 0, locals := 0 }) (va_Pc [.ref o0] (Pre D K [(o0, .inr (11, [o_0, o_1, o_2, o_3, o_4, o_5, .ref e0, o_7, o_8, o_9, o_10, o_11, o_12, o_13, o_14, o_15, o_16])), (e0, .inr (1, [e_0, e_1, e_2, e_3, e_4, e_5, e_6, .int sp]))] sz)) (vp_Si (fun r : Int32 => (r = E_w_stopped sp) ∧ True)) 0 0 (fun _ => False) := by
  refine Met.ofW (cc := cX11_stopped) (maxL := 1) (ret := (some .int)) (by decide +kernel) rfl ?_
  intro p e s m args below meth c s₁ B hml hv
  obtain ⟨rfl, hsz, hP, hK, hD0, hN⟩ := hv
  have hx := B.exec
  have hb := B.bytes
  have hr := B.returns
  have hts := atoms_spec (ws := wsX11_stopped) B.pre
  have hown : s.vm.findClass RX11 = some m.cls := findClass_of_methodNamed B.named
  have hlocks := B.notSynchronized
  subst hsz
  have hD := hD0
  replace hP : va_P D vwCl [(o0, .inr (11, [o_0, o_1, o_2, o_3, o_4, o_5, .ref e0, o_7, o_8, o_9, o_10, o_11, o_12, o_13, o_14, o_15, o_16])), (e0, .inr (1, [e_0, e_1, e_2, e_3, e_4, e_5, e_6, .int sp]))] s.heap := hP
  have hl := lv_entry [.ref o0] (n := 1) (Nat.le_of_ble_eq_true rfl)
  rw [lg_entry_eq]
  generalize (lg_sl [.ref o0] ++ List.replicate (1 - (lg_sl [.ref o0]).length) Slot.unset).toArray = ls at hl ⊢
  have hl : lv_has ls 1 [(0, .ref o0)] := hl
  have hw1 : ∀ w ∈ wsX10, w ∈ wsX11_stopped := fun w h => (List.mem_cons_of_mem _ (List.mem_append_right _ h))
  have hw11 : ∀ w ∈ wsX110, w ∈ wsX11_stopped := fun w h => (List.mem_cons_of_mem _ (List.mem_append_left _ (List.mem_append_right _ h)))
  generalize hQ : MQ below _ _ s _ _ _ = Q
  have hE := E_w_stopped.eq_def sp
  refine lv_aload_n hx hb dX11_stopped_0 rfl (lv_at hl 0 rfl) ?_
  refine va_get (ci := 11) (v := .ref e0) (C := RX11) (T := TX11) (N := 17) hx hb hts hw11 hown hK hP 0 rfl rfl 6 (by decide +kernel) (hts _ mm_X11_stopped_340) (fun _ h9 => h9) rfl dX11_stopped_1 ?_
  refine va_getN (ci := 1) (v := .int sp) (C := RX1) (T := TX1) (N := 8) hx hb hts hw1 hown hK hP 1 rfl rfl 7 (by decide +kernel) (nst_use hN 139 rfl) (fun _ h9 => h9) rfl dX11_stopped_4 ?_
  rw [← hQ]
  exact W.iret (v := sp) hx hb hr (fun t ht hW => ⟨_, rfl, ⟨hE.symm, trivial⟩, ht⟩) (fun q hq => by cases hq) dX11_stopped_7
set_option maxRecDepth 100000 in
noncomputable def E_w_force_j29 (x : Int32) (rb : Int32) (frf : Nat → Int32) (nf : Int32) : Int32 × Int32 × (Nat → Int32) × Int32 :=
  Lt (E_w_accept nf rb) (fun r_139 => ((r_139, 0, frf, x) : Int32 × Int32 × (Nat → Int32) × Int32))
set_option maxRecDepth 100000 in
noncomputable def E_w_force (x : Int32) (rb : Int32) (frf : Nat → Int32) (lt : Int32) (nf : Int32) : Int32 × Int32 × (Nat → Int32) × Int32 :=
  if x = (-1) then (E_w_force_j29 x rb frf nf) else (Lt (lt - 1 : Int32) (fun x_143 => Lt (E_w_within x 0 x_143) (fun r_144 => if r_144 = 1 then (E_w_force_j29 x rb frf nf) else (Lt2 (E_w_refuse (-2) rb frf) (fun r_151 u_152_2_1_0 => ((r_151, (-2), u_152_2_1_0, nf) : Int32 × Int32 × (Nat → Int32) × Int32))))))
set_option maxHeartbeats 4000000 in
set_option maxRecDepth 100000 in
theorem w_force (l : Launch) (D : va_G) (K : Nat → ClassId) (o0 : Nat) (x : Int32) (t0 : Nat) (o_1 : Value) (o_2 : Value) (o_3 : Value) (o_4 : Value) (o_5 : Value) (o_6 : Value) (o_7 : Value) (o_8 : Value) (o_9 : Value) (o_10 : Value) (o_11 : Value) (rf : Nat) (rb : Int32) (o_14 : Value) (o_15 : Value) (o_16 : Value) (frf : Nat → Int32) (k_0 : Value) (k_1 : Value) (k_2 : Value) (k_3 : Value) (k_4 : Value) (lt : Int32) (nf : Int32) (k_7 : Value) (k_8 : Value) (k_9 : Value) (sz : Nat) (zlt : 0 ≤ lt.toInt ∧ lt.toInt ≤ 6) : Met l yX11_force wsX11_force ({ frames := 2, cells := 0, slots := 0, locals := 44 }) (va_Pc [.ref o0, .int x] (Pre D K [(o0, .inr (11, [.ref t0, o_1, o_2, o_3, o_4, o_5, o_6, o_7, o_8, o_9, o_10, o_11, .ref rf, .int rb, o_14, o_15, o_16])), (rf, .inl (K 0, 5, .inl frf)), (t0, .inr (9, [k_0, k_1, k_2, k_3, k_4, .int lt, .int nf, k_7, k_8, k_9]))] sz)) (va_Qi (S := Su) (fun (r : Int32) (u : Su) => ((-2) ≤ (u.2.2.2.1 0).toInt ∧ (u.2.2.2.1 0).toInt ≤ 0) ∧ ((r, (u.2.2.2.1 0), (u.2.1 0), (u.2.2.2.1 1)) = E_w_force x rb frf lt nf) ∧ True) (fun u t => Wd D (va_A [(o0, .inr (11, [.ref t0, o_1, o_2, o_3, o_4, o_5, o_6, o_7, o_8, o_9, o_10, o_11, .ref rf, .int rb, o_14, o_15, o_16])), (rf, .inl (K 0, 5, .inl frf)), (t0, .inr (9, [k_0, k_1, k_2, k_3, k_4, .int lt, .int nf, k_7, k_8, k_9]))] sz) ((fun u => [(o0, .inr (11, [.ref t0, o_1, o_2, o_3, o_4, o_5, o_6, o_7, o_8, o_9, o_10, o_11, .ref rf, .int (u.2.2.2.1 0), o_14, o_15, o_16])), (rf, .inl (K 0, 5, .inl (u.2.1 0))), (t0, .inr (9, [k_0, k_1, k_2, k_3, k_4, .int lt, .int (u.2.2.2.1 1), k_7, k_8, k_9]))]) u) t) (va_A [(o0, .inr (11, [.ref t0, o_1, o_2, o_3, o_4, o_5, o_6, o_7, o_8, o_9, o_10, o_11, .ref rf, .int rb, o_14, o_15, o_16])), (rf, .inl (K 0, 5, .inl frf)), (t0, .inr (9, [k_0, k_1, k_2, k_3, k_4, .int lt, .int nf, k_7, k_8, k_9]))] sz)) 0 0 (va_A [(o0, .inr (11, [.ref t0, o_1, o_2, o_3, o_4, o_5, o_6, o_7, o_8, o_9, o_10, o_11, .ref rf, .int rb, o_14, o_15, o_16])), (rf, .inl (K 0, 5, .inl frf)), (t0, .inr (9, [k_0, k_1, k_2, k_3, k_4, .int lt, .int nf, k_7, k_8, k_9]))] sz) := by
  refine Met.ofW (cc := cX11_force) (maxL := 3) (ret := (some .int)) (by decide +kernel) rfl ?_
  intro p e s m args below meth c s₁ B hml hv
  obtain ⟨rfl, hsz, hP, hK, hD0, hN⟩ := hv
  have hx := B.exec
  have hb := B.bytes
  have hr := B.returns
  have hts := atoms_spec (ws := wsX11_force) B.pre
  have hown : s.vm.findClass RX11 = some m.cls := findClass_of_methodNamed B.named
  have hlocks := B.notSynchronized
  subst hsz
  have hD := hD0.self (sz := s.heap.size)
  generalize hAe : va_A [(o0, .inr (11, [.ref t0, o_1, o_2, o_3, o_4, o_5, o_6, o_7, o_8, o_9, o_10, o_11, .ref rf, .int rb, o_14, o_15, o_16])), (rf, .inl (K 0, 5, .inl frf)), (t0, .inr (9, [k_0, k_1, k_2, k_3, k_4, .int lt, .int nf, k_7, k_8, k_9]))] s.heap.size = A at hD ⊢
  have hA : ∀ q : Nat, s.heap.size ≤ q → A q := fun q h => by rw [← hAe]; exact Or.inr h
  clear hAe
  have hS : va_S A s.heap s.heap [] := va_S.rf
  replace hP : va_P D vwCl [(o0, .inr (11, [.ref t0, o_1, o_2, o_3, o_4, o_5, o_6, o_7, o_8, o_9, o_10, o_11, .ref rf, .int rb, o_14, o_15, o_16])), (rf, .inl (K 0, 5, .inl frf)), (t0, .inr (9, [k_0, k_1, k_2, k_3, k_4, .int lt, .int nf, k_7, k_8, k_9]))] s.heap := hP
  have hl := lv_entry [.ref o0, .int x] (n := 3) (Nat.le_of_ble_eq_true rfl)
  rw [lg_entry_eq]
  generalize (lg_sl [.ref o0, .int x] ++ List.replicate (3 - (lg_sl [.ref o0, .int x]).length) Slot.unset).toArray = ls at hl ⊢
  have hl : lv_has ls 3 [(0, .ref o0), (1, .int x)] := hl
  have hw9 : ∀ w ∈ wsX90, w ∈ wsX11_force := fun w h => (List.mem_cons_of_mem _ (List.mem_append_right _ h))
  have hw11 : ∀ w ∈ wsX110, w ∈ wsX11_force := fun w h => (List.mem_cons_of_mem _ (List.mem_append_left _ (List.mem_append_right _ h)))
  generalize hQ : MQ below _ _ s _ _ _ = Q
  have hE := E_w_force.eq_def x rb frf lt nf
  refine lv_iload_n hx hb dX11_force_0 rfl (lv_at hl 1 rfl) ?_
  refine lv_iconst (v := (-1)) hx hb dX11_force_1 (by decide +kernel) ?_
  have j_138 : ∀ (hk0_j_138 : (-1) ≤ x.toInt ∧ x.toInt ≤ 5) (hE : E_w_force x rb frf lt nf = E_w_force_j29 x rb frf nf) (H : Heap) (locs : List Loc) (hP : va_P D vwCl [(o0, .inr (11, [.ref t0, o_1, o_2, o_3, o_4, o_5, o_6, o_7, o_8, o_9, o_10, o_11, .ref rf, .int rb, o_14, o_15, o_16])), (rf, .inl (K 0, 5, .inl frf)), (t0, .inr (9, [k_0, k_1, k_2, k_3, k_4, .int lt, .int nf, k_7, k_8, k_9]))] H) (hD : va_D A [(o0, .inr (11, [.ref t0, o_1, o_2, o_3, o_4, o_5, o_6, o_7, o_8, o_9, o_10, o_11, .ref rf, .int rb, o_14, o_15, o_16])), (rf, .inl (K 0, 5, .inl frf)), (t0, .inr (9, [k_0, k_1, k_2, k_3, k_4, .int lt, .int nf, k_7, k_8, k_9]))]) (hS : va_S A s.heap H locs) (ls : Array Slot) (hl : lv_has ls 3 [(0, .ref o0), (1, .int x)]), W p l e ({ frames := 2, cells := 0, slots := 0, locals := 44 }) s m (([.ref o0, .int x] : List Value).toArray) below meth c H locs 0 0 Q (F0 m 29 ls []) := by
    clear hE hP hD hS hl
    intro hk0_j_138 hE H locs hP hD hS ls hl
    replace hE := hE.trans (E_w_force_j29.eq_def _ _ _ _)
    refine lv_aload_n hx hb dX11_force_29 rfl (lv_at hl 0 rfl) ?_
    refine va_get (ci := 11) (v := .ref t0) (C := RX11) (T := TX11) (N := 17) hx hb hts hw11 hown hK hP 0 rfl rfl 0 (by decide +kernel) (hts _ mm_X11_force_334) (fun _ h9 => h9) rfl dX11_force_30 ?_
    refine va_getN (ci := 9) (v := .int nf) (C := RX9) (T := TX9) (N := 10) hx hb hts hw9 hown hK hP 2 rfl rfl 6 (by decide +kernel) (nst_use hN 111 rfl) (fun _ h9 => h9) rfl dX11_force_33 ?_
    refine lv_istore_n (lv' := [(2, .int nf), (0, .ref o0), (1, .int x)]) hx hb dX11_force_36 rfl hl (by decide +kernel) rfl (fun ls hl => ?_)
    refine lv_aload_n hx hb dX11_force_37 rfl (lv_at hl 1 rfl) ?_
    refine va_get (ci := 11) (v := .ref t0) (C := RX11) (T := TX11) (N := 17) hx hb hts hw11 hown hK hP 0 rfl rfl 0 (by decide +kernel) (hts _ mm_X11_force_334) (fun _ h9 => h9) rfl dX11_force_38 ?_
    refine lv_iload_n hx hb dX11_force_41 rfl (lv_at hl 2 rfl) ?_
    refine va_putN (ci := 9) (v := .int x) (ty := .int) (C := RX9) (T := TX9) (N := 10) hx hb hts hw9 tyX9 tyX9_ok nmX9 hown hK hP hD hS 2 rfl rfl 6 (by decide +kernel) (nst_use hN 111 rfl) (fun _ h9 => h9) rfl (by decide +kernel) (by first | rfl | decide) (by first | rfl | decide) (Nat.le_of_ble_eq_true rfl) dX11_force_42 (fun H locs hP0 hD0 hS0 => ?_)
    clear hP hD hS
    have hP := hP0
    have hD := hD0
    have hS := hS0
    clear hP0 hD0 hS0
    replace hP : va_P D vwCl [(o0, .inr (11, [.ref t0, o_1, o_2, o_3, o_4, o_5, o_6, o_7, o_8, o_9, o_10, o_11, .ref rf, .int rb, o_14, o_15, o_16])), (rf, .inl (K 0, 5, .inl frf)), (t0, .inr (9, [k_0, k_1, k_2, k_3, k_4, .int lt, .int x, k_7, k_8, k_9]))] H := hP
    replace hD : va_D A [(o0, .inr (11, [.ref t0, o_1, o_2, o_3, o_4, o_5, o_6, o_7, o_8, o_9, o_10, o_11, .ref rf, .int rb, o_14, o_15, o_16])), (rf, .inl (K 0, 5, .inl frf)), (t0, .inr (9, [k_0, k_1, k_2, k_3, k_4, .int lt, .int x, k_7, k_8, k_9]))] := hD
    refine lv_aload_n hx hb dX11_force_45 rfl (lv_at hl 1 rfl) ?_
    refine lv_iload_n hx hb dX11_force_46 rfl (lv_at hl 0 rfl) ?_
    refine kci (S := Su) (wr := [(rf, .inl (K 0, 5, .inl frf)), (t0, .inr (9, [k_0, k_1, k_2, k_3, k_4, .int lt, .int x, k_7, k_8, k_9]))]) (va_runV (As := [.int nf]) (rest := []) ⟨hx, hb, hml, hown, hts⟩ (w_accept l D K o0 nf (.ref t0) o_1 o_2 o_3 o_4 o_5 o_6 o_7 o_8 o_9 o_10 o_11 (.ref rf) rb o_14 o_15 o_16 H.size) (cwV 1 hts gX11_force_X11_accept rfl rfl rfl (by decide +kernel) ⟨Nat.le_of_ble_eq_true rfl, Nat.le_of_ble_eq_true rfl⟩) (mkV hK hN (hP.sub [0] rfl) (hD.sub [0] (by decide +kernel) rfl) (ci := 11) (q0 := 0) rfl rfl) rfl rfl hl.1 rfl (lv_room (Nat.le_of_ble_eq_true rfl)) dX11_force_47 ⟨Nat.le_of_ble_eq_true rfl, Nat.le_of_ble_eq_true rfl⟩) hP hD hS hA [0] [1, 2] rfl rfl (by decide +kernel) (by decide +kernel) (fun r_139 u_140 H locs hw hP0 hD0 hS0 => ?_)
    clear hP hD hS
    have hP := hP0
    have hD := hD0
    have hS := hS0
    clear hP0 hD0 hS0
    replace hP : va_P D vwCl [(rf, .inl (K 0, 5, .inl frf)), (t0, .inr (9, [k_0, k_1, k_2, k_3, k_4, .int lt, .int x, k_7, k_8, k_9])), (o0, .inr (11, [.ref t0, o_1, o_2, o_3, o_4, o_5, o_6, o_7, o_8, o_9, o_10, o_11, .ref rf, .int 0, o_14, o_15, o_16]))] H := hP
    replace hD : va_D A [(rf, .inl (K 0, 5, .inl frf)), (t0, .inr (9, [k_0, k_1, k_2, k_3, k_4, .int lt, .int x, k_7, k_8, k_9])), (o0, .inr (11, [.ref t0, o_1, o_2, o_3, o_4, o_5, o_6, o_7, o_8, o_9, o_10, o_11, .ref rf, .int 0, o_14, o_15, o_16]))] := hD
    obtain ⟨hw, k_141, -⟩ := hw
    replace hE := hE.trans (Lt_in k_141)
    have er_r_139 := hw
    have hr_r_139 : r_139.toInt = nf.toInt := (congrArg Int32.toInt er_r_139).trans rfl
    rw [← hQ]
    have hP9 := hP.sub (ws' := [(o0, .inr (11, [.ref t0, o_1, o_2, o_3, o_4, o_5, o_6, o_7, o_8, o_9, o_10, o_11, .ref rf, .int 0, o_14, o_15, o_16])), (rf, .inl (K 0, 5, .inl frf)), (t0, .inr (9, [k_0, k_1, k_2, k_3, k_4, .int lt, .int x, k_7, k_8, k_9]))]) [2, 0, 1] rfl
    have hD9 := hD.sub (ws' := [(o0, .inr (11, [.ref t0, o_1, o_2, o_3, o_4, o_5, o_6, o_7, o_8, o_9, o_10, o_11, .ref rf, .int 0, o_14, o_15, o_16])), (rf, .inl (K 0, 5, .inl frf)), (t0, .inr (9, [k_0, k_1, k_2, k_3, k_4, .int lt, .int x, k_7, k_8, k_9]))]) [2, 0, 1] (by decide +kernel) rfl
    exact W.iret (v := r_139) hx hb hr (fun t ht hW => ⟨⟨r_139, ((fun _ => 0, fun i => match i with | _ => frf, fun _ => fun _ => 0, fun i => match i with | 0 => 0 | _ => x, fun _ => 0, fun _ => fun _ => none) : Su), rfl, ⟨(show (-2) ≤ (0 : Int32).toInt ∧ (0 : Int32).toInt ≤ 0 by decide), hE.symm, trivial⟩, (⟨by rw [ht]; exact hP9, hD9⟩ : Wd D A _ t)⟩, hS.F ht⟩) hS.2.2 dX11_force_50
  refine lv_icmp_eq (tgt := 29) hx hb dX11_force_2 (by decide +kernel) (fun c_142 => ?_) (fun c_142 => ?_)
  · have c_142i := i_eq (x := x.toInt) (y := (-1)) rfl rfl c_142
    replace hE := hE.trans (if_pos c_142)
    exact j_138  (by omega) hE _ _ hP hD hS ls (lv_sub hl [0, 1] rfl)
  · have c_142i := i_ne (x := x.toInt) (y := (-1)) rfl rfl c_142
    replace hE := hE.trans (if_neg c_142)
    refine lv_iload_n hx hb dX11_force_5 rfl (lv_at hl 1 rfl) ?_
    refine lv_iconst (v := 0) hx hb dX11_force_6 (by decide +kernel) ?_
    refine lv_aload_n hx hb dX11_force_7 rfl (lv_at hl 0 rfl) ?_
    refine va_get (ci := 11) (v := .ref t0) (C := RX11) (T := TX11) (N := 17) hx hb hts hw11 hown hK hP 0 rfl rfl 0 (by decide +kernel) (hts _ mm_X11_force_334) (fun _ h9 => h9) rfl dX11_force_8 ?_
    refine va_getN (ci := 9) (v := .int lt) (C := RX9) (T := TX9) (N := 10) hx hb hts hw9 hown hK hP 2 rfl rfl 5 (by decide +kernel) (nst_use hN 110 rfl) (fun _ h9 => h9) rfl dX11_force_11 ?_
    refine lv_iconst (v := 1) hx hb dX11_force_14 (by decide +kernel) ?_
    refine lv_isub hx hb dX11_force_15 ?_
    refine lv_topi (fun x_143 ex_143 => ?_)
    replace hE := hE.trans (Lt_in ex_143)
    have hx_143 : x_143.toInt = (lt.toInt - 1) := by rw [ex_143]; exact i_sub rfl (show (1 : Int32).toInt = 1 from rfl) (by omega)
    refine pci (va_runS (As := [.int x, .int 0, .int x_143]) (rest := []) ⟨hx, hb, hml, hown, hts⟩ (w_within l D K x.toInt 0 (lt.toInt - 1) x 0 x_143 s.heap.size rfl (show (0 : Int32).toInt = 0 from rfl) hx_143) (va_cwS 3 hts gX11_force_X11_within rfl rfl rfl (by decide +kernel) ⟨Nat.le_of_ble_eq_true rfl, Nat.le_of_ble_eq_true rfl⟩) (mkS hK hN (va_P.nil) (va_D.nil (A := fun _ => True))) rfl rfl hl.1 rfl (lv_room (Nat.le_of_ble_eq_true rfl)) dX11_force_16 ⟨Nat.le_of_ble_eq_true rfl, Nat.le_of_ble_eq_true rfl⟩) (fun r_144 hw => ?_)
    obtain ⟨hw, k_145, -⟩ := hw
    replace hE := hE.trans (Lt_in k_145)
    rcases hw with ⟨rfl, h_146, h_147⟩ | ⟨rfl, h_148⟩
    · replace hE := (hE).trans (if_pos rfl)
      refine lv_if_ne (tgt := 29) hx hb dX11_force_19 (by decide +kernel) (fun c_149 => ?_) (fun c_149 => absurd c_149 (by decide +kernel))
      exact j_138  (by omega) hE _ _ hP hD hS ls (lv_sub hl [0, 1] rfl)
    · replace hE := (hE).trans (if_neg (by first | decide | (intro h9; have h8 := congrArg Int32.toInt h9; omega)))
      refine lv_if_ne (tgt := 29) hx hb dX11_force_19 (by decide +kernel) (fun c_150 => absurd (by decide +kernel) c_150) (fun c_150 => ?_)
      refine lv_aload_n hx hb dX11_force_22 rfl (lv_at hl 0 rfl) ?_
      refine lv_bipush (v := (-2)) hx hb dX11_force_23 (by decide +kernel) ?_
      refine kci (S := Su) (wr := [(t0, .inr (9, [k_0, k_1, k_2, k_3, k_4, .int lt, .int nf, k_7, k_8, k_9]))]) (va_runV (As := [.int (-2)]) (rest := []) ⟨hx, hb, hml, hown, hts⟩ (w_refuse l D K o0 (-2) (.ref t0) o_1 o_2 o_3 o_4 o_5 o_6 o_7 o_8 o_9 o_10 o_11 rf rb o_14 o_15 o_16 frf s.heap.size) (cwV 1 hts gX11_force_X11_refuse rfl rfl rfl (by decide +kernel) ⟨Nat.le_of_ble_eq_true rfl, Nat.le_of_ble_eq_true rfl⟩) (mkV hK hN (hP.sub [0, 1] rfl) (hD.sub [0, 1] (by decide +kernel) rfl) (ci := 11) (q0 := 0) rfl rfl) rfl rfl hl.1 rfl (lv_room (Nat.le_of_ble_eq_true rfl)) dX11_force_25 ⟨Nat.le_of_ble_eq_true rfl, Nat.le_of_ble_eq_true rfl⟩) hP hD hS hA [0, 1] [2] rfl rfl (by decide +kernel) (by decide +kernel) (fun r_151 u_152 H locs hw hP0 hD0 hS0 => ?_)
      clear hP hD hS
      have hP := hP0
      have hD := hD0
      have hS := hS0
      clear hP0 hD0 hS0
      replace hP : va_P D vwCl [(t0, .inr (9, [k_0, k_1, k_2, k_3, k_4, .int lt, .int nf, k_7, k_8, k_9])), (o0, .inr (11, [.ref t0, o_1, o_2, o_3, o_4, o_5, o_6, o_7, o_8, o_9, o_10, o_11, .ref rf, .int (-2), o_14, o_15, o_16])), (rf, .inl (K 0, 5, .inl (u_152.2.1 0)))] H := hP
      replace hD : va_D A [(t0, .inr (9, [k_0, k_1, k_2, k_3, k_4, .int lt, .int nf, k_7, k_8, k_9])), (o0, .inr (11, [.ref t0, o_1, o_2, o_3, o_4, o_5, o_6, o_7, o_8, o_9, o_10, o_11, .ref rf, .int (-2), o_14, o_15, o_16])), (rf, .inl (K 0, 5, .inl (u_152.2.1 0)))] := hD
      obtain ⟨k_153, -⟩ := hw
      replace hE := hE.trans (Lt2_in k_153)
      rw [← hQ]
      have hP9 := hP.sub (ws' := [(o0, .inr (11, [.ref t0, o_1, o_2, o_3, o_4, o_5, o_6, o_7, o_8, o_9, o_10, o_11, .ref rf, .int (-2), o_14, o_15, o_16])), (rf, .inl (K 0, 5, .inl (u_152.2.1 0))), (t0, .inr (9, [k_0, k_1, k_2, k_3, k_4, .int lt, .int nf, k_7, k_8, k_9]))]) [1, 2, 0] rfl
      have hD9 := hD.sub (ws' := [(o0, .inr (11, [.ref t0, o_1, o_2, o_3, o_4, o_5, o_6, o_7, o_8, o_9, o_10, o_11, .ref rf, .int (-2), o_14, o_15, o_16])), (rf, .inl (K 0, 5, .inl (u_152.2.1 0))), (t0, .inr (9, [k_0, k_1, k_2, k_3, k_4, .int lt, .int nf, k_7, k_8, k_9]))]) [1, 2, 0] (by decide +kernel) rfl
      exact W.iret (v := r_151) hx hb hr (fun t ht hW => ⟨⟨r_151, ((fun _ => 0, fun i => match i with | _ => (u_152.2.1 0), fun _ => fun _ => 0, fun i => match i with | 0 => (-2) | _ => nf, fun _ => 0, fun _ => fun _ => none) : Su), rfl, ⟨(show (-2) ≤ ((-2) : Int32).toInt ∧ ((-2) : Int32).toInt ≤ 0 by decide), hE.symm, trivial⟩, (⟨by rw [ht]; exact hP9, hD9⟩ : Wd D A _ t)⟩, hS.F ht⟩) hS.2.2 dX11_force_28
set_option maxRecDepth 100000 in
noncomputable def E_w_discord (G : Nat → LC) (br : Int32) (fs : Nat → Int32) (fw : Nat → Int32) (n : Int32) (lt : Int32) (nf : Int32) (fi : Int32) (f1 : Nat → Int32) (f2 : Nat → Int32) (f3 : Nat → Int32) (fl : Nat → Option Nat) : Int32 × Int32 × (Nat → Int32) × (Nat → Int32) :=
  Lt2 (E_w_discords G br fs fw n lt nf fi f1 f2 f3 fl) (fun r_69 q0_r_69 => Lt2 q0_r_69 (fun u_70_2_2_2_1_0 q1_u_70_2_2_2_1_0 => Lt2 q1_u_70_2_2_2_1_0 (fun u_70_2_1_0 u_70_2_1_1 => ((r_69, u_70_2_2_2_1_0, u_70_2_1_0, u_70_2_1_1) : Int32 × Int32 × (Nat → Int32) × (Nat → Int32)))))
set_option maxHeartbeats 4000000 in
set_option maxRecDepth 100000 in
theorem w_discord (l : Launch) (D : va_G) (K : Nat → ClassId) (g : Nat → Nat) (L : Nat → Prop) (G : Nat → LC) (o0 : Nat) (t0 : Nat) (o_1 : Value) (o_2 : Value) (o_3 : Value) (o_4 : Value) (o_5 : Value) (o_6 : Value) (r0 : Nat) (o_8 : Value) (o_9 : Value) (o_10 : Value) (o_11 : Value) (o_12 : Value) (o_13 : Value) (o_14 : Value) (o_15 : Value) (o_16 : Value) (a0 : Nat) (m0 : Nat) (w0 : Nat) (m1 : Nat) (br : Int32) (fs : Nat → Int32) (fw : Nat → Int32) (t1 : Nat) (t3 : Nat) (t2 : Nat) (l0 : Nat) (n : Int32) (lt : Int32) (nf : Int32) (fi : Int32) (k_8 : Value) (k_9 : Value) (f1 : Nat → Int32) (gt : Nat → Int32) (f2 : Nat → Int32) (f3 : Nat → Int32) (gc : Nat → Int32) (fl : Nat → Option Nat) (sz : Nat) (zn : 0 ≤ n.toInt ∧ n.toInt ≤ 8) (zlt : 0 ≤ lt.toInt ∧ lt.toInt ≤ 6) (zbr : 0 ≤ br.toInt ∧ br.toInt ≤ 1) (zgt : FzC gt f1) (zgc : FzH gc f3) (zfl : InL L fl) : Met l yX11_discord wsX11_discord ({ frames := 4, cells := 0, slots := 0, locals := 105 }) (va_Pc [.ref o0] (PreY D K [(o0, .inr (11, [.ref t0, o_1, o_2, o_3, o_4, o_5, o_6, .ref r0, o_8, o_9, o_10, o_11, o_12, o_13, o_14, o_15, o_16])), (r0, .inr (10, [.ref a0])), (a0, .inr (0, [.ref m0, .ref w0])), (m0, .inr (3, [.ref m1, .int br])), (m1, .inl (K 0, 64, .inl fs)), (w0, .inl (K 0, 9, .inl fw)), (t0, .inr (9, [.ref t1, .ref t3, .ref t2, .ref l0, .int n, .int lt, .int nf, .int fi, k_8, k_9])), (t1, .inl (K 0, 56, .inl f1)), (t2, .inl (K 0, 6, .inl f2)), (t3, .inl (K 0, 24, .inl f3)), (l0, .inl (K 4, 6, .inr (.inr (.inr (.inr fl)))))] [] sz g L G (va_A [(o0, .inr (11, [.ref t0, o_1, o_2, o_3, o_4, o_5, o_6, .ref r0, o_8, o_9, o_10, o_11, o_12, o_13, o_14, o_15, o_16])), (r0, .inr (10, [.ref a0])), (a0, .inr (0, [.ref m0, .ref w0])), (m0, .inr (3, [.ref m1, .int br])), (m1, .inl (K 0, 64, .inl fs)), (w0, .inl (K 0, 9, .inl fw)), (t0, .inr (9, [.ref t1, .ref t3, .ref t2, .ref l0, .int n, .int lt, .int nf, .int fi, k_8, k_9])), (t1, .inl (K 0, 56, .inl f1)), (t2, .inl (K 0, 6, .inl f2)), (t3, .inl (K 0, 24, .inl f3)), (l0, .inl (K 4, 6, .inr (.inr (.inr (.inr fl)))))] sz))) (va_Qi (S := Su) (fun (r : Int32) (u : Su) => (0 ≤ (u.2.2.2.1 0).toInt ∧ (u.2.2.2.1 0).toInt ≤ 1) ∧ ((r, (u.2.2.2.1 0), (u.2.1 0), (u.2.1 1)) = E_w_discord G br fs fw n lt nf fi f1 f2 f3 fl) ∧ True) (fun u t => Wd D (va_A [(o0, .inr (11, [.ref t0, o_1, o_2, o_3, o_4, o_5, o_6, .ref r0, o_8, o_9, o_10, o_11, o_12, o_13, o_14, o_15, o_16])), (r0, .inr (10, [.ref a0])), (a0, .inr (0, [.ref m0, .ref w0])), (m0, .inr (3, [.ref m1, .int br])), (m1, .inl (K 0, 64, .inl fs)), (w0, .inl (K 0, 9, .inl fw)), (t0, .inr (9, [.ref t1, .ref t3, .ref t2, .ref l0, .int n, .int lt, .int nf, .int fi, k_8, k_9])), (t1, .inl (K 0, 56, .inl f1)), (t2, .inl (K 0, 6, .inl f2)), (t3, .inl (K 0, 24, .inl f3)), (l0, .inl (K 4, 6, .inr (.inr (.inr (.inr fl)))))] sz) ((fun u => [(o0, .inr (11, [.ref t0, o_1, o_2, o_3, o_4, o_5, o_6, .ref r0, o_8, o_9, o_10, o_11, o_12, o_13, o_14, o_15, o_16])), (r0, .inr (10, [.ref a0])), (a0, .inr (0, [.ref m0, .ref w0])), (m0, .inr (3, [.ref m1, .int (u.2.2.2.1 0)])), (m1, .inl (K 0, 64, .inl (u.2.1 0))), (w0, .inl (K 0, 9, .inl (u.2.1 1))), (t0, .inr (9, [.ref t1, .ref t3, .ref t2, .ref l0, .int n, .int lt, .int nf, .int fi, k_8, k_9])), (t1, .inl (K 0, 56, .inl f1)), (t2, .inl (K 0, 6, .inl f2)), (t3, .inl (K 0, 24, .inl f3)), (l0, .inl (K 4, 6, .inr (.inr (.inr (.inr fl)))))]) u) t) (va_A [(o0, .inr (11, [.ref t0, o_1, o_2, o_3, o_4, o_5, o_6, .ref r0, o_8, o_9, o_10, o_11, o_12, o_13, o_14, o_15, o_16])), (r0, .inr (10, [.ref a0])), (a0, .inr (0, [.ref m0, .ref w0])), (m0, .inr (3, [.ref m1, .int br])), (m1, .inl (K 0, 64, .inl fs)), (w0, .inl (K 0, 9, .inl fw)), (t0, .inr (9, [.ref t1, .ref t3, .ref t2, .ref l0, .int n, .int lt, .int nf, .int fi, k_8, k_9])), (t1, .inl (K 0, 56, .inl f1)), (t2, .inl (K 0, 6, .inl f2)), (t3, .inl (K 0, 24, .inl f3)), (l0, .inl (K 4, 6, .inr (.inr (.inr (.inr fl)))))] sz)) 0 0 (va_A [(o0, .inr (11, [.ref t0, o_1, o_2, o_3, o_4, o_5, o_6, .ref r0, o_8, o_9, o_10, o_11, o_12, o_13, o_14, o_15, o_16])), (r0, .inr (10, [.ref a0])), (a0, .inr (0, [.ref m0, .ref w0])), (m0, .inr (3, [.ref m1, .int br])), (m1, .inl (K 0, 64, .inl fs)), (w0, .inl (K 0, 9, .inl fw)), (t0, .inr (9, [.ref t1, .ref t3, .ref t2, .ref l0, .int n, .int lt, .int nf, .int fi, k_8, k_9])), (t1, .inl (K 0, 56, .inl f1)), (t2, .inl (K 0, 6, .inl f2)), (t3, .inl (K 0, 24, .inl f3)), (l0, .inl (K 4, 6, .inr (.inr (.inr (.inr fl)))))] sz) := by
  refine Met.ofW (cc := cX11_discord) (maxL := 1) (ret := (some .int)) (by decide +kernel) rfl ?_
  intro p e s m args below meth c s₁ B hml hv
  obtain ⟨rfl, ⟨hsz, hP, hK, hD0, hN⟩, hG, hPl, hRo⟩ := hv
  have hx := B.exec
  have hb := B.bytes
  have hr := B.returns
  have hts := atoms_spec (ws := wsX11_discord) B.pre
  have hown : s.vm.findClass RX11 = some m.cls := findClass_of_methodNamed B.named
  have hlocks := B.notSynchronized
  subst hsz
  have hD := hD0.self (sz := s.heap.size)
  generalize hAe : va_A [(o0, .inr (11, [.ref t0, o_1, o_2, o_3, o_4, o_5, o_6, .ref r0, o_8, o_9, o_10, o_11, o_12, o_13, o_14, o_15, o_16])), (r0, .inr (10, [.ref a0])), (a0, .inr (0, [.ref m0, .ref w0])), (m0, .inr (3, [.ref m1, .int br])), (m1, .inl (K 0, 64, .inl fs)), (w0, .inl (K 0, 9, .inl fw)), (t0, .inr (9, [.ref t1, .ref t3, .ref t2, .ref l0, .int n, .int lt, .int nf, .int fi, k_8, k_9])), (t1, .inl (K 0, 56, .inl f1)), (t2, .inl (K 0, 6, .inl f2)), (t3, .inl (K 0, 24, .inl f3)), (l0, .inl (K 4, 6, .inr (.inr (.inr (.inr fl)))))] s.heap.size = A at hD hG hPl hRo ⊢
  have hA : ∀ q : Nat, s.heap.size ≤ q → A q := fun q h => by rw [← hAe]; exact Or.inr h
  clear hAe
  have hS : va_S A s.heap s.heap [] := va_S.rf
  replace hP : va_P D vwCl [(o0, .inr (11, [.ref t0, o_1, o_2, o_3, o_4, o_5, o_6, .ref r0, o_8, o_9, o_10, o_11, o_12, o_13, o_14, o_15, o_16])), (r0, .inr (10, [.ref a0])), (a0, .inr (0, [.ref m0, .ref w0])), (m0, .inr (3, [.ref m1, .int br])), (m1, .inl (K 0, 64, .inl fs)), (w0, .inl (K 0, 9, .inl fw)), (t0, .inr (9, [.ref t1, .ref t3, .ref t2, .ref l0, .int n, .int lt, .int nf, .int fi, k_8, k_9])), (t1, .inl (K 0, 56, .inl f1)), (t2, .inl (K 0, 6, .inl f2)), (t3, .inl (K 0, 24, .inl f3)), (l0, .inl (K 4, 6, .inr (.inr (.inr (.inr fl)))))] s.heap := hP
  have hl := lv_entry [.ref o0] (n := 1) (Nat.le_of_ble_eq_true rfl)
  rw [lg_entry_eq]
  generalize (lg_sl [.ref o0] ++ List.replicate (1 - (lg_sl [.ref o0]).length) Slot.unset).toArray = ls at hl ⊢
  have hl : lv_has ls 1 [(0, .ref o0)] := hl
  have hw0 : ∀ w ∈ wsX00, w ∈ wsX11_discord := fun w h => (List.mem_cons_of_mem _ (List.mem_append_left _ (List.mem_append_left _ (List.mem_append_right _ h))))
  have hw3 : ∀ w ∈ wsX30, w ∈ wsX11_discord := fun w h => (List.mem_cons_of_mem _ (List.mem_append_right _ h))
  have hw7 : ∀ w ∈ wsX70, w ∈ wsX11_discord := fun w h => (List.mem_cons_of_mem _ (List.mem_append_left _ (List.mem_append_right _ h)))
  have hw9 : ∀ w ∈ wsX90, w ∈ wsX11_discord := fun w h => (List.mem_cons_of_mem _ (List.mem_append_left _ (List.mem_append_left _ (List.mem_append_left _ (List.mem_append_left _ (List.mem_append_right _ h))))))
  have hw10 : ∀ w ∈ wsX100, w ∈ wsX11_discord := fun w h => (List.mem_cons_of_mem _ (List.mem_append_left _ (List.mem_append_left _ (List.mem_append_left _ (List.mem_append_right _ h)))))
  have hw11 : ∀ w ∈ wsX110, w ∈ wsX11_discord := fun w h => (List.mem_cons_of_mem _ (List.mem_append_left _ (List.mem_append_left _ (List.mem_append_left _ (List.mem_append_left _ (List.mem_append_left _ (List.mem_append_right _ h)))))))
  generalize hQ : MQ below _ _ s _ _ _ = Q
  have hE := E_w_discord.eq_def G br fs fw n lt nf fi f1 f2 f3 fl
  refine lv_aload_n hx hb dX11_discord_0 rfl (lv_at hl 0 rfl) ?_
  refine va_get (ci := 11) (v := .ref r0) (C := RX11) (T := TX11) (N := 17) hx hb hts hw11 hown hK hP 0 rfl rfl 7 (by decide +kernel) (hts _ mm_X11_discord_341) (fun _ h9 => h9) rfl dX11_discord_1 ?_
  refine lv_aload_n hx hb dX11_discord_4 rfl (lv_at hl 0 rfl) ?_
  refine va_get (ci := 11) (v := .ref t0) (C := RX11) (T := TX11) (N := 17) hx hb hts hw11 hown hK hP 0 rfl rfl 0 (by decide +kernel) (hts _ mm_X11_discord_334) (fun _ h9 => h9) rfl dX11_discord_5 ?_
  refine kci (S := Su) (wr := [(o0, .inr (11, [.ref t0, o_1, o_2, o_3, o_4, o_5, o_6, .ref r0, o_8, o_9, o_10, o_11, o_12, o_13, o_14, o_15, o_16]))]) (va_runVN (As := [.ref t0]) (rest := []) ⟨hx, hb, hml, hown, hts⟩ (w_discords l D K g L G r0 t0 a0 m0 w0 m1 br fs fw t1 t3 t2 l0 n lt nf fi k_8 k_9 f1 gt f2 f3 gc fl s.heap.size (by first | omega | decide) (by first | omega | decide) (by first | omega | decide) zgt zgc zfl) ⟨va_cnB 1 hts gX11_discord_X10_discords_n206 rfl rfl rfl (nst_at hN 65 rfl) (hts _ mm_X11_discord_150) (by decide +kernel) ⟨Nat.le_of_ble_eq_true rfl, Nat.le_of_ble_eq_true rfl⟩, (hts _ mm_X11_discord_617), (hts _ mm_X11_discord_48)⟩ (mkVY hK hN (hP.sub [1, 2, 3, 4, 5, 6, 7, 8, 9, 10] rfl) (hD.sub [1, 2, 3, 4, 5, 6, 7, 8, 9, 10] (by decide +kernel) rfl) (ci := 10) (q0 := 0) rfl rfl (fun U hU hW => ⟨Gl.at hG hS hW hU (fun q h => va_free hD hS hA [1, 2, 3, 4, 5, 6, 7, 8, 9, 10] rfl q h), Pool.at hPl hS hU (fun q h => va_free hD hS hA [1, 2, 3, 4, 5, 6, 7, 8, 9, 10] rfl q h), Ro.heap hU (Ro.nil)⟩)) rfl rfl hl.1 rfl (lv_room (Nat.le_of_ble_eq_true rfl)) dX11_discord_8 ⟨Nat.le_of_ble_eq_true rfl, Nat.le_of_ble_eq_true rfl⟩) hP hD hS hA [1, 2, 3, 4, 5, 6, 7, 8, 9, 10] [0] rfl rfl (by decide +kernel) (by decide +kernel) (fun r_69 u_70 H locs hw hP0 hD0 hS0 => ?_)
  clear hP hD hS
  have hP := hP0
  have hD := hD0
  have hS := hS0
  clear hP0 hD0 hS0
  replace hP : va_P D vwCl [(o0, .inr (11, [.ref t0, o_1, o_2, o_3, o_4, o_5, o_6, .ref r0, o_8, o_9, o_10, o_11, o_12, o_13, o_14, o_15, o_16])), (r0, .inr (10, [.ref a0])), (a0, .inr (0, [.ref m0, .ref w0])), (m0, .inr (3, [.ref m1, .int (u_70.2.2.2.1 0)])), (m1, .inl (K 0, 64, .inl (u_70.2.1 0))), (w0, .inl (K 0, 9, .inl (u_70.2.1 1))), (t0, .inr (9, [.ref t1, .ref t3, .ref t2, .ref l0, .int n, .int lt, .int nf, .int fi, k_8, k_9])), (t1, .inl (K 0, 56, .inl f1)), (t2, .inl (K 0, 6, .inl f2)), (t3, .inl (K 0, 24, .inl f3)), (l0, .inl (K 4, 6, .inr (.inr (.inr (.inr fl)))))] H := hP
  replace hD : va_D A [(o0, .inr (11, [.ref t0, o_1, o_2, o_3, o_4, o_5, o_6, .ref r0, o_8, o_9, o_10, o_11, o_12, o_13, o_14, o_15, o_16])), (r0, .inr (10, [.ref a0])), (a0, .inr (0, [.ref m0, .ref w0])), (m0, .inr (3, [.ref m1, .int (u_70.2.2.2.1 0)])), (m1, .inl (K 0, 64, .inl (u_70.2.1 0))), (w0, .inl (K 0, 9, .inl (u_70.2.1 1))), (t0, .inr (9, [.ref t1, .ref t3, .ref t2, .ref l0, .int n, .int lt, .int nf, .int fi, k_8, k_9])), (t1, .inl (K 0, 56, .inl f1)), (t2, .inl (K 0, 6, .inl f2)), (t3, .inl (K 0, 24, .inl f3)), (l0, .inl (K 4, 6, .inr (.inr (.inr (.inr fl)))))] := hD
  obtain ⟨k_71, k_72, -⟩ := hw
  replace hE := ((hE.trans (Lt2_in k_72)).trans (Lt2_in rfl)).trans (Lt2_in rfl)
  rw [← hQ]
  have hP9 := hP.sub (ws' := [(o0, .inr (11, [.ref t0, o_1, o_2, o_3, o_4, o_5, o_6, .ref r0, o_8, o_9, o_10, o_11, o_12, o_13, o_14, o_15, o_16])), (r0, .inr (10, [.ref a0])), (a0, .inr (0, [.ref m0, .ref w0])), (m0, .inr (3, [.ref m1, .int (u_70.2.2.2.1 0)])), (m1, .inl (K 0, 64, .inl (u_70.2.1 0))), (w0, .inl (K 0, 9, .inl (u_70.2.1 1))), (t0, .inr (9, [.ref t1, .ref t3, .ref t2, .ref l0, .int n, .int lt, .int nf, .int fi, k_8, k_9])), (t1, .inl (K 0, 56, .inl f1)), (t2, .inl (K 0, 6, .inl f2)), (t3, .inl (K 0, 24, .inl f3)), (l0, .inl (K 4, 6, .inr (.inr (.inr (.inr fl)))))]) [0, 1, 2, 3, 4, 5, 6, 7, 8, 9, 10] rfl
  have hD9 := hD.sub (ws' := [(o0, .inr (11, [.ref t0, o_1, o_2, o_3, o_4, o_5, o_6, .ref r0, o_8, o_9, o_10, o_11, o_12, o_13, o_14, o_15, o_16])), (r0, .inr (10, [.ref a0])), (a0, .inr (0, [.ref m0, .ref w0])), (m0, .inr (3, [.ref m1, .int (u_70.2.2.2.1 0)])), (m1, .inl (K 0, 64, .inl (u_70.2.1 0))), (w0, .inl (K 0, 9, .inl (u_70.2.1 1))), (t0, .inr (9, [.ref t1, .ref t3, .ref t2, .ref l0, .int n, .int lt, .int nf, .int fi, k_8, k_9])), (t1, .inl (K 0, 56, .inl f1)), (t2, .inl (K 0, 6, .inl f2)), (t3, .inl (K 0, 24, .inl f3)), (l0, .inl (K 4, 6, .inr (.inr (.inr (.inr fl)))))]) [0, 1, 2, 3, 4, 5, 6, 7, 8, 9, 10] (by decide +kernel) rfl
  exact W.iret (v := r_69) hx hb hr (fun t ht hW => ⟨⟨r_69, ((fun _ => 0, fun i => match i with | 0 => (u_70.2.1 0) | _ => (u_70.2.1 1), fun _ => fun _ => 0, fun i => match i with | _ => (u_70.2.2.2.1 0), fun _ => 0, fun _ => fun _ => none) : Su), rfl, ⟨(show 0 ≤ ((u_70.2.2.2.1 0) : Int32).toInt ∧ ((u_70.2.2.2.1 0) : Int32).toInt ≤ 1 by omega), hE.symm, trivial⟩, (⟨by rw [ht]; exact hP9, hD9⟩ : Wd D A _ t)⟩, hS.F ht⟩) hS.2.2 dX11_discord_11
set_option maxRecDepth 100000 in
noncomputable def E_w_sounds (x : Int32) (n : Int32) (lt : Int32) (nf : Int32) (fi : Int32) (f1 : Nat → Int32) (f2 : Nat → Int32) (f3 : Nat → Int32) : Int32 :=
  if (x : Int32).toInt = 0 then (Lt (E_w_notesNow n f1 f2) (fun r_80 => (r_80 : Int32))) else (if (x : Int32).toInt = 1 then (Lt (E_w_thirdsNow n f1 f2) (fun r_82 => (r_82 : Int32))) else (if (x : Int32).toInt = 2 then (Lt (E_w_meetsChord n f1 f2 f3) (fun r_84 => if r_84 = 0 then ((0 : Int32)) else ((1 : Int32)))) else (((-1) : Int32))))
set_option maxHeartbeats 4000000 in
set_option maxRecDepth 100000 in
theorem w_sounds (l : Launch) (D : va_G) (K : Nat → ClassId) (o0 : Nat) (x : Int32) (t0 : Nat) (o_1 : Value) (o_2 : Value) (o_3 : Value) (o_4 : Value) (o_5 : Value) (o_6 : Value) (o_7 : Value) (o_8 : Value) (o_9 : Value) (o_10 : Value) (o_11 : Value) (o_12 : Value) (o_13 : Value) (o_14 : Value) (o_15 : Value) (o_16 : Value) (t1 : Nat) (t3 : Nat) (t2 : Nat) (l0 : Nat) (n : Int32) (lt : Int32) (nf : Int32) (fi : Int32) (k_8 : Value) (k_9 : Value) (f1 : Nat → Int32) (f2 : Nat → Int32) (f3 : Nat → Int32) (sz : Nat) (zn : 0 ≤ n.toInt ∧ n.toInt ≤ 8) : Met l yX11_sounds wsX11_sounds ({ frames := 4, cells := 0, slots := 0, locals := 90 }) (va_Pc [.ref o0, .int x] (Pre D K [(o0, .inr (11, [.ref t0, o_1, o_2, o_3, o_4, o_5, o_6, o_7, o_8, o_9, o_10, o_11, o_12, o_13, o_14, o_15, o_16])), (t0, .inr (9, [.ref t1, .ref t3, .ref t2, .ref l0, .int n, .int lt, .int nf, .int fi, k_8, k_9])), (t1, .inl (K 0, 56, .inl f1)), (t2, .inl (K 0, 6, .inl f2)), (t3, .inl (K 0, 24, .inl f3))] sz)) (vp_Si (fun r : Int32 => (r = E_w_sounds x n lt nf fi f1 f2 f3) ∧ True)) 0 0 (fun _ => False) := by
  refine Met.ofW (cc := cX11_sounds) (maxL := 2) (ret := (some .int)) (by decide +kernel) rfl ?_
  intro p e s m args below meth c s₁ B hml hv
  obtain ⟨rfl, hsz, hP, hK, hD0, hN⟩ := hv
  have hx := B.exec
  have hb := B.bytes
  have hr := B.returns
  have hts := atoms_spec (ws := wsX11_sounds) B.pre
  have hown : s.vm.findClass RX11 = some m.cls := findClass_of_methodNamed B.named
  have hlocks := B.notSynchronized
  subst hsz
  have hD := hD0
  replace hP : va_P D vwCl [(o0, .inr (11, [.ref t0, o_1, o_2, o_3, o_4, o_5, o_6, o_7, o_8, o_9, o_10, o_11, o_12, o_13, o_14, o_15, o_16])), (t0, .inr (9, [.ref t1, .ref t3, .ref t2, .ref l0, .int n, .int lt, .int nf, .int fi, k_8, k_9])), (t1, .inl (K 0, 56, .inl f1)), (t2, .inl (K 0, 6, .inl f2)), (t3, .inl (K 0, 24, .inl f3))] s.heap := hP
  have hl := lv_entry [.ref o0, .int x] (n := 2) (Nat.le_of_ble_eq_true rfl)
  rw [lg_entry_eq]
  generalize (lg_sl [.ref o0, .int x] ++ List.replicate (2 - (lg_sl [.ref o0, .int x]).length) Slot.unset).toArray = ls at hl ⊢
  have hl : lv_has ls 2 [(0, .ref o0), (1, .int x)] := hl
  have hw9 : ∀ w ∈ wsX90, w ∈ wsX11_sounds := fun w h => (List.mem_cons_of_mem _ (List.mem_append_right _ h))
  have hw11 : ∀ w ∈ wsX110, w ∈ wsX11_sounds := fun w h => (List.mem_cons_of_mem _ (List.mem_append_left _ (List.mem_append_right _ h)))
  generalize hQ : MQ below _ _ s _ _ _ = Q
  have hE := E_w_sounds.eq_def x n lt nf fi f1 f2 f3
  refine lv_iload_n hx hb dX11_sounds_0 rfl (lv_at hl 1 rfl) ?_
  have w_79 : x.toInt = 0 ∨ x.toInt = 1 ∨ x.toInt = 2 ∨ (x.toInt < 0 ∨ 2 < x.toInt) := by omega
  rcases w_79 with w_79 | w_79 | w_79 | w_79
  · replace hE := (hE).trans (if_pos (by first | omega | (rw [rfl]; omega)))
    refine lv_tableIn (tgt := 28) hx hb dX11_sounds_1 (by omega) (by omega) (by rw [w_79]; rfl) (by decide +kernel) ?_
    refine lv_aload_n hx hb dX11_sounds_28 rfl (lv_at hl 0 rfl) ?_
    refine va_get (ci := 11) (v := .ref t0) (C := RX11) (T := TX11) (N := 17) hx hb hts hw11 hown hK hP 0 rfl rfl 0 (by decide +kernel) (hts _ mm_X11_sounds_334) (fun _ h9 => h9) rfl dX11_sounds_29 ?_
    refine pci (va_runVN (As := []) (rest := []) ⟨hx, hb, hml, hown, hts⟩ (w_notesNow l D K t0 t1 (.ref t3) t2 (.ref l0) n (.int lt) (.int nf) (.int fi) k_8 k_9 f1 f2 s.heap.size (by first | omega | decide)) ⟨va_cnB 0 hts gX11_sounds_X9_notesNow_n210 rfl rfl rfl (nst_at hN 66 rfl) (hts _ mm_X11_sounds_145) (by decide +kernel) ⟨Nat.le_of_ble_eq_true rfl, Nat.le_of_ble_eq_true rfl⟩, (hts _ mm_X11_sounds_612), (hts _ mm_X11_sounds_47)⟩ (mkV hK hN (hP.sub [1, 2, 3] rfl) (hD.sub [1, 2, 3] (by decide +kernel) rfl) (ci := 9) (q0 := 0) rfl rfl) rfl rfl hl.1 rfl (lv_room (Nat.le_of_ble_eq_true rfl)) dX11_sounds_32 ⟨Nat.le_of_ble_eq_true rfl, Nat.le_of_ble_eq_true rfl⟩) (fun r_80 hw => ?_)
    obtain ⟨k_81, -⟩ := hw
    replace hE := hE.trans (Lt_in k_81)
    rw [← hQ]
    exact W.iret (v := r_80) hx hb hr (fun t ht hW => ⟨_, rfl, ⟨hE.symm, trivial⟩, ht⟩) (fun q hq => by cases hq) dX11_sounds_35
  · replace hE := ((hE).trans (if_neg (by first | omega | (rw [rfl]; omega)))).trans (if_pos (by first | omega | (rw [rfl]; omega)))
    refine lv_tableIn (tgt := 36) hx hb dX11_sounds_1 (by omega) (by omega) (by rw [w_79]; rfl) (by decide +kernel) ?_
    refine lv_aload_n hx hb dX11_sounds_36 rfl (lv_at hl 0 rfl) ?_
    refine va_get (ci := 11) (v := .ref t0) (C := RX11) (T := TX11) (N := 17) hx hb hts hw11 hown hK hP 0 rfl rfl 0 (by decide +kernel) (hts _ mm_X11_sounds_334) (fun _ h9 => h9) rfl dX11_sounds_37 ?_
    refine pci (va_runVN (As := []) (rest := []) ⟨hx, hb, hml, hown, hts⟩ (w_thirdsNow l D K t0 t1 (.ref t3) t2 (.ref l0) n (.int lt) (.int nf) (.int fi) k_8 k_9 f1 f2 s.heap.size (by first | omega | decide)) ⟨va_cnB 0 hts gX11_sounds_X9_thirdsNow_n214 rfl rfl rfl (nst_at hN 67 rfl) (hts _ mm_X11_sounds_145) (by decide +kernel) ⟨Nat.le_of_ble_eq_true rfl, Nat.le_of_ble_eq_true rfl⟩, (hts _ mm_X11_sounds_652), (hts _ mm_X11_sounds_53)⟩ (mkV hK hN (hP.sub [1, 2, 3] rfl) (hD.sub [1, 2, 3] (by decide +kernel) rfl) (ci := 9) (q0 := 0) rfl rfl) rfl rfl hl.1 rfl (lv_room (Nat.le_of_ble_eq_true rfl)) dX11_sounds_40 ⟨Nat.le_of_ble_eq_true rfl, Nat.le_of_ble_eq_true rfl⟩) (fun r_82 hw => ?_)
    obtain ⟨k_83, -⟩ := hw
    replace hE := hE.trans (Lt_in k_83)
    rw [← hQ]
    exact W.iret (v := r_82) hx hb hr (fun t ht hW => ⟨_, rfl, ⟨hE.symm, trivial⟩, ht⟩) (fun q hq => by cases hq) dX11_sounds_43
  · replace hE := (((hE).trans (if_neg (by first | omega | (rw [rfl]; omega)))).trans (if_neg (by first | omega | (rw [rfl]; omega)))).trans (if_pos (by first | omega | (rw [rfl]; omega)))
    refine lv_tableIn (tgt := 44) hx hb dX11_sounds_1 (by omega) (by omega) (by rw [w_79]; rfl) (by decide +kernel) ?_
    refine lv_aload_n hx hb dX11_sounds_44 rfl (lv_at hl 0 rfl) ?_
    refine va_get (ci := 11) (v := .ref t0) (C := RX11) (T := TX11) (N := 17) hx hb hts hw11 hown hK hP 0 rfl rfl 0 (by decide +kernel) (hts _ mm_X11_sounds_334) (fun _ h9 => h9) rfl dX11_sounds_45 ?_
    refine pci (va_runVN (As := []) (rest := []) ⟨hx, hb, hml, hown, hts⟩ (w_meetsChord l D K t0 t1 t3 t2 (.ref l0) n (.int lt) (.int nf) (.int fi) k_8 k_9 f1 f2 f3 s.heap.size (by first | omega | decide)) ⟨va_cnB 0 hts gX11_sounds_X9_meetsChord_n217 rfl rfl rfl (nst_at hN 68 rfl) (hts _ mm_X11_sounds_145) (by decide +kernel) ⟨Nat.le_of_ble_eq_true rfl, Nat.le_of_ble_eq_true rfl⟩, (hts _ mm_X11_sounds_608), (hts _ mm_X11_sounds_46)⟩ (mkV hK hN (hP.sub [1, 2, 3, 4] rfl) (hD.sub [1, 2, 3, 4] (by decide +kernel) rfl) (ci := 9) (q0 := 0) rfl rfl) rfl rfl hl.1 rfl (lv_room (Nat.le_of_ble_eq_true rfl)) dX11_sounds_48 ⟨Nat.le_of_ble_eq_true rfl, Nat.le_of_ble_eq_true rfl⟩) (fun r_84 hw => ?_)
    obtain ⟨h_86, k_85, -⟩ := hw
    replace hE := hE.trans (Lt_in k_85)
    refine lv_if_eq (tgt := 58) hx hb dX11_sounds_51 (by decide +kernel) (fun c_87 => ?_) (fun c_87 => ?_)
    · have c_87i := i_eq (x := r_84.toInt) (y := 0) rfl rfl c_87
      replace hE := hE.trans (if_pos c_87)
      refine lv_iconst (v := 0) hx hb dX11_sounds_58 (by decide +kernel) ?_
      rw [← hQ]
      exact W.iret (v := 0) hx hb hr (fun t ht hW => ⟨_, rfl, ⟨hE.symm, trivial⟩, ht⟩) (fun q hq => by cases hq) dX11_sounds_59
    · have c_87i := i_ne (x := r_84.toInt) (y := 0) rfl rfl c_87
      replace hE := hE.trans (if_neg c_87)
      refine lv_iconst (v := 1) hx hb dX11_sounds_54 (by decide +kernel) ?_
      refine lv_goto (tgt := 59) hx hb dX11_sounds_55 (by decide +kernel) ?_
      rw [← hQ]
      exact W.iret (v := 1) hx hb hr (fun t ht hW => ⟨_, rfl, ⟨hE.symm, trivial⟩, ht⟩) (fun q hq => by cases hq) dX11_sounds_59
  · replace hE := (((hE).trans (if_neg (by first | omega | (rw [rfl]; omega)))).trans (if_neg (by first | omega | (rw [rfl]; omega)))).trans (if_neg (by first | omega | (rw [rfl]; omega)))
    refine lv_tableOut (tgt := 60) hx hb dX11_sounds_1 (by omega) (by decide +kernel) ?_
    refine lv_iconst (v := (-1)) hx hb dX11_sounds_60 (by decide +kernel) ?_
    rw [← hQ]
    exact W.iret (v := (-1)) hx hb hr (fun t ht hW => ⟨_, rfl, ⟨hE.symm, trivial⟩, ht⟩) (fun q hq => by cases hq) dX11_sounds_61
set_option maxRecDepth 100000 in
noncomputable def E_w_stoke (G : Nat → LC) (x : Int32) (rb : Int32) (frf : Nat → Int32) (dr : Int32) (kp : Int32) (fs2 : Nat → Int32) (br : Int32) (fs : Nat → Int32) (fw : Nat → Int32) (n : Int32) (lt : Int32) (nf : Int32) (fi : Int32) (f1 : Nat → Int32) (f2 : Nat → Int32) (f3 : Nat → Int32) (fl : Nat → Option Nat) : Int32 × Int32 × (Nat → Int32) × Int32 × Int32 × (Nat → Int32) × Int32 × (Nat → Int32) × (Nat → Int32) × (Nat → Int32) :=
  Lt (E_w_draft dr fs2 fi f1 f2) (fun u_92_2_1_0 => Lt2 (E_w_kindle G x br fs fw n lt nf fi f1 f2 f3 fl) (fun r_94 q0_r_94 => Lt2 q0_r_94 (fun u_95_2_2_2_1_0 q1_u_95_2_2_2_1_0 => Lt2 q1_u_95_2_2_2_1_0 (fun u_95_2_1_0 q2_u_95_2_1_0 => Lt2 q2_u_95_2_1_0 (fun u_95_2_1_1 u_95_2_1_2 => Lt2 (E_w_settle 0 r_94 rb frf dr kp u_92_2_1_0) (fun r_100 q0_r_100 => Lt2 q0_r_100 (fun u_101_2_2_2_1_0 q1_u_101_2_2_2_1_0 => Lt2 q1_u_101_2_2_2_1_0 (fun u_101_2_1_0 q2_u_101_2_1_0 => Lt2 q2_u_101_2_1_0 (fun u_101_2_2_2_1_1 q3_u_101_2_2_2_1_1 => Lt2 q3_u_101_2_2_2_1_1 (fun u_101_2_2_2_1_2 u_101_2_1_1 => ((r_100, u_101_2_2_2_1_0, u_101_2_1_0, u_101_2_2_2_1_1, u_101_2_2_2_1_2, u_101_2_1_1, u_95_2_2_2_1_0, u_95_2_1_0, u_95_2_1_1, u_95_2_1_2) : Int32 × Int32 × (Nat → Int32) × Int32 × Int32 × (Nat → Int32) × Int32 × (Nat → Int32) × (Nat → Int32) × (Nat → Int32))))))))))))
set_option maxHeartbeats 4000000 in
set_option maxRecDepth 100000 in
theorem w_stoke (l : Launch) (D : va_G) (K : Nat → ClassId) (g : Nat → Nat) (L : Nat → Prop) (G : Nat → LC) (o0 : Nat) (x : Int32) (t0 : Nat) (o_1 : Value) (o_2 : Value) (o_3 : Value) (o_4 : Value) (o_5 : Value) (o_6 : Value) (r0 : Nat) (o_8 : Value) (h0 : Nat) (o_10 : Value) (o_11 : Value) (rf : Nat) (rb : Int32) (o_14 : Value) (o_15 : Value) (o_16 : Value) (frf : Nat → Int32) (h1 : Nat) (dr : Int32) (kp : Int32) (fs2 : Nat → Int32) (a0 : Nat) (m0 : Nat) (w0 : Nat) (m1 : Nat) (br : Int32) (fs : Nat → Int32) (fw : Nat → Int32) (t1 : Nat) (t3 : Nat) (t2 : Nat) (l0 : Nat) (n : Int32) (lt : Int32) (nf : Int32) (fi : Int32) (k_8 : Value) (k_9 : Value) (f1 : Nat → Int32) (gt : Nat → Int32) (f2 : Nat → Int32) (f3 : Nat → Int32) (gc : Nat → Int32) (fl : Nat → Option Nat) (sz : Nat) (zn : 0 ≤ n.toInt ∧ n.toInt ≤ 8) (zlt : 0 ≤ lt.toInt ∧ lt.toInt ≤ 6) (zbr : 0 ≤ br.toInt ∧ br.toInt ≤ 1) (zdr : 0 ≤ dr.toInt ∧ dr.toInt ≤ 16) (zkp : 0 ≤ kp.toInt ∧ kp.toInt ≤ 16) (zgt : FzC gt f1) (zgc : FzH gc f3) (zfl : InL L fl) : Met l yX11_stoke wsX11_stoke ({ frames := 4, cells := 0, slots := 0, locals := 106 }) (va_Pc [.ref o0, .int x] (PreY D K [(o0, .inr (11, [.ref t0, o_1, o_2, o_3, o_4, o_5, o_6, .ref r0, o_8, .ref h0, o_10, o_11, .ref rf, .int rb, o_14, o_15, o_16])), (rf, .inl (K 0, 5, .inl frf)), (h0, .inr (2, [.ref h1, .int dr, .int kp])), (h1, .inl (K 0, 476, .inl fs2)), (r0, .inr (10, [.ref a0])), (a0, .inr (0, [.ref m0, .ref w0])), (m0, .inr (3, [.ref m1, .int br])), (m1, .inl (K 0, 64, .inl fs)), (w0, .inl (K 0, 9, .inl fw)), (t0, .inr (9, [.ref t1, .ref t3, .ref t2, .ref l0, .int n, .int lt, .int nf, .int fi, k_8, k_9])), (t1, .inl (K 0, 56, .inl f1)), (t2, .inl (K 0, 6, .inl f2)), (t3, .inl (K 0, 24, .inl f3)), (l0, .inl (K 4, 6, .inr (.inr (.inr (.inr fl)))))] [] sz g L G (va_A [(o0, .inr (11, [.ref t0, o_1, o_2, o_3, o_4, o_5, o_6, .ref r0, o_8, .ref h0, o_10, o_11, .ref rf, .int rb, o_14, o_15, o_16])), (rf, .inl (K 0, 5, .inl frf)), (h0, .inr (2, [.ref h1, .int dr, .int kp])), (h1, .inl (K 0, 476, .inl fs2)), (r0, .inr (10, [.ref a0])), (a0, .inr (0, [.ref m0, .ref w0])), (m0, .inr (3, [.ref m1, .int br])), (m1, .inl (K 0, 64, .inl fs)), (w0, .inl (K 0, 9, .inl fw)), (t0, .inr (9, [.ref t1, .ref t3, .ref t2, .ref l0, .int n, .int lt, .int nf, .int fi, k_8, k_9])), (t1, .inl (K 0, 56, .inl f1)), (t2, .inl (K 0, 6, .inl f2)), (t3, .inl (K 0, 24, .inl f3)), (l0, .inl (K 4, 6, .inr (.inr (.inr (.inr fl)))))] sz))) (va_Qi (S := Su) (fun (r : Int32) (u : Su) => ((u.2.2.2.1 0).toInt ≤ 0) ∧ (0 ≤ (u.2.2.2.1 1).toInt ∧ (u.2.2.2.1 1).toInt ≤ 16) ∧ (0 ≤ (u.2.2.2.1 2).toInt ∧ (u.2.2.2.1 2).toInt ≤ 16) ∧ (0 ≤ (u.2.2.2.1 3).toInt ∧ (u.2.2.2.1 3).toInt ≤ 1) ∧ (FzC gt (u.2.1 4)) ∧ ((r, (u.2.2.2.1 0), (u.2.1 0), (u.2.2.2.1 1), (u.2.2.2.1 2), (u.2.1 1), (u.2.2.2.1 3), (u.2.1 2), (u.2.1 3), (u.2.1 4)) = E_w_stoke G x rb frf dr kp fs2 br fs fw n lt nf fi f1 f2 f3 fl) ∧ True) (fun u t => Wd D (va_A [(o0, .inr (11, [.ref t0, o_1, o_2, o_3, o_4, o_5, o_6, .ref r0, o_8, .ref h0, o_10, o_11, .ref rf, .int rb, o_14, o_15, o_16])), (rf, .inl (K 0, 5, .inl frf)), (h0, .inr (2, [.ref h1, .int dr, .int kp])), (h1, .inl (K 0, 476, .inl fs2)), (r0, .inr (10, [.ref a0])), (a0, .inr (0, [.ref m0, .ref w0])), (m0, .inr (3, [.ref m1, .int br])), (m1, .inl (K 0, 64, .inl fs)), (w0, .inl (K 0, 9, .inl fw)), (t0, .inr (9, [.ref t1, .ref t3, .ref t2, .ref l0, .int n, .int lt, .int nf, .int fi, k_8, k_9])), (t1, .inl (K 0, 56, .inl f1)), (t2, .inl (K 0, 6, .inl f2)), (t3, .inl (K 0, 24, .inl f3)), (l0, .inl (K 4, 6, .inr (.inr (.inr (.inr fl)))))] sz) ((fun u => [(o0, .inr (11, [.ref t0, o_1, o_2, o_3, o_4, o_5, o_6, .ref r0, o_8, .ref h0, o_10, o_11, .ref rf, .int (u.2.2.2.1 0), o_14, o_15, o_16])), (rf, .inl (K 0, 5, .inl (u.2.1 0))), (h0, .inr (2, [.ref h1, .int (u.2.2.2.1 1), .int (u.2.2.2.1 2)])), (h1, .inl (K 0, 476, .inl (u.2.1 1))), (r0, .inr (10, [.ref a0])), (a0, .inr (0, [.ref m0, .ref w0])), (m0, .inr (3, [.ref m1, .int (u.2.2.2.1 3)])), (m1, .inl (K 0, 64, .inl (u.2.1 2))), (w0, .inl (K 0, 9, .inl (u.2.1 3))), (t0, .inr (9, [.ref t1, .ref t3, .ref t2, .ref l0, .int n, .int lt, .int nf, .int fi, k_8, k_9])), (t1, .inl (K 0, 56, .inl (u.2.1 4))), (t2, .inl (K 0, 6, .inl f2)), (t3, .inl (K 0, 24, .inl f3)), (l0, .inl (K 4, 6, .inr (.inr (.inr (.inr fl)))))]) u) t) (va_A [(o0, .inr (11, [.ref t0, o_1, o_2, o_3, o_4, o_5, o_6, .ref r0, o_8, .ref h0, o_10, o_11, .ref rf, .int rb, o_14, o_15, o_16])), (rf, .inl (K 0, 5, .inl frf)), (h0, .inr (2, [.ref h1, .int dr, .int kp])), (h1, .inl (K 0, 476, .inl fs2)), (r0, .inr (10, [.ref a0])), (a0, .inr (0, [.ref m0, .ref w0])), (m0, .inr (3, [.ref m1, .int br])), (m1, .inl (K 0, 64, .inl fs)), (w0, .inl (K 0, 9, .inl fw)), (t0, .inr (9, [.ref t1, .ref t3, .ref t2, .ref l0, .int n, .int lt, .int nf, .int fi, k_8, k_9])), (t1, .inl (K 0, 56, .inl f1)), (t2, .inl (K 0, 6, .inl f2)), (t3, .inl (K 0, 24, .inl f3)), (l0, .inl (K 4, 6, .inr (.inr (.inr (.inr fl)))))] sz)) 0 0 (va_A [(o0, .inr (11, [.ref t0, o_1, o_2, o_3, o_4, o_5, o_6, .ref r0, o_8, .ref h0, o_10, o_11, .ref rf, .int rb, o_14, o_15, o_16])), (rf, .inl (K 0, 5, .inl frf)), (h0, .inr (2, [.ref h1, .int dr, .int kp])), (h1, .inl (K 0, 476, .inl fs2)), (r0, .inr (10, [.ref a0])), (a0, .inr (0, [.ref m0, .ref w0])), (m0, .inr (3, [.ref m1, .int br])), (m1, .inl (K 0, 64, .inl fs)), (w0, .inl (K 0, 9, .inl fw)), (t0, .inr (9, [.ref t1, .ref t3, .ref t2, .ref l0, .int n, .int lt, .int nf, .int fi, k_8, k_9])), (t1, .inl (K 0, 56, .inl f1)), (t2, .inl (K 0, 6, .inl f2)), (t3, .inl (K 0, 24, .inl f3)), (l0, .inl (K 4, 6, .inr (.inr (.inr (.inr fl)))))] sz) := by
  refine Met.ofW (cc := cX11_stoke) (maxL := 2) (ret := (some .int)) (by decide +kernel) rfl ?_
  intro p e s m args below meth c s₁ B hml hv
  obtain ⟨rfl, ⟨hsz, hP, hK, hD0, hN⟩, hG, hPl, hRo⟩ := hv
  have hx := B.exec
  have hb := B.bytes
  have hr := B.returns
  have hts := atoms_spec (ws := wsX11_stoke) B.pre
  have hown : s.vm.findClass RX11 = some m.cls := findClass_of_methodNamed B.named
  have hlocks := B.notSynchronized
  subst hsz
  have hD := hD0.self (sz := s.heap.size)
  generalize hAe : va_A [(o0, .inr (11, [.ref t0, o_1, o_2, o_3, o_4, o_5, o_6, .ref r0, o_8, .ref h0, o_10, o_11, .ref rf, .int rb, o_14, o_15, o_16])), (rf, .inl (K 0, 5, .inl frf)), (h0, .inr (2, [.ref h1, .int dr, .int kp])), (h1, .inl (K 0, 476, .inl fs2)), (r0, .inr (10, [.ref a0])), (a0, .inr (0, [.ref m0, .ref w0])), (m0, .inr (3, [.ref m1, .int br])), (m1, .inl (K 0, 64, .inl fs)), (w0, .inl (K 0, 9, .inl fw)), (t0, .inr (9, [.ref t1, .ref t3, .ref t2, .ref l0, .int n, .int lt, .int nf, .int fi, k_8, k_9])), (t1, .inl (K 0, 56, .inl f1)), (t2, .inl (K 0, 6, .inl f2)), (t3, .inl (K 0, 24, .inl f3)), (l0, .inl (K 4, 6, .inr (.inr (.inr (.inr fl)))))] s.heap.size = A at hD hG hPl hRo ⊢
  have hA : ∀ q : Nat, s.heap.size ≤ q → A q := fun q h => by rw [← hAe]; exact Or.inr h
  clear hAe
  have hS : va_S A s.heap s.heap [] := va_S.rf
  replace hP : va_P D vwCl [(o0, .inr (11, [.ref t0, o_1, o_2, o_3, o_4, o_5, o_6, .ref r0, o_8, .ref h0, o_10, o_11, .ref rf, .int rb, o_14, o_15, o_16])), (rf, .inl (K 0, 5, .inl frf)), (h0, .inr (2, [.ref h1, .int dr, .int kp])), (h1, .inl (K 0, 476, .inl fs2)), (r0, .inr (10, [.ref a0])), (a0, .inr (0, [.ref m0, .ref w0])), (m0, .inr (3, [.ref m1, .int br])), (m1, .inl (K 0, 64, .inl fs)), (w0, .inl (K 0, 9, .inl fw)), (t0, .inr (9, [.ref t1, .ref t3, .ref t2, .ref l0, .int n, .int lt, .int nf, .int fi, k_8, k_9])), (t1, .inl (K 0, 56, .inl f1)), (t2, .inl (K 0, 6, .inl f2)), (t3, .inl (K 0, 24, .inl f3)), (l0, .inl (K 4, 6, .inr (.inr (.inr (.inr fl)))))] s.heap := hP
  have hl := lv_entry [.ref o0, .int x] (n := 2) (Nat.le_of_ble_eq_true rfl)
  rw [lg_entry_eq]
  generalize (lg_sl [.ref o0, .int x] ++ List.replicate (2 - (lg_sl [.ref o0, .int x]).length) Slot.unset).toArray = ls at hl ⊢
  have hl : lv_has ls 2 [(0, .ref o0), (1, .int x)] := hl
  have hw0 : ∀ w ∈ wsX00, w ∈ wsX11_stoke := fun w h => (List.mem_cons_of_mem _ (List.mem_append_left _ (List.mem_append_left _ (List.mem_append_right _ h))))
  have hw2 : ∀ w ∈ wsX20, w ∈ wsX11_stoke := fun w h => (List.mem_cons_of_mem _ (List.mem_append_left _ (List.mem_append_left _ (List.mem_append_left _ (List.mem_append_left _ (List.mem_append_left _ (List.mem_append_right _ h)))))))
  have hw3 : ∀ w ∈ wsX30, w ∈ wsX11_stoke := fun w h => (List.mem_cons_of_mem _ (List.mem_append_right _ h))
  have hw7 : ∀ w ∈ wsX70, w ∈ wsX11_stoke := fun w h => (List.mem_cons_of_mem _ (List.mem_append_left _ (List.mem_append_right _ h)))
  have hw9 : ∀ w ∈ wsX90, w ∈ wsX11_stoke := fun w h => (List.mem_cons_of_mem _ (List.mem_append_left _ (List.mem_append_left _ (List.mem_append_left _ (List.mem_append_left _ (List.mem_append_right _ h))))))
  have hw10 : ∀ w ∈ wsX100, w ∈ wsX11_stoke := fun w h => (List.mem_cons_of_mem _ (List.mem_append_left _ (List.mem_append_left _ (List.mem_append_left _ (List.mem_append_right _ h)))))
  have hw11 : ∀ w ∈ wsX110, w ∈ wsX11_stoke := fun w h => (List.mem_cons_of_mem _ (List.mem_append_left _ (List.mem_append_left _ (List.mem_append_left _ (List.mem_append_left _ (List.mem_append_left _ (List.mem_append_left _ (List.mem_append_right _ h))))))))
  generalize hQ : MQ below _ _ s _ _ _ = Q
  have hE := E_w_stoke.eq_def G x rb frf dr kp fs2 br fs fw n lt nf fi f1 f2 f3 fl
  refine lv_aload_n hx hb dX11_stoke_0 rfl (lv_at hl 0 rfl) ?_
  refine va_get (ci := 11) (v := .ref h0) (C := RX11) (T := TX11) (N := 17) hx hb hts hw11 hown hK hP 0 rfl rfl 9 (by decide +kernel) (hts _ mm_X11_stoke_343) (fun _ h9 => h9) rfl dX11_stoke_1 ?_
  refine lv_aload_n hx hb dX11_stoke_4 rfl (lv_at hl 0 rfl) ?_
  refine va_get (ci := 11) (v := .ref t0) (C := RX11) (T := TX11) (N := 17) hx hb hts hw11 hown hK hP 0 rfl rfl 0 (by decide +kernel) (hts _ mm_X11_stoke_334) (fun _ h9 => h9) rfl dX11_stoke_5 ?_
  refine kcv (S := Su) (wr := [(o0, .inr (11, [.ref t0, o_1, o_2, o_3, o_4, o_5, o_6, .ref r0, o_8, .ref h0, o_10, o_11, .ref rf, .int rb, o_14, o_15, o_16])), (rf, .inl (K 0, 5, .inl frf)), (r0, .inr (10, [.ref a0])), (a0, .inr (0, [.ref m0, .ref w0])), (m0, .inr (3, [.ref m1, .int br])), (m1, .inl (K 0, 64, .inl fs)), (w0, .inl (K 0, 9, .inl fw)), (t3, .inl (K 0, 24, .inl f3)), (l0, .inl (K 4, 6, .inr (.inr (.inr (.inr fl)))))]) (va_runVN (As := [.ref t0]) (rest := []) ⟨hx, hb, hml, hown, hts⟩ (w_draft l D K h0 t0 h1 dr (.int kp) fs2 t1 (.ref t3) t2 (.ref l0) (.int n) (.int lt) (.int nf) fi k_8 k_9 f1 f2 s.heap.size (by first | omega | decide)) ⟨va_cnB 1 hts gX11_stoke_X2_draft_n221 rfl rfl rfl (nst_at hN 69 rfl) (hts _ mm_X11_stoke_153) (by decide +kernel) ⟨Nat.le_of_ble_eq_true rfl, Nat.le_of_ble_eq_true rfl⟩, (hts _ mm_X11_stoke_593), (hts _ mm_X11_stoke_41)⟩ (mkV hK hN (hP.sub [2, 3, 9, 10, 11] rfl) (hD.sub [2, 3, 9, 10, 11] (by decide +kernel) rfl) (ci := 2) (q0 := 0) rfl rfl) rfl rfl hl.1 rfl (lv_room (Nat.le_of_ble_eq_true rfl)) dX11_stoke_8 ⟨Nat.le_of_ble_eq_true rfl, Nat.le_of_ble_eq_true rfl⟩) hP hD hS hA [2, 3, 9, 10, 11] [0, 1, 4, 5, 6, 7, 8, 12, 13] rfl rfl (by decide +kernel) (by decide +kernel) (fun u_92 H locs hw hP0 hD0 hS0 => ?_)
  clear hP hD hS
  have hP := hP0
  have hD := hD0
  have hS := hS0
  clear hP0 hD0 hS0
  replace hP : va_P D vwCl [(o0, .inr (11, [.ref t0, o_1, o_2, o_3, o_4, o_5, o_6, .ref r0, o_8, .ref h0, o_10, o_11, .ref rf, .int rb, o_14, o_15, o_16])), (rf, .inl (K 0, 5, .inl frf)), (r0, .inr (10, [.ref a0])), (a0, .inr (0, [.ref m0, .ref w0])), (m0, .inr (3, [.ref m1, .int br])), (m1, .inl (K 0, 64, .inl fs)), (w0, .inl (K 0, 9, .inl fw)), (t3, .inl (K 0, 24, .inl f3)), (l0, .inl (K 4, 6, .inr (.inr (.inr (.inr fl))))), (h0, .inr (2, [.ref h1, .int dr, .int kp])), (h1, .inl (K 0, 476, .inl (u_92.2.1 0))), (t0, .inr (9, [.ref t1, .ref t3, .ref t2, .ref l0, .int n, .int lt, .int nf, .int fi, k_8, k_9])), (t1, .inl (K 0, 56, .inl f1)), (t2, .inl (K 0, 6, .inl f2))] H := hP
  replace hD : va_D A [(o0, .inr (11, [.ref t0, o_1, o_2, o_3, o_4, o_5, o_6, .ref r0, o_8, .ref h0, o_10, o_11, .ref rf, .int rb, o_14, o_15, o_16])), (rf, .inl (K 0, 5, .inl frf)), (r0, .inr (10, [.ref a0])), (a0, .inr (0, [.ref m0, .ref w0])), (m0, .inr (3, [.ref m1, .int br])), (m1, .inl (K 0, 64, .inl fs)), (w0, .inl (K 0, 9, .inl fw)), (t3, .inl (K 0, 24, .inl f3)), (l0, .inl (K 4, 6, .inr (.inr (.inr (.inr fl))))), (h0, .inr (2, [.ref h1, .int dr, .int kp])), (h1, .inl (K 0, 476, .inl (u_92.2.1 0))), (t0, .inr (9, [.ref t1, .ref t3, .ref t2, .ref l0, .int n, .int lt, .int nf, .int fi, k_8, k_9])), (t1, .inl (K 0, 56, .inl f1)), (t2, .inl (K 0, 6, .inl f2))] := hD
  obtain ⟨k_93, -⟩ := hw
  replace hE := hE.trans (Lt_in k_93)
  refine lv_aload_n hx hb dX11_stoke_11 rfl (lv_at hl 0 rfl) ?_
  refine lv_iconst (v := 0) hx hb dX11_stoke_12 (by decide +kernel) ?_
  refine lv_aload_n hx hb dX11_stoke_13 rfl (lv_at hl 0 rfl) ?_
  refine va_get (ci := 11) (v := .ref r0) (C := RX11) (T := TX11) (N := 17) hx hb hts hw11 hown hK hP 0 rfl rfl 7 (by decide +kernel) (hts _ mm_X11_stoke_341) (fun _ h9 => h9) rfl dX11_stoke_14 ?_
  refine lv_aload_n hx hb dX11_stoke_17 rfl (lv_at hl 0 rfl) ?_
  refine va_get (ci := 11) (v := .ref t0) (C := RX11) (T := TX11) (N := 17) hx hb hts hw11 hown hK hP 0 rfl rfl 0 (by decide +kernel) (hts _ mm_X11_stoke_334) (fun _ h9 => h9) rfl dX11_stoke_18 ?_
  refine lv_iload_n hx hb dX11_stoke_21 rfl (lv_at hl 1 rfl) ?_
  refine kci (S := Su) (wr := [(o0, .inr (11, [.ref t0, o_1, o_2, o_3, o_4, o_5, o_6, .ref r0, o_8, .ref h0, o_10, o_11, .ref rf, .int rb, o_14, o_15, o_16])), (rf, .inl (K 0, 5, .inl frf)), (h0, .inr (2, [.ref h1, .int dr, .int kp])), (h1, .inl (K 0, 476, .inl (u_92.2.1 0)))]) (va_runVN (As := [.ref t0, .int x]) (rest := [.int 0, .ref o0]) ⟨hx, hb, hml, hown, hts⟩ (w_kindle l D K g L G r0 t0 x a0 m0 w0 m1 br fs fw t1 t3 t2 l0 n lt nf fi k_8 k_9 f1 gt f2 f3 gc fl H.size (by first | omega | decide) (by first | omega | decide) (by first | omega | decide) zgt zgc zfl) ⟨va_cnB 2 hts gX11_stoke_X10_kindle_n225 rfl rfl rfl (nst_at hN 70 rfl) (hts _ mm_X11_stoke_150) (by decide +kernel) ⟨Nat.le_of_ble_eq_true rfl, Nat.le_of_ble_eq_true rfl⟩, (hts _ mm_X11_stoke_598), (hts _ mm_X11_stoke_42)⟩ (mkVY hK hN (hP.sub [2, 3, 4, 5, 6, 11, 12, 13, 7, 8] rfl) (hD.sub [2, 3, 4, 5, 6, 11, 12, 13, 7, 8] (by decide +kernel) rfl) (ci := 10) (q0 := 0) rfl rfl (fun U hU hW => ⟨Gl.at hG hS hW hU (fun q h => va_free hD hS hA [2, 3, 4, 5, 6, 11, 12, 13, 7, 8] rfl q h), Pool.at hPl hS hU (fun q h => va_free hD hS hA [2, 3, 4, 5, 6, 11, 12, 13, 7, 8] rfl q h), Ro.heap hU (Ro.nil)⟩)) rfl rfl hl.1 rfl (lv_room (Nat.le_of_ble_eq_true rfl)) dX11_stoke_22 ⟨Nat.le_of_ble_eq_true rfl, Nat.le_of_ble_eq_true rfl⟩) hP hD hS hA [2, 3, 4, 5, 6, 11, 12, 13, 7, 8] [0, 1, 9, 10] rfl rfl (by decide +kernel) (by decide +kernel) (fun r_94 u_95 H locs hw hP0 hD0 hS0 => ?_)
  clear hP hD hS
  have hP := hP0
  have hD := hD0
  have hS := hS0
  clear hP0 hD0 hS0
  replace hP : va_P D vwCl [(o0, .inr (11, [.ref t0, o_1, o_2, o_3, o_4, o_5, o_6, .ref r0, o_8, .ref h0, o_10, o_11, .ref rf, .int rb, o_14, o_15, o_16])), (rf, .inl (K 0, 5, .inl frf)), (h0, .inr (2, [.ref h1, .int dr, .int kp])), (h1, .inl (K 0, 476, .inl (u_92.2.1 0))), (r0, .inr (10, [.ref a0])), (a0, .inr (0, [.ref m0, .ref w0])), (m0, .inr (3, [.ref m1, .int (u_95.2.2.2.1 0)])), (m1, .inl (K 0, 64, .inl (u_95.2.1 0))), (w0, .inl (K 0, 9, .inl (u_95.2.1 1))), (t0, .inr (9, [.ref t1, .ref t3, .ref t2, .ref l0, .int n, .int lt, .int nf, .int fi, k_8, k_9])), (t1, .inl (K 0, 56, .inl (u_95.2.1 2))), (t2, .inl (K 0, 6, .inl f2)), (t3, .inl (K 0, 24, .inl f3)), (l0, .inl (K 4, 6, .inr (.inr (.inr (.inr fl)))))] H := hP
  replace hD : va_D A [(o0, .inr (11, [.ref t0, o_1, o_2, o_3, o_4, o_5, o_6, .ref r0, o_8, .ref h0, o_10, o_11, .ref rf, .int rb, o_14, o_15, o_16])), (rf, .inl (K 0, 5, .inl frf)), (h0, .inr (2, [.ref h1, .int dr, .int kp])), (h1, .inl (K 0, 476, .inl (u_92.2.1 0))), (r0, .inr (10, [.ref a0])), (a0, .inr (0, [.ref m0, .ref w0])), (m0, .inr (3, [.ref m1, .int (u_95.2.2.2.1 0)])), (m1, .inl (K 0, 64, .inl (u_95.2.1 0))), (w0, .inl (K 0, 9, .inl (u_95.2.1 1))), (t0, .inr (9, [.ref t1, .ref t3, .ref t2, .ref l0, .int n, .int lt, .int nf, .int fi, k_8, k_9])), (t1, .inl (K 0, 56, .inl (u_95.2.1 2))), (t2, .inl (K 0, 6, .inl f2)), (t3, .inl (K 0, 24, .inl f3)), (l0, .inl (K 4, 6, .inr (.inr (.inr (.inr fl)))))] := hD
  obtain ⟨h_99, k_96, k_97, k_98, -⟩ := hw
  replace hE := (((hE.trans (Lt2_in k_98)).trans (Lt2_in rfl)).trans (Lt2_in rfl)).trans (Lt2_in rfl)
  refine kci (S := Su) (wr := [(r0, .inr (10, [.ref a0])), (a0, .inr (0, [.ref m0, .ref w0])), (m0, .inr (3, [.ref m1, .int (u_95.2.2.2.1 0)])), (m1, .inl (K 0, 64, .inl (u_95.2.1 0))), (w0, .inl (K 0, 9, .inl (u_95.2.1 1))), (t0, .inr (9, [.ref t1, .ref t3, .ref t2, .ref l0, .int n, .int lt, .int nf, .int fi, k_8, k_9])), (t1, .inl (K 0, 56, .inl (u_95.2.1 2))), (t2, .inl (K 0, 6, .inl f2)), (t3, .inl (K 0, 24, .inl f3)), (l0, .inl (K 4, 6, .inr (.inr (.inr (.inr fl)))))]) (va_runV (As := [.int 0, .int r_94]) (rest := []) ⟨hx, hb, hml, hown, hts⟩ (w_settle l D K o0 0 r_94 (.ref t0) o_1 o_2 o_3 o_4 o_5 o_6 (.ref r0) o_8 h0 o_10 o_11 rf rb o_14 o_15 o_16 frf h1 dr kp (u_92.2.1 0) H.size (by first | omega | decide) (by first | omega | decide)) (cwV 2 hts gX11_stoke_X11_settle rfl rfl rfl (by decide +kernel) ⟨Nat.le_of_ble_eq_true rfl, Nat.le_of_ble_eq_true rfl⟩) (mkV hK hN (hP.sub [0, 1, 2, 3] rfl) (hD.sub [0, 1, 2, 3] (by decide +kernel) rfl) (ci := 11) (q0 := 0) rfl rfl) rfl rfl hl.1 rfl (lv_room (Nat.le_of_ble_eq_true rfl)) dX11_stoke_25 ⟨Nat.le_of_ble_eq_true rfl, Nat.le_of_ble_eq_true rfl⟩) hP hD hS hA [0, 1, 2, 3] [4, 5, 6, 7, 8, 9, 10, 11, 12, 13] rfl rfl (by decide +kernel) (by decide +kernel) (fun r_100 u_101 H locs hw hP0 hD0 hS0 => ?_)
  clear hP hD hS
  have hP := hP0
  have hD := hD0
  have hS := hS0
  clear hP0 hD0 hS0
  replace hP : va_P D vwCl [(r0, .inr (10, [.ref a0])), (a0, .inr (0, [.ref m0, .ref w0])), (m0, .inr (3, [.ref m1, .int (u_95.2.2.2.1 0)])), (m1, .inl (K 0, 64, .inl (u_95.2.1 0))), (w0, .inl (K 0, 9, .inl (u_95.2.1 1))), (t0, .inr (9, [.ref t1, .ref t3, .ref t2, .ref l0, .int n, .int lt, .int nf, .int fi, k_8, k_9])), (t1, .inl (K 0, 56, .inl (u_95.2.1 2))), (t2, .inl (K 0, 6, .inl f2)), (t3, .inl (K 0, 24, .inl f3)), (l0, .inl (K 4, 6, .inr (.inr (.inr (.inr fl))))), (o0, .inr (11, [.ref t0, o_1, o_2, o_3, o_4, o_5, o_6, .ref r0, o_8, .ref h0, o_10, o_11, .ref rf, .int (u_101.2.2.2.1 0), o_14, o_15, o_16])), (rf, .inl (K 0, 5, .inl (u_101.2.1 0))), (h0, .inr (2, [.ref h1, .int (u_101.2.2.2.1 1), .int (u_101.2.2.2.1 2)])), (h1, .inl (K 0, 476, .inl (u_101.2.1 1)))] H := hP
  replace hD : va_D A [(r0, .inr (10, [.ref a0])), (a0, .inr (0, [.ref m0, .ref w0])), (m0, .inr (3, [.ref m1, .int (u_95.2.2.2.1 0)])), (m1, .inl (K 0, 64, .inl (u_95.2.1 0))), (w0, .inl (K 0, 9, .inl (u_95.2.1 1))), (t0, .inr (9, [.ref t1, .ref t3, .ref t2, .ref l0, .int n, .int lt, .int nf, .int fi, k_8, k_9])), (t1, .inl (K 0, 56, .inl (u_95.2.1 2))), (t2, .inl (K 0, 6, .inl f2)), (t3, .inl (K 0, 24, .inl f3)), (l0, .inl (K 4, 6, .inr (.inr (.inr (.inr fl))))), (o0, .inr (11, [.ref t0, o_1, o_2, o_3, o_4, o_5, o_6, .ref r0, o_8, .ref h0, o_10, o_11, .ref rf, .int (u_101.2.2.2.1 0), o_14, o_15, o_16])), (rf, .inl (K 0, 5, .inl (u_101.2.1 0))), (h0, .inr (2, [.ref h1, .int (u_101.2.2.2.1 1), .int (u_101.2.2.2.1 2)])), (h1, .inl (K 0, 476, .inl (u_101.2.1 1)))] := hD
  obtain ⟨k_102, k_103, k_104, k_105, -⟩ := hw
  replace hE := ((((hE.trans (Lt2_in k_105)).trans (Lt2_in rfl)).trans (Lt2_in rfl)).trans (Lt2_in rfl)).trans (Lt2_in rfl)
  rw [← hQ]
  have hP9 := hP.sub (ws' := [(o0, .inr (11, [.ref t0, o_1, o_2, o_3, o_4, o_5, o_6, .ref r0, o_8, .ref h0, o_10, o_11, .ref rf, .int (u_101.2.2.2.1 0), o_14, o_15, o_16])), (rf, .inl (K 0, 5, .inl (u_101.2.1 0))), (h0, .inr (2, [.ref h1, .int (u_101.2.2.2.1 1), .int (u_101.2.2.2.1 2)])), (h1, .inl (K 0, 476, .inl (u_101.2.1 1))), (r0, .inr (10, [.ref a0])), (a0, .inr (0, [.ref m0, .ref w0])), (m0, .inr (3, [.ref m1, .int (u_95.2.2.2.1 0)])), (m1, .inl (K 0, 64, .inl (u_95.2.1 0))), (w0, .inl (K 0, 9, .inl (u_95.2.1 1))), (t0, .inr (9, [.ref t1, .ref t3, .ref t2, .ref l0, .int n, .int lt, .int nf, .int fi, k_8, k_9])), (t1, .inl (K 0, 56, .inl (u_95.2.1 2))), (t2, .inl (K 0, 6, .inl f2)), (t3, .inl (K 0, 24, .inl f3)), (l0, .inl (K 4, 6, .inr (.inr (.inr (.inr fl)))))]) [10, 11, 12, 13, 0, 1, 2, 3, 4, 5, 6, 7, 8, 9] rfl
  have hD9 := hD.sub (ws' := [(o0, .inr (11, [.ref t0, o_1, o_2, o_3, o_4, o_5, o_6, .ref r0, o_8, .ref h0, o_10, o_11, .ref rf, .int (u_101.2.2.2.1 0), o_14, o_15, o_16])), (rf, .inl (K 0, 5, .inl (u_101.2.1 0))), (h0, .inr (2, [.ref h1, .int (u_101.2.2.2.1 1), .int (u_101.2.2.2.1 2)])), (h1, .inl (K 0, 476, .inl (u_101.2.1 1))), (r0, .inr (10, [.ref a0])), (a0, .inr (0, [.ref m0, .ref w0])), (m0, .inr (3, [.ref m1, .int (u_95.2.2.2.1 0)])), (m1, .inl (K 0, 64, .inl (u_95.2.1 0))), (w0, .inl (K 0, 9, .inl (u_95.2.1 1))), (t0, .inr (9, [.ref t1, .ref t3, .ref t2, .ref l0, .int n, .int lt, .int nf, .int fi, k_8, k_9])), (t1, .inl (K 0, 56, .inl (u_95.2.1 2))), (t2, .inl (K 0, 6, .inl f2)), (t3, .inl (K 0, 24, .inl f3)), (l0, .inl (K 4, 6, .inr (.inr (.inr (.inr fl)))))]) [10, 11, 12, 13, 0, 1, 2, 3, 4, 5, 6, 7, 8, 9] (by decide +kernel) rfl
  exact W.iret (v := r_100) hx hb hr (fun t ht hW => ⟨⟨r_100, ((fun _ => 0, fun i => match i with | 0 => (u_101.2.1 0) | 1 => (u_101.2.1 1) | 2 => (u_95.2.1 0) | 3 => (u_95.2.1 1) | _ => (u_95.2.1 2), fun _ => fun _ => 0, fun i => match i with | 0 => (u_101.2.2.2.1 0) | 1 => (u_101.2.2.2.1 1) | 2 => (u_101.2.2.2.1 2) | _ => (u_95.2.2.2.1 0), fun _ => 0, fun _ => fun _ => none) : Su), rfl, ⟨(show ((u_101.2.2.2.1 0) : Int32).toInt ≤ 0 by omega), (show 0 ≤ ((u_101.2.2.2.1 1) : Int32).toInt ∧ ((u_101.2.2.2.1 1) : Int32).toInt ≤ 16 by omega), (show 0 ≤ ((u_101.2.2.2.1 2) : Int32).toInt ∧ ((u_101.2.2.2.1 2) : Int32).toInt ≤ 16 by omega), (show 0 ≤ ((u_95.2.2.2.1 0) : Int32).toInt ∧ ((u_95.2.2.2.1 0) : Int32).toInt ≤ 1 by omega), k_97, hE.symm, trivial⟩, (⟨by rw [ht]; exact hP9, hD9⟩ : Wd D A _ t)⟩, hS.F ht⟩) hS.2.2 dX11_stoke_28
set_option maxRecDepth 100000 in
noncomputable def E_w_damp (x : Int32) (y : Int32) (rb : Int32) (frf : Nat → Int32) (dr : Int32) (kp : Int32) (fs2 : Nat → Int32) (br : Int32) (fs : Nat → Int32) (fw : Nat → Int32) (n : Int32) (lt : Int32) (nf : Int32) (fi : Int32) (f1 : Nat → Int32) (f2 : Nat → Int32) (f3 : Nat → Int32) (fl : Nat → Option Nat) : Int32 × Int32 × (Nat → Int32) × Int32 × Int32 × (Nat → Int32) × (Nat → Int32) :=
  Lt (E_w_draft dr fs2 fi f1 f2) (fun u_90_2_1_0 => Lt2 (E_w_quench x y n f1) (fun r_92 u_93_2_1_0 => Lt2 (E_w_settle 1 r_92 rb frf dr kp u_90_2_1_0) (fun r_97 q0_r_97 => Lt2 q0_r_97 (fun u_98_2_2_2_1_0 q1_u_98_2_2_2_1_0 => Lt2 q1_u_98_2_2_2_1_0 (fun u_98_2_1_0 q2_u_98_2_1_0 => Lt2 q2_u_98_2_1_0 (fun u_98_2_2_2_1_1 q3_u_98_2_2_2_1_1 => Lt2 q3_u_98_2_2_2_1_1 (fun u_98_2_2_2_1_2 u_98_2_1_1 => ((r_97, u_98_2_2_2_1_0, u_98_2_1_0, u_98_2_2_2_1_1, u_98_2_2_2_1_2, u_98_2_1_1, u_93_2_1_0) : Int32 × Int32 × (Nat → Int32) × Int32 × Int32 × (Nat → Int32) × (Nat → Int32)))))))))
set_option maxHeartbeats 4000000 in
set_option maxRecDepth 100000 in
theorem w_damp (l : Launch) (D : va_G) (K : Nat → ClassId) (g : Nat → Nat) (L : Nat → Prop) (G : Nat → LC) (o0 : Nat) (x : Int32) (y : Int32) (t0 : Nat) (o_1 : Value) (o_2 : Value) (o_3 : Value) (o_4 : Value) (o_5 : Value) (o_6 : Value) (r0 : Nat) (o_8 : Value) (h0 : Nat) (o_10 : Value) (o_11 : Value) (rf : Nat) (rb : Int32) (o_14 : Value) (o_15 : Value) (o_16 : Value) (frf : Nat → Int32) (h1 : Nat) (dr : Int32) (kp : Int32) (fs2 : Nat → Int32) (a0 : Nat) (m0 : Nat) (w0 : Nat) (m1 : Nat) (br : Int32) (fs : Nat → Int32) (fw : Nat → Int32) (t1 : Nat) (t3 : Nat) (t2 : Nat) (l0 : Nat) (n : Int32) (lt : Int32) (nf : Int32) (fi : Int32) (k_8 : Value) (k_9 : Value) (f1 : Nat → Int32) (gt : Nat → Int32) (f2 : Nat → Int32) (f3 : Nat → Int32) (gc : Nat → Int32) (fl : Nat → Option Nat) (sz : Nat) (zn : 0 ≤ n.toInt ∧ n.toInt ≤ 8) (zlt : 0 ≤ lt.toInt ∧ lt.toInt ≤ 6) (zbr : 0 ≤ br.toInt ∧ br.toInt ≤ 1) (zdr : 0 ≤ dr.toInt ∧ dr.toInt ≤ 16) (zkp : 0 ≤ kp.toInt ∧ kp.toInt ≤ 16) (zgt : FzC gt f1) (zgc : FzH gc f3) (zfl : InL L fl) : Met l yX11_damp wsX11_damp ({ frames := 3, cells := 0, slots := 0, locals := 69 }) (va_Pc [.ref o0, .int x, .int y] (PreY D K [(o0, .inr (11, [.ref t0, o_1, o_2, o_3, o_4, o_5, o_6, .ref r0, o_8, .ref h0, o_10, o_11, .ref rf, .int rb, o_14, o_15, o_16])), (rf, .inl (K 0, 5, .inl frf)), (h0, .inr (2, [.ref h1, .int dr, .int kp])), (h1, .inl (K 0, 476, .inl fs2)), (r0, .inr (10, [.ref a0])), (a0, .inr (0, [.ref m0, .ref w0])), (m0, .inr (3, [.ref m1, .int br])), (m1, .inl (K 0, 64, .inl fs)), (w0, .inl (K 0, 9, .inl fw)), (t0, .inr (9, [.ref t1, .ref t3, .ref t2, .ref l0, .int n, .int lt, .int nf, .int fi, k_8, k_9])), (t1, .inl (K 0, 56, .inl f1)), (t2, .inl (K 0, 6, .inl f2)), (t3, .inl (K 0, 24, .inl f3)), (l0, .inl (K 4, 6, .inr (.inr (.inr (.inr fl)))))] [] sz g L G (va_A [(o0, .inr (11, [.ref t0, o_1, o_2, o_3, o_4, o_5, o_6, .ref r0, o_8, .ref h0, o_10, o_11, .ref rf, .int rb, o_14, o_15, o_16])), (rf, .inl (K 0, 5, .inl frf)), (h0, .inr (2, [.ref h1, .int dr, .int kp])), (h1, .inl (K 0, 476, .inl fs2)), (r0, .inr (10, [.ref a0])), (a0, .inr (0, [.ref m0, .ref w0])), (m0, .inr (3, [.ref m1, .int br])), (m1, .inl (K 0, 64, .inl fs)), (w0, .inl (K 0, 9, .inl fw)), (t0, .inr (9, [.ref t1, .ref t3, .ref t2, .ref l0, .int n, .int lt, .int nf, .int fi, k_8, k_9])), (t1, .inl (K 0, 56, .inl f1)), (t2, .inl (K 0, 6, .inl f2)), (t3, .inl (K 0, 24, .inl f3)), (l0, .inl (K 4, 6, .inr (.inr (.inr (.inr fl)))))] sz))) (va_Qi (S := Su) (fun (r : Int32) (u : Su) => ((u.2.2.2.1 0).toInt ≤ 0) ∧ (0 ≤ (u.2.2.2.1 1).toInt ∧ (u.2.2.2.1 1).toInt ≤ 16) ∧ (0 ≤ (u.2.2.2.1 2).toInt ∧ (u.2.2.2.1 2).toInt ≤ 16) ∧ (FzC gt (u.2.1 2)) ∧ ((r, (u.2.2.2.1 0), (u.2.1 0), (u.2.2.2.1 1), (u.2.2.2.1 2), (u.2.1 1), (u.2.1 2)) = E_w_damp x y rb frf dr kp fs2 br fs fw n lt nf fi f1 f2 f3 fl) ∧ True) (fun u t => Wd D (va_A [(o0, .inr (11, [.ref t0, o_1, o_2, o_3, o_4, o_5, o_6, .ref r0, o_8, .ref h0, o_10, o_11, .ref rf, .int rb, o_14, o_15, o_16])), (rf, .inl (K 0, 5, .inl frf)), (h0, .inr (2, [.ref h1, .int dr, .int kp])), (h1, .inl (K 0, 476, .inl fs2)), (r0, .inr (10, [.ref a0])), (a0, .inr (0, [.ref m0, .ref w0])), (m0, .inr (3, [.ref m1, .int br])), (m1, .inl (K 0, 64, .inl fs)), (w0, .inl (K 0, 9, .inl fw)), (t0, .inr (9, [.ref t1, .ref t3, .ref t2, .ref l0, .int n, .int lt, .int nf, .int fi, k_8, k_9])), (t1, .inl (K 0, 56, .inl f1)), (t2, .inl (K 0, 6, .inl f2)), (t3, .inl (K 0, 24, .inl f3)), (l0, .inl (K 4, 6, .inr (.inr (.inr (.inr fl)))))] sz) ((fun u => [(o0, .inr (11, [.ref t0, o_1, o_2, o_3, o_4, o_5, o_6, .ref r0, o_8, .ref h0, o_10, o_11, .ref rf, .int (u.2.2.2.1 0), o_14, o_15, o_16])), (rf, .inl (K 0, 5, .inl (u.2.1 0))), (h0, .inr (2, [.ref h1, .int (u.2.2.2.1 1), .int (u.2.2.2.1 2)])), (h1, .inl (K 0, 476, .inl (u.2.1 1))), (r0, .inr (10, [.ref a0])), (a0, .inr (0, [.ref m0, .ref w0])), (m0, .inr (3, [.ref m1, .int br])), (m1, .inl (K 0, 64, .inl fs)), (w0, .inl (K 0, 9, .inl fw)), (t0, .inr (9, [.ref t1, .ref t3, .ref t2, .ref l0, .int n, .int lt, .int nf, .int fi, k_8, k_9])), (t1, .inl (K 0, 56, .inl (u.2.1 2))), (t2, .inl (K 0, 6, .inl f2)), (t3, .inl (K 0, 24, .inl f3)), (l0, .inl (K 4, 6, .inr (.inr (.inr (.inr fl)))))]) u) t) (va_A [(o0, .inr (11, [.ref t0, o_1, o_2, o_3, o_4, o_5, o_6, .ref r0, o_8, .ref h0, o_10, o_11, .ref rf, .int rb, o_14, o_15, o_16])), (rf, .inl (K 0, 5, .inl frf)), (h0, .inr (2, [.ref h1, .int dr, .int kp])), (h1, .inl (K 0, 476, .inl fs2)), (r0, .inr (10, [.ref a0])), (a0, .inr (0, [.ref m0, .ref w0])), (m0, .inr (3, [.ref m1, .int br])), (m1, .inl (K 0, 64, .inl fs)), (w0, .inl (K 0, 9, .inl fw)), (t0, .inr (9, [.ref t1, .ref t3, .ref t2, .ref l0, .int n, .int lt, .int nf, .int fi, k_8, k_9])), (t1, .inl (K 0, 56, .inl f1)), (t2, .inl (K 0, 6, .inl f2)), (t3, .inl (K 0, 24, .inl f3)), (l0, .inl (K 4, 6, .inr (.inr (.inr (.inr fl)))))] sz)) 0 0 (va_A [(o0, .inr (11, [.ref t0, o_1, o_2, o_3, o_4, o_5, o_6, .ref r0, o_8, .ref h0, o_10, o_11, .ref rf, .int rb, o_14, o_15, o_16])), (rf, .inl (K 0, 5, .inl frf)), (h0, .inr (2, [.ref h1, .int dr, .int kp])), (h1, .inl (K 0, 476, .inl fs2)), (r0, .inr (10, [.ref a0])), (a0, .inr (0, [.ref m0, .ref w0])), (m0, .inr (3, [.ref m1, .int br])), (m1, .inl (K 0, 64, .inl fs)), (w0, .inl (K 0, 9, .inl fw)), (t0, .inr (9, [.ref t1, .ref t3, .ref t2, .ref l0, .int n, .int lt, .int nf, .int fi, k_8, k_9])), (t1, .inl (K 0, 56, .inl f1)), (t2, .inl (K 0, 6, .inl f2)), (t3, .inl (K 0, 24, .inl f3)), (l0, .inl (K 4, 6, .inr (.inr (.inr (.inr fl)))))] sz) := by
  refine Met.ofW (cc := cX11_damp) (maxL := 3) (ret := (some .int)) (by decide +kernel) rfl ?_
  intro p e s m args below meth c s₁ B hml hv
  obtain ⟨rfl, ⟨hsz, hP, hK, hD0, hN⟩, hG, hPl, hRo⟩ := hv
  have hx := B.exec
  have hb := B.bytes
  have hr := B.returns
  have hts := atoms_spec (ws := wsX11_damp) B.pre
  have hown : s.vm.findClass RX11 = some m.cls := findClass_of_methodNamed B.named
  have hlocks := B.notSynchronized
  subst hsz
  have hD := hD0.self (sz := s.heap.size)
  generalize hAe : va_A [(o0, .inr (11, [.ref t0, o_1, o_2, o_3, o_4, o_5, o_6, .ref r0, o_8, .ref h0, o_10, o_11, .ref rf, .int rb, o_14, o_15, o_16])), (rf, .inl (K 0, 5, .inl frf)), (h0, .inr (2, [.ref h1, .int dr, .int kp])), (h1, .inl (K 0, 476, .inl fs2)), (r0, .inr (10, [.ref a0])), (a0, .inr (0, [.ref m0, .ref w0])), (m0, .inr (3, [.ref m1, .int br])), (m1, .inl (K 0, 64, .inl fs)), (w0, .inl (K 0, 9, .inl fw)), (t0, .inr (9, [.ref t1, .ref t3, .ref t2, .ref l0, .int n, .int lt, .int nf, .int fi, k_8, k_9])), (t1, .inl (K 0, 56, .inl f1)), (t2, .inl (K 0, 6, .inl f2)), (t3, .inl (K 0, 24, .inl f3)), (l0, .inl (K 4, 6, .inr (.inr (.inr (.inr fl)))))] s.heap.size = A at hD hG hPl hRo ⊢
  have hA : ∀ q : Nat, s.heap.size ≤ q → A q := fun q h => by rw [← hAe]; exact Or.inr h
  clear hAe
  have hS : va_S A s.heap s.heap [] := va_S.rf
  replace hP : va_P D vwCl [(o0, .inr (11, [.ref t0, o_1, o_2, o_3, o_4, o_5, o_6, .ref r0, o_8, .ref h0, o_10, o_11, .ref rf, .int rb, o_14, o_15, o_16])), (rf, .inl (K 0, 5, .inl frf)), (h0, .inr (2, [.ref h1, .int dr, .int kp])), (h1, .inl (K 0, 476, .inl fs2)), (r0, .inr (10, [.ref a0])), (a0, .inr (0, [.ref m0, .ref w0])), (m0, .inr (3, [.ref m1, .int br])), (m1, .inl (K 0, 64, .inl fs)), (w0, .inl (K 0, 9, .inl fw)), (t0, .inr (9, [.ref t1, .ref t3, .ref t2, .ref l0, .int n, .int lt, .int nf, .int fi, k_8, k_9])), (t1, .inl (K 0, 56, .inl f1)), (t2, .inl (K 0, 6, .inl f2)), (t3, .inl (K 0, 24, .inl f3)), (l0, .inl (K 4, 6, .inr (.inr (.inr (.inr fl)))))] s.heap := hP
  have hl := lv_entry [.ref o0, .int x, .int y] (n := 3) (Nat.le_of_ble_eq_true rfl)
  rw [lg_entry_eq]
  generalize (lg_sl [.ref o0, .int x, .int y] ++ List.replicate (3 - (lg_sl [.ref o0, .int x, .int y]).length) Slot.unset).toArray = ls at hl ⊢
  have hl : lv_has ls 3 [(0, .ref o0), (1, .int x), (2, .int y)] := hl
  have hw2 : ∀ w ∈ wsX20, w ∈ wsX11_damp := fun w h => (List.mem_cons_of_mem _ (List.mem_append_left _ (List.mem_append_right _ h)))
  have hw9 : ∀ w ∈ wsX90, w ∈ wsX11_damp := fun w h => (List.mem_cons_of_mem _ (List.mem_append_right _ h))
  have hw11 : ∀ w ∈ wsX110, w ∈ wsX11_damp := fun w h => (List.mem_cons_of_mem _ (List.mem_append_left _ (List.mem_append_left _ (List.mem_append_right _ h))))
  generalize hQ : MQ below _ _ s _ _ _ = Q
  have hE := E_w_damp.eq_def x y rb frf dr kp fs2 br fs fw n lt nf fi f1 f2 f3 fl
  refine lv_aload_n hx hb dX11_damp_0 rfl (lv_at hl 0 rfl) ?_
  refine va_get (ci := 11) (v := .ref h0) (C := RX11) (T := TX11) (N := 17) hx hb hts hw11 hown hK hP 0 rfl rfl 9 (by decide +kernel) (hts _ mm_X11_damp_343) (fun _ h9 => h9) rfl dX11_damp_1 ?_
  refine lv_aload_n hx hb dX11_damp_4 rfl (lv_at hl 0 rfl) ?_
  refine va_get (ci := 11) (v := .ref t0) (C := RX11) (T := TX11) (N := 17) hx hb hts hw11 hown hK hP 0 rfl rfl 0 (by decide +kernel) (hts _ mm_X11_damp_334) (fun _ h9 => h9) rfl dX11_damp_5 ?_
  refine kcv (S := Su) (wr := [(o0, .inr (11, [.ref t0, o_1, o_2, o_3, o_4, o_5, o_6, .ref r0, o_8, .ref h0, o_10, o_11, .ref rf, .int rb, o_14, o_15, o_16])), (rf, .inl (K 0, 5, .inl frf)), (r0, .inr (10, [.ref a0])), (a0, .inr (0, [.ref m0, .ref w0])), (m0, .inr (3, [.ref m1, .int br])), (m1, .inl (K 0, 64, .inl fs)), (w0, .inl (K 0, 9, .inl fw)), (t3, .inl (K 0, 24, .inl f3)), (l0, .inl (K 4, 6, .inr (.inr (.inr (.inr fl)))))]) (va_runVN (As := [.ref t0]) (rest := []) ⟨hx, hb, hml, hown, hts⟩ (w_draft l D K h0 t0 h1 dr (.int kp) fs2 t1 (.ref t3) t2 (.ref l0) (.int n) (.int lt) (.int nf) fi k_8 k_9 f1 f2 s.heap.size (by first | omega | decide)) ⟨va_cnB 1 hts gX11_damp_X2_draft_n221 rfl rfl rfl (nst_at hN 69 rfl) (hts _ mm_X11_damp_153) (by decide +kernel) ⟨Nat.le_of_ble_eq_true rfl, Nat.le_of_ble_eq_true rfl⟩, (hts _ mm_X11_damp_593), (hts _ mm_X11_damp_41)⟩ (mkV hK hN (hP.sub [2, 3, 9, 10, 11] rfl) (hD.sub [2, 3, 9, 10, 11] (by decide +kernel) rfl) (ci := 2) (q0 := 0) rfl rfl) rfl rfl hl.1 rfl (lv_room (Nat.le_of_ble_eq_true rfl)) dX11_damp_8 ⟨Nat.le_of_ble_eq_true rfl, Nat.le_of_ble_eq_true rfl⟩) hP hD hS hA [2, 3, 9, 10, 11] [0, 1, 4, 5, 6, 7, 8, 12, 13] rfl rfl (by decide +kernel) (by decide +kernel) (fun u_90 H locs hw hP0 hD0 hS0 => ?_)
  clear hP hD hS
  have hP := hP0
  have hD := hD0
  have hS := hS0
  clear hP0 hD0 hS0
  replace hP : va_P D vwCl [(o0, .inr (11, [.ref t0, o_1, o_2, o_3, o_4, o_5, o_6, .ref r0, o_8, .ref h0, o_10, o_11, .ref rf, .int rb, o_14, o_15, o_16])), (rf, .inl (K 0, 5, .inl frf)), (r0, .inr (10, [.ref a0])), (a0, .inr (0, [.ref m0, .ref w0])), (m0, .inr (3, [.ref m1, .int br])), (m1, .inl (K 0, 64, .inl fs)), (w0, .inl (K 0, 9, .inl fw)), (t3, .inl (K 0, 24, .inl f3)), (l0, .inl (K 4, 6, .inr (.inr (.inr (.inr fl))))), (h0, .inr (2, [.ref h1, .int dr, .int kp])), (h1, .inl (K 0, 476, .inl (u_90.2.1 0))), (t0, .inr (9, [.ref t1, .ref t3, .ref t2, .ref l0, .int n, .int lt, .int nf, .int fi, k_8, k_9])), (t1, .inl (K 0, 56, .inl f1)), (t2, .inl (K 0, 6, .inl f2))] H := hP
  replace hD : va_D A [(o0, .inr (11, [.ref t0, o_1, o_2, o_3, o_4, o_5, o_6, .ref r0, o_8, .ref h0, o_10, o_11, .ref rf, .int rb, o_14, o_15, o_16])), (rf, .inl (K 0, 5, .inl frf)), (r0, .inr (10, [.ref a0])), (a0, .inr (0, [.ref m0, .ref w0])), (m0, .inr (3, [.ref m1, .int br])), (m1, .inl (K 0, 64, .inl fs)), (w0, .inl (K 0, 9, .inl fw)), (t3, .inl (K 0, 24, .inl f3)), (l0, .inl (K 4, 6, .inr (.inr (.inr (.inr fl))))), (h0, .inr (2, [.ref h1, .int dr, .int kp])), (h1, .inl (K 0, 476, .inl (u_90.2.1 0))), (t0, .inr (9, [.ref t1, .ref t3, .ref t2, .ref l0, .int n, .int lt, .int nf, .int fi, k_8, k_9])), (t1, .inl (K 0, 56, .inl f1)), (t2, .inl (K 0, 6, .inl f2))] := hD
  obtain ⟨k_91, -⟩ := hw
  replace hE := hE.trans (Lt_in k_91)
  refine lv_aload_n hx hb dX11_damp_11 rfl (lv_at hl 0 rfl) ?_
  refine lv_iconst (v := 1) hx hb dX11_damp_12 (by decide +kernel) ?_
  refine lv_aload_n hx hb dX11_damp_13 rfl (lv_at hl 0 rfl) ?_
  refine va_get (ci := 11) (v := .ref r0) (C := RX11) (T := TX11) (N := 17) hx hb hts hw11 hown hK hP 0 rfl rfl 7 (by decide +kernel) (hts _ mm_X11_damp_341) (fun _ h9 => h9) rfl dX11_damp_14 ?_
  refine lv_aload_n hx hb dX11_damp_17 rfl (lv_at hl 0 rfl) ?_
  refine va_get (ci := 11) (v := .ref t0) (C := RX11) (T := TX11) (N := 17) hx hb hts hw11 hown hK hP 0 rfl rfl 0 (by decide +kernel) (hts _ mm_X11_damp_334) (fun _ h9 => h9) rfl dX11_damp_18 ?_
  refine lv_iload_n hx hb dX11_damp_21 rfl (lv_at hl 1 rfl) ?_
  refine lv_iload_n hx hb dX11_damp_22 rfl (lv_at hl 2 rfl) ?_
  refine kci (S := Su) (wr := [(o0, .inr (11, [.ref t0, o_1, o_2, o_3, o_4, o_5, o_6, .ref r0, o_8, .ref h0, o_10, o_11, .ref rf, .int rb, o_14, o_15, o_16])), (rf, .inl (K 0, 5, .inl frf)), (a0, .inr (0, [.ref m0, .ref w0])), (m0, .inr (3, [.ref m1, .int br])), (m1, .inl (K 0, 64, .inl fs)), (w0, .inl (K 0, 9, .inl fw)), (t3, .inl (K 0, 24, .inl f3)), (l0, .inl (K 4, 6, .inr (.inr (.inr (.inr fl))))), (h0, .inr (2, [.ref h1, .int dr, .int kp])), (h1, .inl (K 0, 476, .inl (u_90.2.1 0))), (t2, .inl (K 0, 6, .inl f2))]) (va_runVN (As := [.ref t0, .int x, .int y]) (rest := [.int 1, .ref o0]) ⟨hx, hb, hml, hown, hts⟩ (w_quench l D K r0 t0 x y (.ref a0) t1 (.ref t3) (.ref t2) (.ref l0) n (.int lt) (.int nf) (.int fi) k_8 k_9 f1 gt H.size (by first | omega | decide) zgt) ⟨va_cnB 3 hts gX11_damp_X10_quench_n232 rfl rfl rfl (nst_at hN 72 rfl) (hts _ mm_X11_damp_150) (by decide +kernel) ⟨Nat.le_of_ble_eq_true rfl, Nat.le_of_ble_eq_true rfl⟩, (hts _ mm_X11_damp_601), (hts _ mm_X11_damp_43)⟩ (mkV hK hN (hP.sub [2, 11, 12] rfl) (hD.sub [2, 11, 12] (by decide +kernel) rfl) (ci := 10) (q0 := 0) rfl rfl) rfl rfl hl.1 rfl (lv_room (Nat.le_of_ble_eq_true rfl)) dX11_damp_23 ⟨Nat.le_of_ble_eq_true rfl, Nat.le_of_ble_eq_true rfl⟩) hP hD hS hA [2, 11, 12] [0, 1, 3, 4, 5, 6, 7, 8, 9, 10, 13] rfl rfl (by decide +kernel) (by decide +kernel) (fun r_92 u_93 H locs hw hP0 hD0 hS0 => ?_)
  clear hP hD hS
  have hP := hP0
  have hD := hD0
  have hS := hS0
  clear hP0 hD0 hS0
  replace hP : va_P D vwCl [(o0, .inr (11, [.ref t0, o_1, o_2, o_3, o_4, o_5, o_6, .ref r0, o_8, .ref h0, o_10, o_11, .ref rf, .int rb, o_14, o_15, o_16])), (rf, .inl (K 0, 5, .inl frf)), (a0, .inr (0, [.ref m0, .ref w0])), (m0, .inr (3, [.ref m1, .int br])), (m1, .inl (K 0, 64, .inl fs)), (w0, .inl (K 0, 9, .inl fw)), (t3, .inl (K 0, 24, .inl f3)), (l0, .inl (K 4, 6, .inr (.inr (.inr (.inr fl))))), (h0, .inr (2, [.ref h1, .int dr, .int kp])), (h1, .inl (K 0, 476, .inl (u_90.2.1 0))), (t2, .inl (K 0, 6, .inl f2)), (r0, .inr (10, [.ref a0])), (t0, .inr (9, [.ref t1, .ref t3, .ref t2, .ref l0, .int n, .int lt, .int nf, .int fi, k_8, k_9])), (t1, .inl (K 0, 56, .inl (u_93.2.1 0)))] H := hP
  replace hD : va_D A [(o0, .inr (11, [.ref t0, o_1, o_2, o_3, o_4, o_5, o_6, .ref r0, o_8, .ref h0, o_10, o_11, .ref rf, .int rb, o_14, o_15, o_16])), (rf, .inl (K 0, 5, .inl frf)), (a0, .inr (0, [.ref m0, .ref w0])), (m0, .inr (3, [.ref m1, .int br])), (m1, .inl (K 0, 64, .inl fs)), (w0, .inl (K 0, 9, .inl fw)), (t3, .inl (K 0, 24, .inl f3)), (l0, .inl (K 4, 6, .inr (.inr (.inr (.inr fl))))), (h0, .inr (2, [.ref h1, .int dr, .int kp])), (h1, .inl (K 0, 476, .inl (u_90.2.1 0))), (t2, .inl (K 0, 6, .inl f2)), (r0, .inr (10, [.ref a0])), (t0, .inr (9, [.ref t1, .ref t3, .ref t2, .ref l0, .int n, .int lt, .int nf, .int fi, k_8, k_9])), (t1, .inl (K 0, 56, .inl (u_93.2.1 0)))] := hD
  obtain ⟨h_96, k_94, k_95, -⟩ := hw
  replace hE := hE.trans (Lt2_in k_95)
  refine kci (S := Su) (wr := [(a0, .inr (0, [.ref m0, .ref w0])), (m0, .inr (3, [.ref m1, .int br])), (m1, .inl (K 0, 64, .inl fs)), (w0, .inl (K 0, 9, .inl fw)), (t3, .inl (K 0, 24, .inl f3)), (l0, .inl (K 4, 6, .inr (.inr (.inr (.inr fl))))), (t2, .inl (K 0, 6, .inl f2)), (r0, .inr (10, [.ref a0])), (t0, .inr (9, [.ref t1, .ref t3, .ref t2, .ref l0, .int n, .int lt, .int nf, .int fi, k_8, k_9])), (t1, .inl (K 0, 56, .inl (u_93.2.1 0)))]) (va_runV (As := [.int 1, .int r_92]) (rest := []) ⟨hx, hb, hml, hown, hts⟩ (w_settle l D K o0 1 r_92 (.ref t0) o_1 o_2 o_3 o_4 o_5 o_6 (.ref r0) o_8 h0 o_10 o_11 rf rb o_14 o_15 o_16 frf h1 dr kp (u_90.2.1 0) H.size (by first | omega | decide) (by first | omega | decide)) (cwV 2 hts gX11_damp_X11_settle rfl rfl rfl (by decide +kernel) ⟨Nat.le_of_ble_eq_true rfl, Nat.le_of_ble_eq_true rfl⟩) (mkV hK hN (hP.sub [0, 1, 8, 9] rfl) (hD.sub [0, 1, 8, 9] (by decide +kernel) rfl) (ci := 11) (q0 := 0) rfl rfl) rfl rfl hl.1 rfl (lv_room (Nat.le_of_ble_eq_true rfl)) dX11_damp_26 ⟨Nat.le_of_ble_eq_true rfl, Nat.le_of_ble_eq_true rfl⟩) hP hD hS hA [0, 1, 8, 9] [2, 3, 4, 5, 6, 7, 10, 11, 12, 13] rfl rfl (by decide +kernel) (by decide +kernel) (fun r_97 u_98 H locs hw hP0 hD0 hS0 => ?_)
  clear hP hD hS
  have hP := hP0
  have hD := hD0
  have hS := hS0
  clear hP0 hD0 hS0
  replace hP : va_P D vwCl [(a0, .inr (0, [.ref m0, .ref w0])), (m0, .inr (3, [.ref m1, .int br])), (m1, .inl (K 0, 64, .inl fs)), (w0, .inl (K 0, 9, .inl fw)), (t3, .inl (K 0, 24, .inl f3)), (l0, .inl (K 4, 6, .inr (.inr (.inr (.inr fl))))), (t2, .inl (K 0, 6, .inl f2)), (r0, .inr (10, [.ref a0])), (t0, .inr (9, [.ref t1, .ref t3, .ref t2, .ref l0, .int n, .int lt, .int nf, .int fi, k_8, k_9])), (t1, .inl (K 0, 56, .inl (u_93.2.1 0))), (o0, .inr (11, [.ref t0, o_1, o_2, o_3, o_4, o_5, o_6, .ref r0, o_8, .ref h0, o_10, o_11, .ref rf, .int (u_98.2.2.2.1 0), o_14, o_15, o_16])), (rf, .inl (K 0, 5, .inl (u_98.2.1 0))), (h0, .inr (2, [.ref h1, .int (u_98.2.2.2.1 1), .int (u_98.2.2.2.1 2)])), (h1, .inl (K 0, 476, .inl (u_98.2.1 1)))] H := hP
  replace hD : va_D A [(a0, .inr (0, [.ref m0, .ref w0])), (m0, .inr (3, [.ref m1, .int br])), (m1, .inl (K 0, 64, .inl fs)), (w0, .inl (K 0, 9, .inl fw)), (t3, .inl (K 0, 24, .inl f3)), (l0, .inl (K 4, 6, .inr (.inr (.inr (.inr fl))))), (t2, .inl (K 0, 6, .inl f2)), (r0, .inr (10, [.ref a0])), (t0, .inr (9, [.ref t1, .ref t3, .ref t2, .ref l0, .int n, .int lt, .int nf, .int fi, k_8, k_9])), (t1, .inl (K 0, 56, .inl (u_93.2.1 0))), (o0, .inr (11, [.ref t0, o_1, o_2, o_3, o_4, o_5, o_6, .ref r0, o_8, .ref h0, o_10, o_11, .ref rf, .int (u_98.2.2.2.1 0), o_14, o_15, o_16])), (rf, .inl (K 0, 5, .inl (u_98.2.1 0))), (h0, .inr (2, [.ref h1, .int (u_98.2.2.2.1 1), .int (u_98.2.2.2.1 2)])), (h1, .inl (K 0, 476, .inl (u_98.2.1 1)))] := hD
  obtain ⟨k_99, k_100, k_101, k_102, -⟩ := hw
  replace hE := ((((hE.trans (Lt2_in k_102)).trans (Lt2_in rfl)).trans (Lt2_in rfl)).trans (Lt2_in rfl)).trans (Lt2_in rfl)
  rw [← hQ]
  have hP9 := hP.sub (ws' := [(o0, .inr (11, [.ref t0, o_1, o_2, o_3, o_4, o_5, o_6, .ref r0, o_8, .ref h0, o_10, o_11, .ref rf, .int (u_98.2.2.2.1 0), o_14, o_15, o_16])), (rf, .inl (K 0, 5, .inl (u_98.2.1 0))), (h0, .inr (2, [.ref h1, .int (u_98.2.2.2.1 1), .int (u_98.2.2.2.1 2)])), (h1, .inl (K 0, 476, .inl (u_98.2.1 1))), (r0, .inr (10, [.ref a0])), (a0, .inr (0, [.ref m0, .ref w0])), (m0, .inr (3, [.ref m1, .int br])), (m1, .inl (K 0, 64, .inl fs)), (w0, .inl (K 0, 9, .inl fw)), (t0, .inr (9, [.ref t1, .ref t3, .ref t2, .ref l0, .int n, .int lt, .int nf, .int fi, k_8, k_9])), (t1, .inl (K 0, 56, .inl (u_93.2.1 0))), (t2, .inl (K 0, 6, .inl f2)), (t3, .inl (K 0, 24, .inl f3)), (l0, .inl (K 4, 6, .inr (.inr (.inr (.inr fl)))))]) [10, 11, 12, 13, 7, 0, 1, 2, 3, 8, 9, 6, 4, 5] rfl
  have hD9 := hD.sub (ws' := [(o0, .inr (11, [.ref t0, o_1, o_2, o_3, o_4, o_5, o_6, .ref r0, o_8, .ref h0, o_10, o_11, .ref rf, .int (u_98.2.2.2.1 0), o_14, o_15, o_16])), (rf, .inl (K 0, 5, .inl (u_98.2.1 0))), (h0, .inr (2, [.ref h1, .int (u_98.2.2.2.1 1), .int (u_98.2.2.2.1 2)])), (h1, .inl (K 0, 476, .inl (u_98.2.1 1))), (r0, .inr (10, [.ref a0])), (a0, .inr (0, [.ref m0, .ref w0])), (m0, .inr (3, [.ref m1, .int br])), (m1, .inl (K 0, 64, .inl fs)), (w0, .inl (K 0, 9, .inl fw)), (t0, .inr (9, [.ref t1, .ref t3, .ref t2, .ref l0, .int n, .int lt, .int nf, .int fi, k_8, k_9])), (t1, .inl (K 0, 56, .inl (u_93.2.1 0))), (t2, .inl (K 0, 6, .inl f2)), (t3, .inl (K 0, 24, .inl f3)), (l0, .inl (K 4, 6, .inr (.inr (.inr (.inr fl)))))]) [10, 11, 12, 13, 7, 0, 1, 2, 3, 8, 9, 6, 4, 5] (by decide +kernel) rfl
  exact W.iret (v := r_97) hx hb hr (fun t ht hW => ⟨⟨r_97, ((fun _ => 0, fun i => match i with | 0 => (u_98.2.1 0) | 1 => (u_98.2.1 1) | _ => (u_93.2.1 0), fun _ => fun _ => 0, fun i => match i with | 0 => (u_98.2.2.2.1 0) | 1 => (u_98.2.2.2.1 1) | _ => (u_98.2.2.2.1 2), fun _ => 0, fun _ => fun _ => none) : Su), rfl, ⟨(show ((u_98.2.2.2.1 0) : Int32).toInt ≤ 0 by omega), (show 0 ≤ ((u_98.2.2.2.1 1) : Int32).toInt ∧ ((u_98.2.2.2.1 1) : Int32).toInt ≤ 16 by omega), (show 0 ≤ ((u_98.2.2.2.1 2) : Int32).toInt ∧ ((u_98.2.2.2.1 2) : Int32).toInt ≤ 16 by omega), k_94, hE.symm, trivial⟩, (⟨by rw [ht]; exact hP9, hD9⟩ : Wd D A _ t)⟩, hS.F ht⟩) hS.2.2 dX11_damp_29
set_option maxRecDepth 100000 in
noncomputable def E_w_buy (x : Int32) (y : Int32) (rb : Int32) (frf : Nat → Int32) (dr : Int32) (kp : Int32) (fs2 : Nat → Int32) (br : Int32) (fs : Nat → Int32) (fw : Nat → Int32) (n : Int32) (lt : Int32) (nf : Int32) (fi : Int32) (f1 : Nat → Int32) (f2 : Nat → Int32) (f3 : Nat → Int32) (fl : Nat → Option Nat) : Int32 × Int32 × (Nat → Int32) × Int32 × Int32 × (Nat → Int32) × (Nat → Int32) :=
  Lt (E_w_draft dr fs2 fi f1 f2) (fun u_90_2_1_0 => Lt2 (E_w_supply x y n f1) (fun r_92 u_93_2_1_0 => Lt2 (E_w_settle 2 r_92 rb frf dr kp u_90_2_1_0) (fun r_97 q0_r_97 => Lt2 q0_r_97 (fun u_98_2_2_2_1_0 q1_u_98_2_2_2_1_0 => Lt2 q1_u_98_2_2_2_1_0 (fun u_98_2_1_0 q2_u_98_2_1_0 => Lt2 q2_u_98_2_1_0 (fun u_98_2_2_2_1_1 q3_u_98_2_2_2_1_1 => Lt2 q3_u_98_2_2_2_1_1 (fun u_98_2_2_2_1_2 u_98_2_1_1 => ((r_97, u_98_2_2_2_1_0, u_98_2_1_0, u_98_2_2_2_1_1, u_98_2_2_2_1_2, u_98_2_1_1, u_93_2_1_0) : Int32 × Int32 × (Nat → Int32) × Int32 × Int32 × (Nat → Int32) × (Nat → Int32)))))))))
set_option maxHeartbeats 4000000 in
set_option maxRecDepth 100000 in
theorem w_buy (l : Launch) (D : va_G) (K : Nat → ClassId) (g : Nat → Nat) (L : Nat → Prop) (G : Nat → LC) (o0 : Nat) (x : Int32) (y : Int32) (t0 : Nat) (o_1 : Value) (o_2 : Value) (o_3 : Value) (o_4 : Value) (o_5 : Value) (o_6 : Value) (r0 : Nat) (o_8 : Value) (h0 : Nat) (o_10 : Value) (o_11 : Value) (rf : Nat) (rb : Int32) (o_14 : Value) (o_15 : Value) (o_16 : Value) (frf : Nat → Int32) (h1 : Nat) (dr : Int32) (kp : Int32) (fs2 : Nat → Int32) (a0 : Nat) (m0 : Nat) (w0 : Nat) (m1 : Nat) (br : Int32) (fs : Nat → Int32) (fw : Nat → Int32) (t1 : Nat) (t3 : Nat) (t2 : Nat) (l0 : Nat) (n : Int32) (lt : Int32) (nf : Int32) (fi : Int32) (k_8 : Value) (k_9 : Value) (f1 : Nat → Int32) (gt : Nat → Int32) (f2 : Nat → Int32) (f3 : Nat → Int32) (gc : Nat → Int32) (fl : Nat → Option Nat) (sz : Nat) (zn : 0 ≤ n.toInt ∧ n.toInt ≤ 8) (zlt : 0 ≤ lt.toInt ∧ lt.toInt ≤ 6) (zbr : 0 ≤ br.toInt ∧ br.toInt ≤ 1) (zdr : 0 ≤ dr.toInt ∧ dr.toInt ≤ 16) (zkp : 0 ≤ kp.toInt ∧ kp.toInt ≤ 16) (zgt : FzC gt f1) (zgc : FzH gc f3) (zfl : InL L fl) : Met l yX11_buy wsX11_buy ({ frames := 3, cells := 0, slots := 0, locals := 69 }) (va_Pc [.ref o0, .int x, .int y] (PreY D K [(o0, .inr (11, [.ref t0, o_1, o_2, o_3, o_4, o_5, o_6, .ref r0, o_8, .ref h0, o_10, o_11, .ref rf, .int rb, o_14, o_15, o_16])), (rf, .inl (K 0, 5, .inl frf)), (h0, .inr (2, [.ref h1, .int dr, .int kp])), (h1, .inl (K 0, 476, .inl fs2)), (r0, .inr (10, [.ref a0])), (a0, .inr (0, [.ref m0, .ref w0])), (m0, .inr (3, [.ref m1, .int br])), (m1, .inl (K 0, 64, .inl fs)), (w0, .inl (K 0, 9, .inl fw)), (t0, .inr (9, [.ref t1, .ref t3, .ref t2, .ref l0, .int n, .int lt, .int nf, .int fi, k_8, k_9])), (t1, .inl (K 0, 56, .inl f1)), (t2, .inl (K 0, 6, .inl f2)), (t3, .inl (K 0, 24, .inl f3)), (l0, .inl (K 4, 6, .inr (.inr (.inr (.inr fl)))))] [] sz g L G (va_A [(o0, .inr (11, [.ref t0, o_1, o_2, o_3, o_4, o_5, o_6, .ref r0, o_8, .ref h0, o_10, o_11, .ref rf, .int rb, o_14, o_15, o_16])), (rf, .inl (K 0, 5, .inl frf)), (h0, .inr (2, [.ref h1, .int dr, .int kp])), (h1, .inl (K 0, 476, .inl fs2)), (r0, .inr (10, [.ref a0])), (a0, .inr (0, [.ref m0, .ref w0])), (m0, .inr (3, [.ref m1, .int br])), (m1, .inl (K 0, 64, .inl fs)), (w0, .inl (K 0, 9, .inl fw)), (t0, .inr (9, [.ref t1, .ref t3, .ref t2, .ref l0, .int n, .int lt, .int nf, .int fi, k_8, k_9])), (t1, .inl (K 0, 56, .inl f1)), (t2, .inl (K 0, 6, .inl f2)), (t3, .inl (K 0, 24, .inl f3)), (l0, .inl (K 4, 6, .inr (.inr (.inr (.inr fl)))))] sz))) (va_Qi (S := Su) (fun (r : Int32) (u : Su) => ((u.2.2.2.1 0).toInt ≤ 0) ∧ (0 ≤ (u.2.2.2.1 1).toInt ∧ (u.2.2.2.1 1).toInt ≤ 16) ∧ (0 ≤ (u.2.2.2.1 2).toInt ∧ (u.2.2.2.1 2).toInt ≤ 16) ∧ (FzC gt (u.2.1 2)) ∧ ((r, (u.2.2.2.1 0), (u.2.1 0), (u.2.2.2.1 1), (u.2.2.2.1 2), (u.2.1 1), (u.2.1 2)) = E_w_buy x y rb frf dr kp fs2 br fs fw n lt nf fi f1 f2 f3 fl) ∧ True) (fun u t => Wd D (va_A [(o0, .inr (11, [.ref t0, o_1, o_2, o_3, o_4, o_5, o_6, .ref r0, o_8, .ref h0, o_10, o_11, .ref rf, .int rb, o_14, o_15, o_16])), (rf, .inl (K 0, 5, .inl frf)), (h0, .inr (2, [.ref h1, .int dr, .int kp])), (h1, .inl (K 0, 476, .inl fs2)), (r0, .inr (10, [.ref a0])), (a0, .inr (0, [.ref m0, .ref w0])), (m0, .inr (3, [.ref m1, .int br])), (m1, .inl (K 0, 64, .inl fs)), (w0, .inl (K 0, 9, .inl fw)), (t0, .inr (9, [.ref t1, .ref t3, .ref t2, .ref l0, .int n, .int lt, .int nf, .int fi, k_8, k_9])), (t1, .inl (K 0, 56, .inl f1)), (t2, .inl (K 0, 6, .inl f2)), (t3, .inl (K 0, 24, .inl f3)), (l0, .inl (K 4, 6, .inr (.inr (.inr (.inr fl)))))] sz) ((fun u => [(o0, .inr (11, [.ref t0, o_1, o_2, o_3, o_4, o_5, o_6, .ref r0, o_8, .ref h0, o_10, o_11, .ref rf, .int (u.2.2.2.1 0), o_14, o_15, o_16])), (rf, .inl (K 0, 5, .inl (u.2.1 0))), (h0, .inr (2, [.ref h1, .int (u.2.2.2.1 1), .int (u.2.2.2.1 2)])), (h1, .inl (K 0, 476, .inl (u.2.1 1))), (r0, .inr (10, [.ref a0])), (a0, .inr (0, [.ref m0, .ref w0])), (m0, .inr (3, [.ref m1, .int br])), (m1, .inl (K 0, 64, .inl fs)), (w0, .inl (K 0, 9, .inl fw)), (t0, .inr (9, [.ref t1, .ref t3, .ref t2, .ref l0, .int n, .int lt, .int nf, .int fi, k_8, k_9])), (t1, .inl (K 0, 56, .inl (u.2.1 2))), (t2, .inl (K 0, 6, .inl f2)), (t3, .inl (K 0, 24, .inl f3)), (l0, .inl (K 4, 6, .inr (.inr (.inr (.inr fl)))))]) u) t) (va_A [(o0, .inr (11, [.ref t0, o_1, o_2, o_3, o_4, o_5, o_6, .ref r0, o_8, .ref h0, o_10, o_11, .ref rf, .int rb, o_14, o_15, o_16])), (rf, .inl (K 0, 5, .inl frf)), (h0, .inr (2, [.ref h1, .int dr, .int kp])), (h1, .inl (K 0, 476, .inl fs2)), (r0, .inr (10, [.ref a0])), (a0, .inr (0, [.ref m0, .ref w0])), (m0, .inr (3, [.ref m1, .int br])), (m1, .inl (K 0, 64, .inl fs)), (w0, .inl (K 0, 9, .inl fw)), (t0, .inr (9, [.ref t1, .ref t3, .ref t2, .ref l0, .int n, .int lt, .int nf, .int fi, k_8, k_9])), (t1, .inl (K 0, 56, .inl f1)), (t2, .inl (K 0, 6, .inl f2)), (t3, .inl (K 0, 24, .inl f3)), (l0, .inl (K 4, 6, .inr (.inr (.inr (.inr fl)))))] sz)) 0 0 (va_A [(o0, .inr (11, [.ref t0, o_1, o_2, o_3, o_4, o_5, o_6, .ref r0, o_8, .ref h0, o_10, o_11, .ref rf, .int rb, o_14, o_15, o_16])), (rf, .inl (K 0, 5, .inl frf)), (h0, .inr (2, [.ref h1, .int dr, .int kp])), (h1, .inl (K 0, 476, .inl fs2)), (r0, .inr (10, [.ref a0])), (a0, .inr (0, [.ref m0, .ref w0])), (m0, .inr (3, [.ref m1, .int br])), (m1, .inl (K 0, 64, .inl fs)), (w0, .inl (K 0, 9, .inl fw)), (t0, .inr (9, [.ref t1, .ref t3, .ref t2, .ref l0, .int n, .int lt, .int nf, .int fi, k_8, k_9])), (t1, .inl (K 0, 56, .inl f1)), (t2, .inl (K 0, 6, .inl f2)), (t3, .inl (K 0, 24, .inl f3)), (l0, .inl (K 4, 6, .inr (.inr (.inr (.inr fl)))))] sz) := by
  refine Met.ofW (cc := cX11_buy) (maxL := 3) (ret := (some .int)) (by decide +kernel) rfl ?_
  intro p e s m args below meth c s₁ B hml hv
  obtain ⟨rfl, ⟨hsz, hP, hK, hD0, hN⟩, hG, hPl, hRo⟩ := hv
  have hx := B.exec
  have hb := B.bytes
  have hr := B.returns
  have hts := atoms_spec (ws := wsX11_buy) B.pre
  have hown : s.vm.findClass RX11 = some m.cls := findClass_of_methodNamed B.named
  have hlocks := B.notSynchronized
  subst hsz
  have hD := hD0.self (sz := s.heap.size)
  generalize hAe : va_A [(o0, .inr (11, [.ref t0, o_1, o_2, o_3, o_4, o_5, o_6, .ref r0, o_8, .ref h0, o_10, o_11, .ref rf, .int rb, o_14, o_15, o_16])), (rf, .inl (K 0, 5, .inl frf)), (h0, .inr (2, [.ref h1, .int dr, .int kp])), (h1, .inl (K 0, 476, .inl fs2)), (r0, .inr (10, [.ref a0])), (a0, .inr (0, [.ref m0, .ref w0])), (m0, .inr (3, [.ref m1, .int br])), (m1, .inl (K 0, 64, .inl fs)), (w0, .inl (K 0, 9, .inl fw)), (t0, .inr (9, [.ref t1, .ref t3, .ref t2, .ref l0, .int n, .int lt, .int nf, .int fi, k_8, k_9])), (t1, .inl (K 0, 56, .inl f1)), (t2, .inl (K 0, 6, .inl f2)), (t3, .inl (K 0, 24, .inl f3)), (l0, .inl (K 4, 6, .inr (.inr (.inr (.inr fl)))))] s.heap.size = A at hD hG hPl hRo ⊢
  have hA : ∀ q : Nat, s.heap.size ≤ q → A q := fun q h => by rw [← hAe]; exact Or.inr h
  clear hAe
  have hS : va_S A s.heap s.heap [] := va_S.rf
  replace hP : va_P D vwCl [(o0, .inr (11, [.ref t0, o_1, o_2, o_3, o_4, o_5, o_6, .ref r0, o_8, .ref h0, o_10, o_11, .ref rf, .int rb, o_14, o_15, o_16])), (rf, .inl (K 0, 5, .inl frf)), (h0, .inr (2, [.ref h1, .int dr, .int kp])), (h1, .inl (K 0, 476, .inl fs2)), (r0, .inr (10, [.ref a0])), (a0, .inr (0, [.ref m0, .ref w0])), (m0, .inr (3, [.ref m1, .int br])), (m1, .inl (K 0, 64, .inl fs)), (w0, .inl (K 0, 9, .inl fw)), (t0, .inr (9, [.ref t1, .ref t3, .ref t2, .ref l0, .int n, .int lt, .int nf, .int fi, k_8, k_9])), (t1, .inl (K 0, 56, .inl f1)), (t2, .inl (K 0, 6, .inl f2)), (t3, .inl (K 0, 24, .inl f3)), (l0, .inl (K 4, 6, .inr (.inr (.inr (.inr fl)))))] s.heap := hP
  have hl := lv_entry [.ref o0, .int x, .int y] (n := 3) (Nat.le_of_ble_eq_true rfl)
  rw [lg_entry_eq]
  generalize (lg_sl [.ref o0, .int x, .int y] ++ List.replicate (3 - (lg_sl [.ref o0, .int x, .int y]).length) Slot.unset).toArray = ls at hl ⊢
  have hl : lv_has ls 3 [(0, .ref o0), (1, .int x), (2, .int y)] := hl
  have hw2 : ∀ w ∈ wsX20, w ∈ wsX11_buy := fun w h => (List.mem_cons_of_mem _ (List.mem_append_left _ (List.mem_append_right _ h)))
  have hw9 : ∀ w ∈ wsX90, w ∈ wsX11_buy := fun w h => (List.mem_cons_of_mem _ (List.mem_append_right _ h))
  have hw11 : ∀ w ∈ wsX110, w ∈ wsX11_buy := fun w h => (List.mem_cons_of_mem _ (List.mem_append_left _ (List.mem_append_left _ (List.mem_append_right _ h))))
  generalize hQ : MQ below _ _ s _ _ _ = Q
  have hE := E_w_buy.eq_def x y rb frf dr kp fs2 br fs fw n lt nf fi f1 f2 f3 fl
  refine lv_aload_n hx hb dX11_buy_0 rfl (lv_at hl 0 rfl) ?_
  refine va_get (ci := 11) (v := .ref h0) (C := RX11) (T := TX11) (N := 17) hx hb hts hw11 hown hK hP 0 rfl rfl 9 (by decide +kernel) (hts _ mm_X11_buy_343) (fun _ h9 => h9) rfl dX11_buy_1 ?_
  refine lv_aload_n hx hb dX11_buy_4 rfl (lv_at hl 0 rfl) ?_
  refine va_get (ci := 11) (v := .ref t0) (C := RX11) (T := TX11) (N := 17) hx hb hts hw11 hown hK hP 0 rfl rfl 0 (by decide +kernel) (hts _ mm_X11_buy_334) (fun _ h9 => h9) rfl dX11_buy_5 ?_
  refine kcv (S := Su) (wr := [(o0, .inr (11, [.ref t0, o_1, o_2, o_3, o_4, o_5, o_6, .ref r0, o_8, .ref h0, o_10, o_11, .ref rf, .int rb, o_14, o_15, o_16])), (rf, .inl (K 0, 5, .inl frf)), (r0, .inr (10, [.ref a0])), (a0, .inr (0, [.ref m0, .ref w0])), (m0, .inr (3, [.ref m1, .int br])), (m1, .inl (K 0, 64, .inl fs)), (w0, .inl (K 0, 9, .inl fw)), (t3, .inl (K 0, 24, .inl f3)), (l0, .inl (K 4, 6, .inr (.inr (.inr (.inr fl)))))]) (va_runVN (As := [.ref t0]) (rest := []) ⟨hx, hb, hml, hown, hts⟩ (w_draft l D K h0 t0 h1 dr (.int kp) fs2 t1 (.ref t3) t2 (.ref l0) (.int n) (.int lt) (.int nf) fi k_8 k_9 f1 f2 s.heap.size (by first | omega | decide)) ⟨va_cnB 1 hts gX11_buy_X2_draft_n221 rfl rfl rfl (nst_at hN 69 rfl) (hts _ mm_X11_buy_153) (by decide +kernel) ⟨Nat.le_of_ble_eq_true rfl, Nat.le_of_ble_eq_true rfl⟩, (hts _ mm_X11_buy_593), (hts _ mm_X11_buy_41)⟩ (mkV hK hN (hP.sub [2, 3, 9, 10, 11] rfl) (hD.sub [2, 3, 9, 10, 11] (by decide +kernel) rfl) (ci := 2) (q0 := 0) rfl rfl) rfl rfl hl.1 rfl (lv_room (Nat.le_of_ble_eq_true rfl)) dX11_buy_8 ⟨Nat.le_of_ble_eq_true rfl, Nat.le_of_ble_eq_true rfl⟩) hP hD hS hA [2, 3, 9, 10, 11] [0, 1, 4, 5, 6, 7, 8, 12, 13] rfl rfl (by decide +kernel) (by decide +kernel) (fun u_90 H locs hw hP0 hD0 hS0 => ?_)
  clear hP hD hS
  have hP := hP0
  have hD := hD0
  have hS := hS0
  clear hP0 hD0 hS0
  replace hP : va_P D vwCl [(o0, .inr (11, [.ref t0, o_1, o_2, o_3, o_4, o_5, o_6, .ref r0, o_8, .ref h0, o_10, o_11, .ref rf, .int rb, o_14, o_15, o_16])), (rf, .inl (K 0, 5, .inl frf)), (r0, .inr (10, [.ref a0])), (a0, .inr (0, [.ref m0, .ref w0])), (m0, .inr (3, [.ref m1, .int br])), (m1, .inl (K 0, 64, .inl fs)), (w0, .inl (K 0, 9, .inl fw)), (t3, .inl (K 0, 24, .inl f3)), (l0, .inl (K 4, 6, .inr (.inr (.inr (.inr fl))))), (h0, .inr (2, [.ref h1, .int dr, .int kp])), (h1, .inl (K 0, 476, .inl (u_90.2.1 0))), (t0, .inr (9, [.ref t1, .ref t3, .ref t2, .ref l0, .int n, .int lt, .int nf, .int fi, k_8, k_9])), (t1, .inl (K 0, 56, .inl f1)), (t2, .inl (K 0, 6, .inl f2))] H := hP
  replace hD : va_D A [(o0, .inr (11, [.ref t0, o_1, o_2, o_3, o_4, o_5, o_6, .ref r0, o_8, .ref h0, o_10, o_11, .ref rf, .int rb, o_14, o_15, o_16])), (rf, .inl (K 0, 5, .inl frf)), (r0, .inr (10, [.ref a0])), (a0, .inr (0, [.ref m0, .ref w0])), (m0, .inr (3, [.ref m1, .int br])), (m1, .inl (K 0, 64, .inl fs)), (w0, .inl (K 0, 9, .inl fw)), (t3, .inl (K 0, 24, .inl f3)), (l0, .inl (K 4, 6, .inr (.inr (.inr (.inr fl))))), (h0, .inr (2, [.ref h1, .int dr, .int kp])), (h1, .inl (K 0, 476, .inl (u_90.2.1 0))), (t0, .inr (9, [.ref t1, .ref t3, .ref t2, .ref l0, .int n, .int lt, .int nf, .int fi, k_8, k_9])), (t1, .inl (K 0, 56, .inl f1)), (t2, .inl (K 0, 6, .inl f2))] := hD
  obtain ⟨k_91, -⟩ := hw
  replace hE := hE.trans (Lt_in k_91)
  refine lv_aload_n hx hb dX11_buy_11 rfl (lv_at hl 0 rfl) ?_
  refine lv_iconst (v := 2) hx hb dX11_buy_12 (by decide +kernel) ?_
  refine lv_aload_n hx hb dX11_buy_13 rfl (lv_at hl 0 rfl) ?_
  refine va_get (ci := 11) (v := .ref r0) (C := RX11) (T := TX11) (N := 17) hx hb hts hw11 hown hK hP 0 rfl rfl 7 (by decide +kernel) (hts _ mm_X11_buy_341) (fun _ h9 => h9) rfl dX11_buy_14 ?_
  refine lv_aload_n hx hb dX11_buy_17 rfl (lv_at hl 0 rfl) ?_
  refine va_get (ci := 11) (v := .ref t0) (C := RX11) (T := TX11) (N := 17) hx hb hts hw11 hown hK hP 0 rfl rfl 0 (by decide +kernel) (hts _ mm_X11_buy_334) (fun _ h9 => h9) rfl dX11_buy_18 ?_
  refine lv_iload_n hx hb dX11_buy_21 rfl (lv_at hl 1 rfl) ?_
  refine lv_iload_n hx hb dX11_buy_22 rfl (lv_at hl 2 rfl) ?_
  refine kci (S := Su) (wr := [(o0, .inr (11, [.ref t0, o_1, o_2, o_3, o_4, o_5, o_6, .ref r0, o_8, .ref h0, o_10, o_11, .ref rf, .int rb, o_14, o_15, o_16])), (rf, .inl (K 0, 5, .inl frf)), (a0, .inr (0, [.ref m0, .ref w0])), (m0, .inr (3, [.ref m1, .int br])), (m1, .inl (K 0, 64, .inl fs)), (w0, .inl (K 0, 9, .inl fw)), (t3, .inl (K 0, 24, .inl f3)), (l0, .inl (K 4, 6, .inr (.inr (.inr (.inr fl))))), (h0, .inr (2, [.ref h1, .int dr, .int kp])), (h1, .inl (K 0, 476, .inl (u_90.2.1 0))), (t2, .inl (K 0, 6, .inl f2))]) (va_runVN (As := [.ref t0, .int x, .int y]) (rest := [.int 2, .ref o0]) ⟨hx, hb, hml, hown, hts⟩ (w_supply l D K r0 t0 x y (.ref a0) t1 (.ref t3) (.ref t2) (.ref l0) n (.int lt) (.int nf) (.int fi) k_8 k_9 f1 gt H.size (by first | omega | decide) zgt) ⟨va_cnB 3 hts gX11_buy_X10_supply_n236 rfl rfl rfl (nst_at hN 73 rfl) (hts _ mm_X11_buy_150) (by decide +kernel) ⟨Nat.le_of_ble_eq_true rfl, Nat.le_of_ble_eq_true rfl⟩, (hts _ mm_X11_buy_604), (hts _ mm_X11_buy_44)⟩ (mkV hK hN (hP.sub [2, 11, 12] rfl) (hD.sub [2, 11, 12] (by decide +kernel) rfl) (ci := 10) (q0 := 0) rfl rfl) rfl rfl hl.1 rfl (lv_room (Nat.le_of_ble_eq_true rfl)) dX11_buy_23 ⟨Nat.le_of_ble_eq_true rfl, Nat.le_of_ble_eq_true rfl⟩) hP hD hS hA [2, 11, 12] [0, 1, 3, 4, 5, 6, 7, 8, 9, 10, 13] rfl rfl (by decide +kernel) (by decide +kernel) (fun r_92 u_93 H locs hw hP0 hD0 hS0 => ?_)
  clear hP hD hS
  have hP := hP0
  have hD := hD0
  have hS := hS0
  clear hP0 hD0 hS0
  replace hP : va_P D vwCl [(o0, .inr (11, [.ref t0, o_1, o_2, o_3, o_4, o_5, o_6, .ref r0, o_8, .ref h0, o_10, o_11, .ref rf, .int rb, o_14, o_15, o_16])), (rf, .inl (K 0, 5, .inl frf)), (a0, .inr (0, [.ref m0, .ref w0])), (m0, .inr (3, [.ref m1, .int br])), (m1, .inl (K 0, 64, .inl fs)), (w0, .inl (K 0, 9, .inl fw)), (t3, .inl (K 0, 24, .inl f3)), (l0, .inl (K 4, 6, .inr (.inr (.inr (.inr fl))))), (h0, .inr (2, [.ref h1, .int dr, .int kp])), (h1, .inl (K 0, 476, .inl (u_90.2.1 0))), (t2, .inl (K 0, 6, .inl f2)), (r0, .inr (10, [.ref a0])), (t0, .inr (9, [.ref t1, .ref t3, .ref t2, .ref l0, .int n, .int lt, .int nf, .int fi, k_8, k_9])), (t1, .inl (K 0, 56, .inl (u_93.2.1 0)))] H := hP
  replace hD : va_D A [(o0, .inr (11, [.ref t0, o_1, o_2, o_3, o_4, o_5, o_6, .ref r0, o_8, .ref h0, o_10, o_11, .ref rf, .int rb, o_14, o_15, o_16])), (rf, .inl (K 0, 5, .inl frf)), (a0, .inr (0, [.ref m0, .ref w0])), (m0, .inr (3, [.ref m1, .int br])), (m1, .inl (K 0, 64, .inl fs)), (w0, .inl (K 0, 9, .inl fw)), (t3, .inl (K 0, 24, .inl f3)), (l0, .inl (K 4, 6, .inr (.inr (.inr (.inr fl))))), (h0, .inr (2, [.ref h1, .int dr, .int kp])), (h1, .inl (K 0, 476, .inl (u_90.2.1 0))), (t2, .inl (K 0, 6, .inl f2)), (r0, .inr (10, [.ref a0])), (t0, .inr (9, [.ref t1, .ref t3, .ref t2, .ref l0, .int n, .int lt, .int nf, .int fi, k_8, k_9])), (t1, .inl (K 0, 56, .inl (u_93.2.1 0)))] := hD
  obtain ⟨h_96, k_94, k_95, -⟩ := hw
  replace hE := hE.trans (Lt2_in k_95)
  refine kci (S := Su) (wr := [(a0, .inr (0, [.ref m0, .ref w0])), (m0, .inr (3, [.ref m1, .int br])), (m1, .inl (K 0, 64, .inl fs)), (w0, .inl (K 0, 9, .inl fw)), (t3, .inl (K 0, 24, .inl f3)), (l0, .inl (K 4, 6, .inr (.inr (.inr (.inr fl))))), (t2, .inl (K 0, 6, .inl f2)), (r0, .inr (10, [.ref a0])), (t0, .inr (9, [.ref t1, .ref t3, .ref t2, .ref l0, .int n, .int lt, .int nf, .int fi, k_8, k_9])), (t1, .inl (K 0, 56, .inl (u_93.2.1 0)))]) (va_runV (As := [.int 2, .int r_92]) (rest := []) ⟨hx, hb, hml, hown, hts⟩ (w_settle l D K o0 2 r_92 (.ref t0) o_1 o_2 o_3 o_4 o_5 o_6 (.ref r0) o_8 h0 o_10 o_11 rf rb o_14 o_15 o_16 frf h1 dr kp (u_90.2.1 0) H.size (by first | omega | decide) (by first | omega | decide)) (cwV 2 hts gX11_buy_X11_settle rfl rfl rfl (by decide +kernel) ⟨Nat.le_of_ble_eq_true rfl, Nat.le_of_ble_eq_true rfl⟩) (mkV hK hN (hP.sub [0, 1, 8, 9] rfl) (hD.sub [0, 1, 8, 9] (by decide +kernel) rfl) (ci := 11) (q0 := 0) rfl rfl) rfl rfl hl.1 rfl (lv_room (Nat.le_of_ble_eq_true rfl)) dX11_buy_26 ⟨Nat.le_of_ble_eq_true rfl, Nat.le_of_ble_eq_true rfl⟩) hP hD hS hA [0, 1, 8, 9] [2, 3, 4, 5, 6, 7, 10, 11, 12, 13] rfl rfl (by decide +kernel) (by decide +kernel) (fun r_97 u_98 H locs hw hP0 hD0 hS0 => ?_)
  clear hP hD hS
  have hP := hP0
  have hD := hD0
  have hS := hS0
  clear hP0 hD0 hS0
  replace hP : va_P D vwCl [(a0, .inr (0, [.ref m0, .ref w0])), (m0, .inr (3, [.ref m1, .int br])), (m1, .inl (K 0, 64, .inl fs)), (w0, .inl (K 0, 9, .inl fw)), (t3, .inl (K 0, 24, .inl f3)), (l0, .inl (K 4, 6, .inr (.inr (.inr (.inr fl))))), (t2, .inl (K 0, 6, .inl f2)), (r0, .inr (10, [.ref a0])), (t0, .inr (9, [.ref t1, .ref t3, .ref t2, .ref l0, .int n, .int lt, .int nf, .int fi, k_8, k_9])), (t1, .inl (K 0, 56, .inl (u_93.2.1 0))), (o0, .inr (11, [.ref t0, o_1, o_2, o_3, o_4, o_5, o_6, .ref r0, o_8, .ref h0, o_10, o_11, .ref rf, .int (u_98.2.2.2.1 0), o_14, o_15, o_16])), (rf, .inl (K 0, 5, .inl (u_98.2.1 0))), (h0, .inr (2, [.ref h1, .int (u_98.2.2.2.1 1), .int (u_98.2.2.2.1 2)])), (h1, .inl (K 0, 476, .inl (u_98.2.1 1)))] H := hP
  replace hD : va_D A [(a0, .inr (0, [.ref m0, .ref w0])), (m0, .inr (3, [.ref m1, .int br])), (m1, .inl (K 0, 64, .inl fs)), (w0, .inl (K 0, 9, .inl fw)), (t3, .inl (K 0, 24, .inl f3)), (l0, .inl (K 4, 6, .inr (.inr (.inr (.inr fl))))), (t2, .inl (K 0, 6, .inl f2)), (r0, .inr (10, [.ref a0])), (t0, .inr (9, [.ref t1, .ref t3, .ref t2, .ref l0, .int n, .int lt, .int nf, .int fi, k_8, k_9])), (t1, .inl (K 0, 56, .inl (u_93.2.1 0))), (o0, .inr (11, [.ref t0, o_1, o_2, o_3, o_4, o_5, o_6, .ref r0, o_8, .ref h0, o_10, o_11, .ref rf, .int (u_98.2.2.2.1 0), o_14, o_15, o_16])), (rf, .inl (K 0, 5, .inl (u_98.2.1 0))), (h0, .inr (2, [.ref h1, .int (u_98.2.2.2.1 1), .int (u_98.2.2.2.1 2)])), (h1, .inl (K 0, 476, .inl (u_98.2.1 1)))] := hD
  obtain ⟨k_99, k_100, k_101, k_102, -⟩ := hw
  replace hE := ((((hE.trans (Lt2_in k_102)).trans (Lt2_in rfl)).trans (Lt2_in rfl)).trans (Lt2_in rfl)).trans (Lt2_in rfl)
  rw [← hQ]
  have hP9 := hP.sub (ws' := [(o0, .inr (11, [.ref t0, o_1, o_2, o_3, o_4, o_5, o_6, .ref r0, o_8, .ref h0, o_10, o_11, .ref rf, .int (u_98.2.2.2.1 0), o_14, o_15, o_16])), (rf, .inl (K 0, 5, .inl (u_98.2.1 0))), (h0, .inr (2, [.ref h1, .int (u_98.2.2.2.1 1), .int (u_98.2.2.2.1 2)])), (h1, .inl (K 0, 476, .inl (u_98.2.1 1))), (r0, .inr (10, [.ref a0])), (a0, .inr (0, [.ref m0, .ref w0])), (m0, .inr (3, [.ref m1, .int br])), (m1, .inl (K 0, 64, .inl fs)), (w0, .inl (K 0, 9, .inl fw)), (t0, .inr (9, [.ref t1, .ref t3, .ref t2, .ref l0, .int n, .int lt, .int nf, .int fi, k_8, k_9])), (t1, .inl (K 0, 56, .inl (u_93.2.1 0))), (t2, .inl (K 0, 6, .inl f2)), (t3, .inl (K 0, 24, .inl f3)), (l0, .inl (K 4, 6, .inr (.inr (.inr (.inr fl)))))]) [10, 11, 12, 13, 7, 0, 1, 2, 3, 8, 9, 6, 4, 5] rfl
  have hD9 := hD.sub (ws' := [(o0, .inr (11, [.ref t0, o_1, o_2, o_3, o_4, o_5, o_6, .ref r0, o_8, .ref h0, o_10, o_11, .ref rf, .int (u_98.2.2.2.1 0), o_14, o_15, o_16])), (rf, .inl (K 0, 5, .inl (u_98.2.1 0))), (h0, .inr (2, [.ref h1, .int (u_98.2.2.2.1 1), .int (u_98.2.2.2.1 2)])), (h1, .inl (K 0, 476, .inl (u_98.2.1 1))), (r0, .inr (10, [.ref a0])), (a0, .inr (0, [.ref m0, .ref w0])), (m0, .inr (3, [.ref m1, .int br])), (m1, .inl (K 0, 64, .inl fs)), (w0, .inl (K 0, 9, .inl fw)), (t0, .inr (9, [.ref t1, .ref t3, .ref t2, .ref l0, .int n, .int lt, .int nf, .int fi, k_8, k_9])), (t1, .inl (K 0, 56, .inl (u_93.2.1 0))), (t2, .inl (K 0, 6, .inl f2)), (t3, .inl (K 0, 24, .inl f3)), (l0, .inl (K 4, 6, .inr (.inr (.inr (.inr fl)))))]) [10, 11, 12, 13, 7, 0, 1, 2, 3, 8, 9, 6, 4, 5] (by decide +kernel) rfl
  exact W.iret (v := r_97) hx hb hr (fun t ht hW => ⟨⟨r_97, ((fun _ => 0, fun i => match i with | 0 => (u_98.2.1 0) | 1 => (u_98.2.1 1) | _ => (u_93.2.1 0), fun _ => fun _ => 0, fun i => match i with | 0 => (u_98.2.2.2.1 0) | 1 => (u_98.2.2.2.1 1) | _ => (u_98.2.2.2.1 2), fun _ => 0, fun _ => fun _ => none) : Su), rfl, ⟨(show ((u_98.2.2.2.1 0) : Int32).toInt ≤ 0 by omega), (show 0 ≤ ((u_98.2.2.2.1 1) : Int32).toInt ∧ ((u_98.2.2.2.1 1) : Int32).toInt ≤ 16 by omega), (show 0 ≤ ((u_98.2.2.2.1 2) : Int32).toInt ∧ ((u_98.2.2.2.1 2) : Int32).toInt ≤ 16 by omega), k_94, hE.symm, trivial⟩, (⟨by rw [ht]; exact hP9, hD9⟩ : Wd D A _ t)⟩, hS.F ht⟩) hS.2.2 dX11_buy_29
set_option maxRecDepth 100000 in
noncomputable def E_w_pass (G : Nat → LC) (rb : Int32) (frf : Nat → Int32) (dr : Int32) (kp : Int32) (fs2 : Nat → Int32) (br : Int32) (fs : Nat → Int32) (fw : Nat → Int32) (n : Int32) (lt : Int32) (nf : Int32) (fi : Int32) (f1 : Nat → Int32) (f2 : Nat → Int32) (f3 : Nat → Int32) (fl : Nat → Option Nat) : Int32 × Int32 × (Nat → Int32) × Int32 × Int32 × (Nat → Int32) × Int32 × (Nat → Int32) × (Nat → Int32) × Int32 × (Nat → Int32) × (Nat → Int32) :=
  Lt (E_w_draft dr fs2 fi f1 f2) (fun u_92_2_1_0 => Lt2 (E_w_nextHour G br fs fw n lt nf fi f1 f2 f3 fl) (fun r_94 q0_r_94 => Lt2 q0_r_94 (fun u_95_2_2_2_1_0 q1_u_95_2_2_2_1_0 => Lt2 q1_u_95_2_2_2_1_0 (fun u_95_2_1_0 q2_u_95_2_1_0 => Lt2 q2_u_95_2_1_0 (fun u_95_2_1_1 q3_u_95_2_1_1 => Lt2 q3_u_95_2_1_1 (fun u_95_2_2_2_1_1 q4_u_95_2_2_2_1_1 => Lt2 q4_u_95_2_2_2_1_1 (fun u_95_2_1_2 u_95_2_1_3 => Lt2 (E_w_settle 3 r_94 rb frf dr kp u_92_2_1_0) (fun r_100 q0_r_100 => Lt2 q0_r_100 (fun u_101_2_2_2_1_0 q1_u_101_2_2_2_1_0 => Lt2 q1_u_101_2_2_2_1_0 (fun u_101_2_1_0 q2_u_101_2_1_0 => Lt2 q2_u_101_2_1_0 (fun u_101_2_2_2_1_1 q3_u_101_2_2_2_1_1 => Lt2 q3_u_101_2_2_2_1_1 (fun u_101_2_2_2_1_2 u_101_2_1_1 => ((r_100, u_101_2_2_2_1_0, u_101_2_1_0, u_101_2_2_2_1_1, u_101_2_2_2_1_2, u_101_2_1_1, u_95_2_2_2_1_0, u_95_2_1_0, u_95_2_1_1, u_95_2_2_2_1_1, u_95_2_1_2, u_95_2_1_3) : Int32 × Int32 × (Nat → Int32) × Int32 × Int32 × (Nat → Int32) × Int32 × (Nat → Int32) × (Nat → Int32) × Int32 × (Nat → Int32) × (Nat → Int32))))))))))))))
set_option maxHeartbeats 4000000 in
set_option maxRecDepth 100000 in
theorem w_pass (l : Launch) (D : va_G) (K : Nat → ClassId) (g : Nat → Nat) (L : Nat → Prop) (G : Nat → LC) (o0 : Nat) (t0 : Nat) (o_1 : Value) (o_2 : Value) (o_3 : Value) (o_4 : Value) (o_5 : Value) (o_6 : Value) (r0 : Nat) (o_8 : Value) (h0 : Nat) (o_10 : Value) (o_11 : Value) (rf : Nat) (rb : Int32) (o_14 : Value) (o_15 : Value) (o_16 : Value) (frf : Nat → Int32) (h1 : Nat) (dr : Int32) (kp : Int32) (fs2 : Nat → Int32) (a0 : Nat) (m0 : Nat) (w0 : Nat) (m1 : Nat) (br : Int32) (fs : Nat → Int32) (fw : Nat → Int32) (t1 : Nat) (t3 : Nat) (t2 : Nat) (l0 : Nat) (n : Int32) (lt : Int32) (nf : Int32) (fi : Int32) (k_8 : Value) (k_9 : Value) (f1 : Nat → Int32) (gt : Nat → Int32) (f2 : Nat → Int32) (f3 : Nat → Int32) (gc : Nat → Int32) (fl : Nat → Option Nat) (sz : Nat) (zn : 0 ≤ n.toInt ∧ n.toInt ≤ 8) (zlt : 0 ≤ lt.toInt ∧ lt.toInt ≤ 6) (zbr : 0 ≤ br.toInt ∧ br.toInt ≤ 1) (zdr : 0 ≤ dr.toInt ∧ dr.toInt ≤ 16) (zkp : 0 ≤ kp.toInt ∧ kp.toInt ≤ 16) (zgt : FzC gt f1) (zgc : FzH gc f3) (zfl : InL L fl) : Met l yX11_pass wsX11_pass ({ frames := 5, cells := 0, slots := 0, locals := 128 }) (va_Pc [.ref o0] (PreY D K [(o0, .inr (11, [.ref t0, o_1, o_2, o_3, o_4, o_5, o_6, .ref r0, o_8, .ref h0, o_10, o_11, .ref rf, .int rb, o_14, o_15, o_16])), (rf, .inl (K 0, 5, .inl frf)), (h0, .inr (2, [.ref h1, .int dr, .int kp])), (h1, .inl (K 0, 476, .inl fs2)), (r0, .inr (10, [.ref a0])), (a0, .inr (0, [.ref m0, .ref w0])), (m0, .inr (3, [.ref m1, .int br])), (m1, .inl (K 0, 64, .inl fs)), (w0, .inl (K 0, 9, .inl fw)), (t0, .inr (9, [.ref t1, .ref t3, .ref t2, .ref l0, .int n, .int lt, .int nf, .int fi, k_8, k_9])), (t1, .inl (K 0, 56, .inl f1)), (t2, .inl (K 0, 6, .inl f2)), (t3, .inl (K 0, 24, .inl f3)), (l0, .inl (K 4, 6, .inr (.inr (.inr (.inr fl)))))] [] sz g L G (va_A [(o0, .inr (11, [.ref t0, o_1, o_2, o_3, o_4, o_5, o_6, .ref r0, o_8, .ref h0, o_10, o_11, .ref rf, .int rb, o_14, o_15, o_16])), (rf, .inl (K 0, 5, .inl frf)), (h0, .inr (2, [.ref h1, .int dr, .int kp])), (h1, .inl (K 0, 476, .inl fs2)), (r0, .inr (10, [.ref a0])), (a0, .inr (0, [.ref m0, .ref w0])), (m0, .inr (3, [.ref m1, .int br])), (m1, .inl (K 0, 64, .inl fs)), (w0, .inl (K 0, 9, .inl fw)), (t0, .inr (9, [.ref t1, .ref t3, .ref t2, .ref l0, .int n, .int lt, .int nf, .int fi, k_8, k_9])), (t1, .inl (K 0, 56, .inl f1)), (t2, .inl (K 0, 6, .inl f2)), (t3, .inl (K 0, 24, .inl f3)), (l0, .inl (K 4, 6, .inr (.inr (.inr (.inr fl)))))] sz))) (va_Qi (S := Su) (fun (r : Int32) (u : Su) => ((u.2.2.2.1 0).toInt ≤ 0) ∧ (0 ≤ (u.2.2.2.1 1).toInt ∧ (u.2.2.2.1 1).toInt ≤ 16) ∧ (0 ≤ (u.2.2.2.1 2).toInt ∧ (u.2.2.2.1 2).toInt ≤ 16) ∧ (0 ≤ (u.2.2.2.1 3).toInt ∧ (u.2.2.2.1 3).toInt ≤ 1) ∧ (FzC gt (u.2.1 4)) ∧ ((r, (u.2.2.2.1 0), (u.2.1 0), (u.2.2.2.1 1), (u.2.2.2.1 2), (u.2.1 1), (u.2.2.2.1 3), (u.2.1 2), (u.2.1 3), (u.2.2.2.1 4), (u.2.1 4), (u.2.1 5)) = E_w_pass G rb frf dr kp fs2 br fs fw n lt nf fi f1 f2 f3 fl) ∧ True) (fun u t => Wd D (va_A [(o0, .inr (11, [.ref t0, o_1, o_2, o_3, o_4, o_5, o_6, .ref r0, o_8, .ref h0, o_10, o_11, .ref rf, .int rb, o_14, o_15, o_16])), (rf, .inl (K 0, 5, .inl frf)), (h0, .inr (2, [.ref h1, .int dr, .int kp])), (h1, .inl (K 0, 476, .inl fs2)), (r0, .inr (10, [.ref a0])), (a0, .inr (0, [.ref m0, .ref w0])), (m0, .inr (3, [.ref m1, .int br])), (m1, .inl (K 0, 64, .inl fs)), (w0, .inl (K 0, 9, .inl fw)), (t0, .inr (9, [.ref t1, .ref t3, .ref t2, .ref l0, .int n, .int lt, .int nf, .int fi, k_8, k_9])), (t1, .inl (K 0, 56, .inl f1)), (t2, .inl (K 0, 6, .inl f2)), (t3, .inl (K 0, 24, .inl f3)), (l0, .inl (K 4, 6, .inr (.inr (.inr (.inr fl)))))] sz) ((fun u => [(o0, .inr (11, [.ref t0, o_1, o_2, o_3, o_4, o_5, o_6, .ref r0, o_8, .ref h0, o_10, o_11, .ref rf, .int (u.2.2.2.1 0), o_14, o_15, o_16])), (rf, .inl (K 0, 5, .inl (u.2.1 0))), (h0, .inr (2, [.ref h1, .int (u.2.2.2.1 1), .int (u.2.2.2.1 2)])), (h1, .inl (K 0, 476, .inl (u.2.1 1))), (r0, .inr (10, [.ref a0])), (a0, .inr (0, [.ref m0, .ref w0])), (m0, .inr (3, [.ref m1, .int (u.2.2.2.1 3)])), (m1, .inl (K 0, 64, .inl (u.2.1 2))), (w0, .inl (K 0, 9, .inl (u.2.1 3))), (t0, .inr (9, [.ref t1, .ref t3, .ref t2, .ref l0, .int n, .int lt, .int nf, .int (u.2.2.2.1 4), k_8, k_9])), (t1, .inl (K 0, 56, .inl (u.2.1 4))), (t2, .inl (K 0, 6, .inl (u.2.1 5))), (t3, .inl (K 0, 24, .inl f3)), (l0, .inl (K 4, 6, .inr (.inr (.inr (.inr fl)))))]) u) t) (va_A [(o0, .inr (11, [.ref t0, o_1, o_2, o_3, o_4, o_5, o_6, .ref r0, o_8, .ref h0, o_10, o_11, .ref rf, .int rb, o_14, o_15, o_16])), (rf, .inl (K 0, 5, .inl frf)), (h0, .inr (2, [.ref h1, .int dr, .int kp])), (h1, .inl (K 0, 476, .inl fs2)), (r0, .inr (10, [.ref a0])), (a0, .inr (0, [.ref m0, .ref w0])), (m0, .inr (3, [.ref m1, .int br])), (m1, .inl (K 0, 64, .inl fs)), (w0, .inl (K 0, 9, .inl fw)), (t0, .inr (9, [.ref t1, .ref t3, .ref t2, .ref l0, .int n, .int lt, .int nf, .int fi, k_8, k_9])), (t1, .inl (K 0, 56, .inl f1)), (t2, .inl (K 0, 6, .inl f2)), (t3, .inl (K 0, 24, .inl f3)), (l0, .inl (K 4, 6, .inr (.inr (.inr (.inr fl)))))] sz)) 0 0 (va_A [(o0, .inr (11, [.ref t0, o_1, o_2, o_3, o_4, o_5, o_6, .ref r0, o_8, .ref h0, o_10, o_11, .ref rf, .int rb, o_14, o_15, o_16])), (rf, .inl (K 0, 5, .inl frf)), (h0, .inr (2, [.ref h1, .int dr, .int kp])), (h1, .inl (K 0, 476, .inl fs2)), (r0, .inr (10, [.ref a0])), (a0, .inr (0, [.ref m0, .ref w0])), (m0, .inr (3, [.ref m1, .int br])), (m1, .inl (K 0, 64, .inl fs)), (w0, .inl (K 0, 9, .inl fw)), (t0, .inr (9, [.ref t1, .ref t3, .ref t2, .ref l0, .int n, .int lt, .int nf, .int fi, k_8, k_9])), (t1, .inl (K 0, 56, .inl f1)), (t2, .inl (K 0, 6, .inl f2)), (t3, .inl (K 0, 24, .inl f3)), (l0, .inl (K 4, 6, .inr (.inr (.inr (.inr fl)))))] sz) := by
  refine Met.ofW (cc := cX11_pass) (maxL := 1) (ret := (some .int)) (by decide +kernel) rfl ?_
  intro p e s m args below meth c s₁ B hml hv
  obtain ⟨rfl, ⟨hsz, hP, hK, hD0, hN⟩, hG, hPl, hRo⟩ := hv
  have hx := B.exec
  have hb := B.bytes
  have hr := B.returns
  have hts := atoms_spec (ws := wsX11_pass) B.pre
  have hown : s.vm.findClass RX11 = some m.cls := findClass_of_methodNamed B.named
  have hlocks := B.notSynchronized
  subst hsz
  have hD := hD0.self (sz := s.heap.size)
  generalize hAe : va_A [(o0, .inr (11, [.ref t0, o_1, o_2, o_3, o_4, o_5, o_6, .ref r0, o_8, .ref h0, o_10, o_11, .ref rf, .int rb, o_14, o_15, o_16])), (rf, .inl (K 0, 5, .inl frf)), (h0, .inr (2, [.ref h1, .int dr, .int kp])), (h1, .inl (K 0, 476, .inl fs2)), (r0, .inr (10, [.ref a0])), (a0, .inr (0, [.ref m0, .ref w0])), (m0, .inr (3, [.ref m1, .int br])), (m1, .inl (K 0, 64, .inl fs)), (w0, .inl (K 0, 9, .inl fw)), (t0, .inr (9, [.ref t1, .ref t3, .ref t2, .ref l0, .int n, .int lt, .int nf, .int fi, k_8, k_9])), (t1, .inl (K 0, 56, .inl f1)), (t2, .inl (K 0, 6, .inl f2)), (t3, .inl (K 0, 24, .inl f3)), (l0, .inl (K 4, 6, .inr (.inr (.inr (.inr fl)))))] s.heap.size = A at hD hG hPl hRo ⊢
  have hA : ∀ q : Nat, s.heap.size ≤ q → A q := fun q h => by rw [← hAe]; exact Or.inr h
  clear hAe
  have hS : va_S A s.heap s.heap [] := va_S.rf
  replace hP : va_P D vwCl [(o0, .inr (11, [.ref t0, o_1, o_2, o_3, o_4, o_5, o_6, .ref r0, o_8, .ref h0, o_10, o_11, .ref rf, .int rb, o_14, o_15, o_16])), (rf, .inl (K 0, 5, .inl frf)), (h0, .inr (2, [.ref h1, .int dr, .int kp])), (h1, .inl (K 0, 476, .inl fs2)), (r0, .inr (10, [.ref a0])), (a0, .inr (0, [.ref m0, .ref w0])), (m0, .inr (3, [.ref m1, .int br])), (m1, .inl (K 0, 64, .inl fs)), (w0, .inl (K 0, 9, .inl fw)), (t0, .inr (9, [.ref t1, .ref t3, .ref t2, .ref l0, .int n, .int lt, .int nf, .int fi, k_8, k_9])), (t1, .inl (K 0, 56, .inl f1)), (t2, .inl (K 0, 6, .inl f2)), (t3, .inl (K 0, 24, .inl f3)), (l0, .inl (K 4, 6, .inr (.inr (.inr (.inr fl)))))] s.heap := hP
  have hl := lv_entry [.ref o0] (n := 1) (Nat.le_of_ble_eq_true rfl)
  rw [lg_entry_eq]
  generalize (lg_sl [.ref o0] ++ List.replicate (1 - (lg_sl [.ref o0]).length) Slot.unset).toArray = ls at hl ⊢
  have hl : lv_has ls 1 [(0, .ref o0)] := hl
  have hw0 : ∀ w ∈ wsX00, w ∈ wsX11_pass := fun w h => (List.mem_cons_of_mem _ (List.mem_append_left _ (List.mem_append_left _ (List.mem_append_right _ h))))
  have hw2 : ∀ w ∈ wsX20, w ∈ wsX11_pass := fun w h => (List.mem_cons_of_mem _ (List.mem_append_left _ (List.mem_append_left _ (List.mem_append_left _ (List.mem_append_left _ (List.mem_append_left _ (List.mem_append_right _ h)))))))
  have hw3 : ∀ w ∈ wsX30, w ∈ wsX11_pass := fun w h => (List.mem_cons_of_mem _ (List.mem_append_right _ h))
  have hw7 : ∀ w ∈ wsX70, w ∈ wsX11_pass := fun w h => (List.mem_cons_of_mem _ (List.mem_append_left _ (List.mem_append_right _ h)))
  have hw9 : ∀ w ∈ wsX90, w ∈ wsX11_pass := fun w h => (List.mem_cons_of_mem _ (List.mem_append_left _ (List.mem_append_left _ (List.mem_append_left _ (List.mem_append_left _ (List.mem_append_right _ h))))))
  have hw10 : ∀ w ∈ wsX100, w ∈ wsX11_pass := fun w h => (List.mem_cons_of_mem _ (List.mem_append_left _ (List.mem_append_left _ (List.mem_append_left _ (List.mem_append_right _ h)))))
  have hw11 : ∀ w ∈ wsX110, w ∈ wsX11_pass := fun w h => (List.mem_cons_of_mem _ (List.mem_append_left _ (List.mem_append_left _ (List.mem_append_left _ (List.mem_append_left _ (List.mem_append_left _ (List.mem_append_left _ (List.mem_append_right _ h))))))))
  generalize hQ : MQ below _ _ s _ _ _ = Q
  have hE := E_w_pass.eq_def G rb frf dr kp fs2 br fs fw n lt nf fi f1 f2 f3 fl
  refine lv_aload_n hx hb dX11_pass_0 rfl (lv_at hl 0 rfl) ?_
  refine va_get (ci := 11) (v := .ref h0) (C := RX11) (T := TX11) (N := 17) hx hb hts hw11 hown hK hP 0 rfl rfl 9 (by decide +kernel) (hts _ mm_X11_pass_343) (fun _ h9 => h9) rfl dX11_pass_1 ?_
  refine lv_aload_n hx hb dX11_pass_4 rfl (lv_at hl 0 rfl) ?_
  refine va_get (ci := 11) (v := .ref t0) (C := RX11) (T := TX11) (N := 17) hx hb hts hw11 hown hK hP 0 rfl rfl 0 (by decide +kernel) (hts _ mm_X11_pass_334) (fun _ h9 => h9) rfl dX11_pass_5 ?_
  refine kcv (S := Su) (wr := [(o0, .inr (11, [.ref t0, o_1, o_2, o_3, o_4, o_5, o_6, .ref r0, o_8, .ref h0, o_10, o_11, .ref rf, .int rb, o_14, o_15, o_16])), (rf, .inl (K 0, 5, .inl frf)), (r0, .inr (10, [.ref a0])), (a0, .inr (0, [.ref m0, .ref w0])), (m0, .inr (3, [.ref m1, .int br])), (m1, .inl (K 0, 64, .inl fs)), (w0, .inl (K 0, 9, .inl fw)), (t3, .inl (K 0, 24, .inl f3)), (l0, .inl (K 4, 6, .inr (.inr (.inr (.inr fl)))))]) (va_runVN (As := [.ref t0]) (rest := []) ⟨hx, hb, hml, hown, hts⟩ (w_draft l D K h0 t0 h1 dr (.int kp) fs2 t1 (.ref t3) t2 (.ref l0) (.int n) (.int lt) (.int nf) fi k_8 k_9 f1 f2 s.heap.size (by first | omega | decide)) ⟨va_cnB 1 hts gX11_pass_X2_draft_n221 rfl rfl rfl (nst_at hN 69 rfl) (hts _ mm_X11_pass_153) (by decide +kernel) ⟨Nat.le_of_ble_eq_true rfl, Nat.le_of_ble_eq_true rfl⟩, (hts _ mm_X11_pass_593), (hts _ mm_X11_pass_41)⟩ (mkV hK hN (hP.sub [2, 3, 9, 10, 11] rfl) (hD.sub [2, 3, 9, 10, 11] (by decide +kernel) rfl) (ci := 2) (q0 := 0) rfl rfl) rfl rfl hl.1 rfl (lv_room (Nat.le_of_ble_eq_true rfl)) dX11_pass_8 ⟨Nat.le_of_ble_eq_true rfl, Nat.le_of_ble_eq_true rfl⟩) hP hD hS hA [2, 3, 9, 10, 11] [0, 1, 4, 5, 6, 7, 8, 12, 13] rfl rfl (by decide +kernel) (by decide +kernel) (fun u_92 H locs hw hP0 hD0 hS0 => ?_)
  clear hP hD hS
  have hP := hP0
  have hD := hD0
  have hS := hS0
  clear hP0 hD0 hS0
  replace hP : va_P D vwCl [(o0, .inr (11, [.ref t0, o_1, o_2, o_3, o_4, o_5, o_6, .ref r0, o_8, .ref h0, o_10, o_11, .ref rf, .int rb, o_14, o_15, o_16])), (rf, .inl (K 0, 5, .inl frf)), (r0, .inr (10, [.ref a0])), (a0, .inr (0, [.ref m0, .ref w0])), (m0, .inr (3, [.ref m1, .int br])), (m1, .inl (K 0, 64, .inl fs)), (w0, .inl (K 0, 9, .inl fw)), (t3, .inl (K 0, 24, .inl f3)), (l0, .inl (K 4, 6, .inr (.inr (.inr (.inr fl))))), (h0, .inr (2, [.ref h1, .int dr, .int kp])), (h1, .inl (K 0, 476, .inl (u_92.2.1 0))), (t0, .inr (9, [.ref t1, .ref t3, .ref t2, .ref l0, .int n, .int lt, .int nf, .int fi, k_8, k_9])), (t1, .inl (K 0, 56, .inl f1)), (t2, .inl (K 0, 6, .inl f2))] H := hP
  replace hD : va_D A [(o0, .inr (11, [.ref t0, o_1, o_2, o_3, o_4, o_5, o_6, .ref r0, o_8, .ref h0, o_10, o_11, .ref rf, .int rb, o_14, o_15, o_16])), (rf, .inl (K 0, 5, .inl frf)), (r0, .inr (10, [.ref a0])), (a0, .inr (0, [.ref m0, .ref w0])), (m0, .inr (3, [.ref m1, .int br])), (m1, .inl (K 0, 64, .inl fs)), (w0, .inl (K 0, 9, .inl fw)), (t3, .inl (K 0, 24, .inl f3)), (l0, .inl (K 4, 6, .inr (.inr (.inr (.inr fl))))), (h0, .inr (2, [.ref h1, .int dr, .int kp])), (h1, .inl (K 0, 476, .inl (u_92.2.1 0))), (t0, .inr (9, [.ref t1, .ref t3, .ref t2, .ref l0, .int n, .int lt, .int nf, .int fi, k_8, k_9])), (t1, .inl (K 0, 56, .inl f1)), (t2, .inl (K 0, 6, .inl f2))] := hD
  obtain ⟨k_93, -⟩ := hw
  replace hE := hE.trans (Lt_in k_93)
  refine lv_aload_n hx hb dX11_pass_11 rfl (lv_at hl 0 rfl) ?_
  refine lv_iconst (v := 3) hx hb dX11_pass_12 (by decide +kernel) ?_
  refine lv_aload_n hx hb dX11_pass_13 rfl (lv_at hl 0 rfl) ?_
  refine va_get (ci := 11) (v := .ref r0) (C := RX11) (T := TX11) (N := 17) hx hb hts hw11 hown hK hP 0 rfl rfl 7 (by decide +kernel) (hts _ mm_X11_pass_341) (fun _ h9 => h9) rfl dX11_pass_14 ?_
  refine lv_aload_n hx hb dX11_pass_17 rfl (lv_at hl 0 rfl) ?_
  refine va_get (ci := 11) (v := .ref t0) (C := RX11) (T := TX11) (N := 17) hx hb hts hw11 hown hK hP 0 rfl rfl 0 (by decide +kernel) (hts _ mm_X11_pass_334) (fun _ h9 => h9) rfl dX11_pass_18 ?_
  refine kci (S := Su) (wr := [(o0, .inr (11, [.ref t0, o_1, o_2, o_3, o_4, o_5, o_6, .ref r0, o_8, .ref h0, o_10, o_11, .ref rf, .int rb, o_14, o_15, o_16])), (rf, .inl (K 0, 5, .inl frf)), (h0, .inr (2, [.ref h1, .int dr, .int kp])), (h1, .inl (K 0, 476, .inl (u_92.2.1 0)))]) (va_runVN (As := [.ref t0]) (rest := [.int 3, .ref o0]) ⟨hx, hb, hml, hown, hts⟩ (w_nextHour l D K g L G r0 t0 a0 m0 w0 m1 br fs fw t1 t3 t2 l0 n lt nf fi k_8 k_9 f1 gt f2 f3 gc fl H.size (by first | omega | decide) (by first | omega | decide) (by first | omega | decide) zgt zgc zfl) ⟨va_cnB 1 hts gX11_pass_X10_nextHour_n239 rfl rfl rfl (nst_at hN 74 rfl) (hts _ mm_X11_pass_150) (by decide +kernel) ⟨Nat.le_of_ble_eq_true rfl, Nat.le_of_ble_eq_true rfl⟩, (hts _ mm_X11_pass_606), (hts _ mm_X11_pass_45)⟩ (mkVY hK hN (hP.sub [2, 3, 4, 5, 6, 11, 12, 13, 7, 8] rfl) (hD.sub [2, 3, 4, 5, 6, 11, 12, 13, 7, 8] (by decide +kernel) rfl) (ci := 10) (q0 := 0) rfl rfl (fun U hU hW => ⟨Gl.at hG hS hW hU (fun q h => va_free hD hS hA [2, 3, 4, 5, 6, 11, 12, 13, 7, 8] rfl q h), Pool.at hPl hS hU (fun q h => va_free hD hS hA [2, 3, 4, 5, 6, 11, 12, 13, 7, 8] rfl q h), Ro.heap hU (Ro.nil)⟩)) rfl rfl hl.1 rfl (lv_room (Nat.le_of_ble_eq_true rfl)) dX11_pass_21 ⟨Nat.le_of_ble_eq_true rfl, Nat.le_of_ble_eq_true rfl⟩) hP hD hS hA [2, 3, 4, 5, 6, 11, 12, 13, 7, 8] [0, 1, 9, 10] rfl rfl (by decide +kernel) (by decide +kernel) (fun r_94 u_95 H locs hw hP0 hD0 hS0 => ?_)
  clear hP hD hS
  have hP := hP0
  have hD := hD0
  have hS := hS0
  clear hP0 hD0 hS0
  replace hP : va_P D vwCl [(o0, .inr (11, [.ref t0, o_1, o_2, o_3, o_4, o_5, o_6, .ref r0, o_8, .ref h0, o_10, o_11, .ref rf, .int rb, o_14, o_15, o_16])), (rf, .inl (K 0, 5, .inl frf)), (h0, .inr (2, [.ref h1, .int dr, .int kp])), (h1, .inl (K 0, 476, .inl (u_92.2.1 0))), (r0, .inr (10, [.ref a0])), (a0, .inr (0, [.ref m0, .ref w0])), (m0, .inr (3, [.ref m1, .int (u_95.2.2.2.1 0)])), (m1, .inl (K 0, 64, .inl (u_95.2.1 0))), (w0, .inl (K 0, 9, .inl (u_95.2.1 1))), (t0, .inr (9, [.ref t1, .ref t3, .ref t2, .ref l0, .int n, .int lt, .int nf, .int (u_95.2.2.2.1 1), k_8, k_9])), (t1, .inl (K 0, 56, .inl (u_95.2.1 2))), (t2, .inl (K 0, 6, .inl (u_95.2.1 3))), (t3, .inl (K 0, 24, .inl f3)), (l0, .inl (K 4, 6, .inr (.inr (.inr (.inr fl)))))] H := hP
  replace hD : va_D A [(o0, .inr (11, [.ref t0, o_1, o_2, o_3, o_4, o_5, o_6, .ref r0, o_8, .ref h0, o_10, o_11, .ref rf, .int rb, o_14, o_15, o_16])), (rf, .inl (K 0, 5, .inl frf)), (h0, .inr (2, [.ref h1, .int dr, .int kp])), (h1, .inl (K 0, 476, .inl (u_92.2.1 0))), (r0, .inr (10, [.ref a0])), (a0, .inr (0, [.ref m0, .ref w0])), (m0, .inr (3, [.ref m1, .int (u_95.2.2.2.1 0)])), (m1, .inl (K 0, 64, .inl (u_95.2.1 0))), (w0, .inl (K 0, 9, .inl (u_95.2.1 1))), (t0, .inr (9, [.ref t1, .ref t3, .ref t2, .ref l0, .int n, .int lt, .int nf, .int (u_95.2.2.2.1 1), k_8, k_9])), (t1, .inl (K 0, 56, .inl (u_95.2.1 2))), (t2, .inl (K 0, 6, .inl (u_95.2.1 3))), (t3, .inl (K 0, 24, .inl f3)), (l0, .inl (K 4, 6, .inr (.inr (.inr (.inr fl)))))] := hD
  obtain ⟨h_99, k_96, k_97, k_98, -⟩ := hw
  replace hE := (((((hE.trans (Lt2_in k_98)).trans (Lt2_in rfl)).trans (Lt2_in rfl)).trans (Lt2_in rfl)).trans (Lt2_in rfl)).trans (Lt2_in rfl)
  refine kci (S := Su) (wr := [(r0, .inr (10, [.ref a0])), (a0, .inr (0, [.ref m0, .ref w0])), (m0, .inr (3, [.ref m1, .int (u_95.2.2.2.1 0)])), (m1, .inl (K 0, 64, .inl (u_95.2.1 0))), (w0, .inl (K 0, 9, .inl (u_95.2.1 1))), (t0, .inr (9, [.ref t1, .ref t3, .ref t2, .ref l0, .int n, .int lt, .int nf, .int (u_95.2.2.2.1 1), k_8, k_9])), (t1, .inl (K 0, 56, .inl (u_95.2.1 2))), (t2, .inl (K 0, 6, .inl (u_95.2.1 3))), (t3, .inl (K 0, 24, .inl f3)), (l0, .inl (K 4, 6, .inr (.inr (.inr (.inr fl)))))]) (va_runV (As := [.int 3, .int r_94]) (rest := []) ⟨hx, hb, hml, hown, hts⟩ (w_settle l D K o0 3 r_94 (.ref t0) o_1 o_2 o_3 o_4 o_5 o_6 (.ref r0) o_8 h0 o_10 o_11 rf rb o_14 o_15 o_16 frf h1 dr kp (u_92.2.1 0) H.size (by first | omega | decide) (by first | omega | decide)) (cwV 2 hts gX11_pass_X11_settle rfl rfl rfl (by decide +kernel) ⟨Nat.le_of_ble_eq_true rfl, Nat.le_of_ble_eq_true rfl⟩) (mkV hK hN (hP.sub [0, 1, 2, 3] rfl) (hD.sub [0, 1, 2, 3] (by decide +kernel) rfl) (ci := 11) (q0 := 0) rfl rfl) rfl rfl hl.1 rfl (lv_room (Nat.le_of_ble_eq_true rfl)) dX11_pass_24 ⟨Nat.le_of_ble_eq_true rfl, Nat.le_of_ble_eq_true rfl⟩) hP hD hS hA [0, 1, 2, 3] [4, 5, 6, 7, 8, 9, 10, 11, 12, 13] rfl rfl (by decide +kernel) (by decide +kernel) (fun r_100 u_101 H locs hw hP0 hD0 hS0 => ?_)
  clear hP hD hS
  have hP := hP0
  have hD := hD0
  have hS := hS0
  clear hP0 hD0 hS0
  replace hP : va_P D vwCl [(r0, .inr (10, [.ref a0])), (a0, .inr (0, [.ref m0, .ref w0])), (m0, .inr (3, [.ref m1, .int (u_95.2.2.2.1 0)])), (m1, .inl (K 0, 64, .inl (u_95.2.1 0))), (w0, .inl (K 0, 9, .inl (u_95.2.1 1))), (t0, .inr (9, [.ref t1, .ref t3, .ref t2, .ref l0, .int n, .int lt, .int nf, .int (u_95.2.2.2.1 1), k_8, k_9])), (t1, .inl (K 0, 56, .inl (u_95.2.1 2))), (t2, .inl (K 0, 6, .inl (u_95.2.1 3))), (t3, .inl (K 0, 24, .inl f3)), (l0, .inl (K 4, 6, .inr (.inr (.inr (.inr fl))))), (o0, .inr (11, [.ref t0, o_1, o_2, o_3, o_4, o_5, o_6, .ref r0, o_8, .ref h0, o_10, o_11, .ref rf, .int (u_101.2.2.2.1 0), o_14, o_15, o_16])), (rf, .inl (K 0, 5, .inl (u_101.2.1 0))), (h0, .inr (2, [.ref h1, .int (u_101.2.2.2.1 1), .int (u_101.2.2.2.1 2)])), (h1, .inl (K 0, 476, .inl (u_101.2.1 1)))] H := hP
  replace hD : va_D A [(r0, .inr (10, [.ref a0])), (a0, .inr (0, [.ref m0, .ref w0])), (m0, .inr (3, [.ref m1, .int (u_95.2.2.2.1 0)])), (m1, .inl (K 0, 64, .inl (u_95.2.1 0))), (w0, .inl (K 0, 9, .inl (u_95.2.1 1))), (t0, .inr (9, [.ref t1, .ref t3, .ref t2, .ref l0, .int n, .int lt, .int nf, .int (u_95.2.2.2.1 1), k_8, k_9])), (t1, .inl (K 0, 56, .inl (u_95.2.1 2))), (t2, .inl (K 0, 6, .inl (u_95.2.1 3))), (t3, .inl (K 0, 24, .inl f3)), (l0, .inl (K 4, 6, .inr (.inr (.inr (.inr fl))))), (o0, .inr (11, [.ref t0, o_1, o_2, o_3, o_4, o_5, o_6, .ref r0, o_8, .ref h0, o_10, o_11, .ref rf, .int (u_101.2.2.2.1 0), o_14, o_15, o_16])), (rf, .inl (K 0, 5, .inl (u_101.2.1 0))), (h0, .inr (2, [.ref h1, .int (u_101.2.2.2.1 1), .int (u_101.2.2.2.1 2)])), (h1, .inl (K 0, 476, .inl (u_101.2.1 1)))] := hD
  obtain ⟨k_102, k_103, k_104, k_105, -⟩ := hw
  replace hE := ((((hE.trans (Lt2_in k_105)).trans (Lt2_in rfl)).trans (Lt2_in rfl)).trans (Lt2_in rfl)).trans (Lt2_in rfl)
  rw [← hQ]
  have hP9 := hP.sub (ws' := [(o0, .inr (11, [.ref t0, o_1, o_2, o_3, o_4, o_5, o_6, .ref r0, o_8, .ref h0, o_10, o_11, .ref rf, .int (u_101.2.2.2.1 0), o_14, o_15, o_16])), (rf, .inl (K 0, 5, .inl (u_101.2.1 0))), (h0, .inr (2, [.ref h1, .int (u_101.2.2.2.1 1), .int (u_101.2.2.2.1 2)])), (h1, .inl (K 0, 476, .inl (u_101.2.1 1))), (r0, .inr (10, [.ref a0])), (a0, .inr (0, [.ref m0, .ref w0])), (m0, .inr (3, [.ref m1, .int (u_95.2.2.2.1 0)])), (m1, .inl (K 0, 64, .inl (u_95.2.1 0))), (w0, .inl (K 0, 9, .inl (u_95.2.1 1))), (t0, .inr (9, [.ref t1, .ref t3, .ref t2, .ref l0, .int n, .int lt, .int nf, .int (u_95.2.2.2.1 1), k_8, k_9])), (t1, .inl (K 0, 56, .inl (u_95.2.1 2))), (t2, .inl (K 0, 6, .inl (u_95.2.1 3))), (t3, .inl (K 0, 24, .inl f3)), (l0, .inl (K 4, 6, .inr (.inr (.inr (.inr fl)))))]) [10, 11, 12, 13, 0, 1, 2, 3, 4, 5, 6, 7, 8, 9] rfl
  have hD9 := hD.sub (ws' := [(o0, .inr (11, [.ref t0, o_1, o_2, o_3, o_4, o_5, o_6, .ref r0, o_8, .ref h0, o_10, o_11, .ref rf, .int (u_101.2.2.2.1 0), o_14, o_15, o_16])), (rf, .inl (K 0, 5, .inl (u_101.2.1 0))), (h0, .inr (2, [.ref h1, .int (u_101.2.2.2.1 1), .int (u_101.2.2.2.1 2)])), (h1, .inl (K 0, 476, .inl (u_101.2.1 1))), (r0, .inr (10, [.ref a0])), (a0, .inr (0, [.ref m0, .ref w0])), (m0, .inr (3, [.ref m1, .int (u_95.2.2.2.1 0)])), (m1, .inl (K 0, 64, .inl (u_95.2.1 0))), (w0, .inl (K 0, 9, .inl (u_95.2.1 1))), (t0, .inr (9, [.ref t1, .ref t3, .ref t2, .ref l0, .int n, .int lt, .int nf, .int (u_95.2.2.2.1 1), k_8, k_9])), (t1, .inl (K 0, 56, .inl (u_95.2.1 2))), (t2, .inl (K 0, 6, .inl (u_95.2.1 3))), (t3, .inl (K 0, 24, .inl f3)), (l0, .inl (K 4, 6, .inr (.inr (.inr (.inr fl)))))]) [10, 11, 12, 13, 0, 1, 2, 3, 4, 5, 6, 7, 8, 9] (by decide +kernel) rfl
  exact W.iret (v := r_100) hx hb hr (fun t ht hW => ⟨⟨r_100, ((fun _ => 0, fun i => match i with | 0 => (u_101.2.1 0) | 1 => (u_101.2.1 1) | 2 => (u_95.2.1 0) | 3 => (u_95.2.1 1) | 4 => (u_95.2.1 2) | _ => (u_95.2.1 3), fun _ => fun _ => 0, fun i => match i with | 0 => (u_101.2.2.2.1 0) | 1 => (u_101.2.2.2.1 1) | 2 => (u_101.2.2.2.1 2) | 3 => (u_95.2.2.2.1 0) | _ => (u_95.2.2.2.1 1), fun _ => 0, fun _ => fun _ => none) : Su), rfl, ⟨(show ((u_101.2.2.2.1 0) : Int32).toInt ≤ 0 by omega), (show 0 ≤ ((u_101.2.2.2.1 1) : Int32).toInt ∧ ((u_101.2.2.2.1 1) : Int32).toInt ≤ 16 by omega), (show 0 ≤ ((u_101.2.2.2.1 2) : Int32).toInt ∧ ((u_101.2.2.2.1 2) : Int32).toInt ≤ 16 by omega), (show 0 ≤ ((u_95.2.2.2.1 0) : Int32).toInt ∧ ((u_95.2.2.2.1 0) : Int32).toInt ≤ 1 by omega), k_97, hE.symm, trivial⟩, (⟨by rw [ht]; exact hP9, hD9⟩ : Wd D A _ t)⟩, hS.F ht⟩) hS.2.2 dX11_pass_27
set_option maxRecDepth 100000 in
noncomputable def E_w_undo (rb : Int32) (frf : Nat → Int32) (dr : Int32) (kp : Int32) (fs2 : Nat → Int32) (n : Int32) (lt : Int32) (nf : Int32) (fi : Int32) (f1 : Nat → Int32) (f2 : Nat → Int32) : Int32 × Int32 × (Nat → Int32) × Int32 × Int32 × Int32 × (Nat → Int32) × (Nat → Int32) :=
  Lt2 (E_w_takeBack dr kp fs2 fi f1 f2) (fun r_87 q0_r_87 => Lt2 q0_r_87 (fun u_88_2_2_2_1_0 q1_u_88_2_2_2_1_0 => Lt2 q1_u_88_2_2_2_1_0 (fun u_88_2_2_2_1_1 q2_u_88_2_2_2_1_1 => Lt2 q2_u_88_2_2_2_1_1 (fun u_88_2_2_2_1_2 q3_u_88_2_2_2_1_2 => Lt2 q3_u_88_2_2_2_1_2 (fun u_88_2_1_0 u_88_2_1_1 => if r_87 = (-1) then (Lt2 (E_w_refuse (-3) rb frf) (fun r_97 u_98_2_1_0 => ((r_97, (-3), u_98_2_1_0, u_88_2_2_2_1_0, u_88_2_2_2_1_1, u_88_2_2_2_1_2, u_88_2_1_0, u_88_2_1_1) : Int32 × Int32 × (Nat → Int32) × Int32 × Int32 × Int32 × (Nat → Int32) × (Nat → Int32)))) else (Lt (E_w_accept r_87 rb) (fun r_94 => ((r_94, 0, frf, u_88_2_2_2_1_0, u_88_2_2_2_1_1, u_88_2_2_2_1_2, u_88_2_1_0, u_88_2_1_1) : Int32 × Int32 × (Nat → Int32) × Int32 × Int32 × Int32 × (Nat → Int32) × (Nat → Int32)))))))))
set_option maxHeartbeats 4000000 in
set_option maxRecDepth 100000 in
theorem w_undo (l : Launch) (D : va_G) (K : Nat → ClassId) (o0 : Nat) (t0 : Nat) (o_1 : Value) (o_2 : Value) (o_3 : Value) (o_4 : Value) (o_5 : Value) (o_6 : Value) (o_7 : Value) (o_8 : Value) (h0 : Nat) (o_10 : Value) (o_11 : Value) (rf : Nat) (rb : Int32) (o_14 : Value) (o_15 : Value) (o_16 : Value) (frf : Nat → Int32) (h1 : Nat) (dr : Int32) (kp : Int32) (fs2 : Nat → Int32) (t1 : Nat) (t3 : Nat) (t2 : Nat) (l0 : Nat) (n : Int32) (lt : Int32) (nf : Int32) (fi : Int32) (k_8 : Value) (k_9 : Value) (f1 : Nat → Int32) (gt : Nat → Int32) (f2 : Nat → Int32) (sz : Nat) (zdr : 0 ≤ dr.toInt ∧ dr.toInt ≤ 16) (zkp : 0 ≤ kp.toInt ∧ kp.toInt ≤ 16) (zgt : FzC gt f1) : Met l yX11_undo wsX11_undo ({ frames := 2, cells := 0, slots := 0, locals := 63 }) (va_Pc [.ref o0] (Pre D K [(o0, .inr (11, [.ref t0, o_1, o_2, o_3, o_4, o_5, o_6, o_7, o_8, .ref h0, o_10, o_11, .ref rf, .int rb, o_14, o_15, o_16])), (rf, .inl (K 0, 5, .inl frf)), (h0, .inr (2, [.ref h1, .int dr, .int kp])), (h1, .inl (K 0, 476, .inl fs2)), (t0, .inr (9, [.ref t1, .ref t3, .ref t2, .ref l0, .int n, .int lt, .int nf, .int fi, k_8, k_9])), (t1, .inl (K 0, 56, .inl f1)), (t2, .inl (K 0, 6, .inl f2))] sz)) (va_Qi (S := Su) (fun (r : Int32) (u : Su) => ((-3) ≤ (u.2.2.2.1 0).toInt ∧ (u.2.2.2.1 0).toInt ≤ 0) ∧ (0 ≤ (u.2.2.2.1 1).toInt ∧ (u.2.2.2.1 1).toInt ≤ 16) ∧ (0 ≤ (u.2.2.2.1 2).toInt ∧ (u.2.2.2.1 2).toInt ≤ 15) ∧ (FzC gt (u.2.1 1)) ∧ ((r, (u.2.2.2.1 0), (u.2.1 0), (u.2.2.2.1 1), (u.2.2.2.1 2), (u.2.2.2.1 3), (u.2.1 1), (u.2.1 2)) = E_w_undo rb frf dr kp fs2 n lt nf fi f1 f2) ∧ True) (fun u t => Wd D (va_A [(o0, .inr (11, [.ref t0, o_1, o_2, o_3, o_4, o_5, o_6, o_7, o_8, .ref h0, o_10, o_11, .ref rf, .int rb, o_14, o_15, o_16])), (rf, .inl (K 0, 5, .inl frf)), (h0, .inr (2, [.ref h1, .int dr, .int kp])), (h1, .inl (K 0, 476, .inl fs2)), (t0, .inr (9, [.ref t1, .ref t3, .ref t2, .ref l0, .int n, .int lt, .int nf, .int fi, k_8, k_9])), (t1, .inl (K 0, 56, .inl f1)), (t2, .inl (K 0, 6, .inl f2))] sz) ((fun u => [(o0, .inr (11, [.ref t0, o_1, o_2, o_3, o_4, o_5, o_6, o_7, o_8, .ref h0, o_10, o_11, .ref rf, .int (u.2.2.2.1 0), o_14, o_15, o_16])), (rf, .inl (K 0, 5, .inl (u.2.1 0))), (h0, .inr (2, [.ref h1, .int (u.2.2.2.1 1), .int (u.2.2.2.1 2)])), (h1, .inl (K 0, 476, .inl fs2)), (t0, .inr (9, [.ref t1, .ref t3, .ref t2, .ref l0, .int n, .int lt, .int nf, .int (u.2.2.2.1 3), k_8, k_9])), (t1, .inl (K 0, 56, .inl (u.2.1 1))), (t2, .inl (K 0, 6, .inl (u.2.1 2)))]) u) t) (va_A [(o0, .inr (11, [.ref t0, o_1, o_2, o_3, o_4, o_5, o_6, o_7, o_8, .ref h0, o_10, o_11, .ref rf, .int rb, o_14, o_15, o_16])), (rf, .inl (K 0, 5, .inl frf)), (h0, .inr (2, [.ref h1, .int dr, .int kp])), (h1, .inl (K 0, 476, .inl fs2)), (t0, .inr (9, [.ref t1, .ref t3, .ref t2, .ref l0, .int n, .int lt, .int nf, .int fi, k_8, k_9])), (t1, .inl (K 0, 56, .inl f1)), (t2, .inl (K 0, 6, .inl f2))] sz)) 0 0 (va_A [(o0, .inr (11, [.ref t0, o_1, o_2, o_3, o_4, o_5, o_6, o_7, o_8, .ref h0, o_10, o_11, .ref rf, .int rb, o_14, o_15, o_16])), (rf, .inl (K 0, 5, .inl frf)), (h0, .inr (2, [.ref h1, .int dr, .int kp])), (h1, .inl (K 0, 476, .inl fs2)), (t0, .inr (9, [.ref t1, .ref t3, .ref t2, .ref l0, .int n, .int lt, .int nf, .int fi, k_8, k_9])), (t1, .inl (K 0, 56, .inl f1)), (t2, .inl (K 0, 6, .inl f2))] sz) := by
  refine Met.ofW (cc := cX11_undo) (maxL := 2) (ret := (some .int)) (by decide +kernel) rfl ?_
  intro p e s m args below meth c s₁ B hml hv
  obtain ⟨rfl, hsz, hP, hK, hD0, hN⟩ := hv
  have hx := B.exec
  have hb := B.bytes
  have hr := B.returns
  have hts := atoms_spec (ws := wsX11_undo) B.pre
  have hown : s.vm.findClass RX11 = some m.cls := findClass_of_methodNamed B.named
  have hlocks := B.notSynchronized
  subst hsz
  have hD := hD0.self (sz := s.heap.size)
  generalize hAe : va_A [(o0, .inr (11, [.ref t0, o_1, o_2, o_3, o_4, o_5, o_6, o_7, o_8, .ref h0, o_10, o_11, .ref rf, .int rb, o_14, o_15, o_16])), (rf, .inl (K 0, 5, .inl frf)), (h0, .inr (2, [.ref h1, .int dr, .int kp])), (h1, .inl (K 0, 476, .inl fs2)), (t0, .inr (9, [.ref t1, .ref t3, .ref t2, .ref l0, .int n, .int lt, .int nf, .int fi, k_8, k_9])), (t1, .inl (K 0, 56, .inl f1)), (t2, .inl (K 0, 6, .inl f2))] s.heap.size = A at hD ⊢
  have hA : ∀ q : Nat, s.heap.size ≤ q → A q := fun q h => by rw [← hAe]; exact Or.inr h
  clear hAe
  have hS : va_S A s.heap s.heap [] := va_S.rf
  replace hP : va_P D vwCl [(o0, .inr (11, [.ref t0, o_1, o_2, o_3, o_4, o_5, o_6, o_7, o_8, .ref h0, o_10, o_11, .ref rf, .int rb, o_14, o_15, o_16])), (rf, .inl (K 0, 5, .inl frf)), (h0, .inr (2, [.ref h1, .int dr, .int kp])), (h1, .inl (K 0, 476, .inl fs2)), (t0, .inr (9, [.ref t1, .ref t3, .ref t2, .ref l0, .int n, .int lt, .int nf, .int fi, k_8, k_9])), (t1, .inl (K 0, 56, .inl f1)), (t2, .inl (K 0, 6, .inl f2))] s.heap := hP
  have hl := lv_entry [.ref o0] (n := 2) (Nat.le_of_ble_eq_true rfl)
  rw [lg_entry_eq]
  generalize (lg_sl [.ref o0] ++ List.replicate (2 - (lg_sl [.ref o0]).length) Slot.unset).toArray = ls at hl ⊢
  have hl : lv_has ls 2 [(0, .ref o0)] := hl
  have hw2 : ∀ w ∈ wsX20, w ∈ wsX11_undo := fun w h => (List.mem_cons_of_mem _ (List.mem_append_left _ (List.mem_append_right _ h)))
  have hw9 : ∀ w ∈ wsX90, w ∈ wsX11_undo := fun w h => (List.mem_cons_of_mem _ (List.mem_append_right _ h))
  have hw11 : ∀ w ∈ wsX110, w ∈ wsX11_undo := fun w h => (List.mem_cons_of_mem _ (List.mem_append_left _ (List.mem_append_left _ (List.mem_append_right _ h))))
  generalize hQ : MQ below _ _ s _ _ _ = Q
  have hE := E_w_undo.eq_def rb frf dr kp fs2 n lt nf fi f1 f2
  refine lv_aload_n hx hb dX11_undo_0 rfl (lv_at hl 0 rfl) ?_
  refine va_get (ci := 11) (v := .ref h0) (C := RX11) (T := TX11) (N := 17) hx hb hts hw11 hown hK hP 0 rfl rfl 9 (by decide +kernel) (hts _ mm_X11_undo_343) (fun _ h9 => h9) rfl dX11_undo_1 ?_
  refine lv_aload_n hx hb dX11_undo_4 rfl (lv_at hl 0 rfl) ?_
  refine va_get (ci := 11) (v := .ref t0) (C := RX11) (T := TX11) (N := 17) hx hb hts hw11 hown hK hP 0 rfl rfl 0 (by decide +kernel) (hts _ mm_X11_undo_334) (fun _ h9 => h9) rfl dX11_undo_5 ?_
  refine kci (S := Su) (wr := [(o0, .inr (11, [.ref t0, o_1, o_2, o_3, o_4, o_5, o_6, o_7, o_8, .ref h0, o_10, o_11, .ref rf, .int rb, o_14, o_15, o_16])), (rf, .inl (K 0, 5, .inl frf))]) (va_runVN (As := [.ref t0]) (rest := []) ⟨hx, hb, hml, hown, hts⟩ (w_takeBack l D K h0 t0 h1 dr kp fs2 t1 (.ref t3) t2 (.ref l0) (.int n) (.int lt) (.int nf) fi k_8 k_9 f1 gt f2 s.heap.size (by first | omega | decide) (by first | omega | decide) zgt) ⟨va_cnB 1 hts gX11_undo_X2_takeBack_n242 rfl rfl rfl (nst_at hN 75 rfl) (hts _ mm_X11_undo_153) (by decide +kernel) ⟨Nat.le_of_ble_eq_true rfl, Nat.le_of_ble_eq_true rfl⟩, (hts _ mm_X11_undo_677), (hts _ mm_X11_undo_55)⟩ (mkV hK hN (hP.sub [2, 3, 4, 5, 6] rfl) (hD.sub [2, 3, 4, 5, 6] (by decide +kernel) rfl) (ci := 2) (q0 := 0) rfl rfl) rfl rfl hl.1 rfl (lv_room (Nat.le_of_ble_eq_true rfl)) dX11_undo_8 ⟨Nat.le_of_ble_eq_true rfl, Nat.le_of_ble_eq_true rfl⟩) hP hD hS hA [2, 3, 4, 5, 6] [0, 1] rfl rfl (by decide +kernel) (by decide +kernel) (fun r_87 u_88 H locs hw hP0 hD0 hS0 => ?_)
  clear hP hD hS
  have hP := hP0
  have hD := hD0
  have hS := hS0
  clear hP0 hD0 hS0
  replace hP : va_P D vwCl [(o0, .inr (11, [.ref t0, o_1, o_2, o_3, o_4, o_5, o_6, o_7, o_8, .ref h0, o_10, o_11, .ref rf, .int rb, o_14, o_15, o_16])), (rf, .inl (K 0, 5, .inl frf)), (h0, .inr (2, [.ref h1, .int (u_88.2.2.2.1 0), .int (u_88.2.2.2.1 1)])), (h1, .inl (K 0, 476, .inl fs2)), (t0, .inr (9, [.ref t1, .ref t3, .ref t2, .ref l0, .int n, .int lt, .int nf, .int (u_88.2.2.2.1 2), k_8, k_9])), (t1, .inl (K 0, 56, .inl (u_88.2.1 0))), (t2, .inl (K 0, 6, .inl (u_88.2.1 1)))] H := hP
  replace hD : va_D A [(o0, .inr (11, [.ref t0, o_1, o_2, o_3, o_4, o_5, o_6, o_7, o_8, .ref h0, o_10, o_11, .ref rf, .int rb, o_14, o_15, o_16])), (rf, .inl (K 0, 5, .inl frf)), (h0, .inr (2, [.ref h1, .int (u_88.2.2.2.1 0), .int (u_88.2.2.2.1 1)])), (h1, .inl (K 0, 476, .inl fs2)), (t0, .inr (9, [.ref t1, .ref t3, .ref t2, .ref l0, .int n, .int lt, .int nf, .int (u_88.2.2.2.1 2), k_8, k_9])), (t1, .inl (K 0, 56, .inl (u_88.2.1 0))), (t2, .inl (K 0, 6, .inl (u_88.2.1 1)))] := hD
  obtain ⟨k_89, k_90, k_91, k_92, -⟩ := hw
  replace hE := ((((hE.trans (Lt2_in k_92)).trans (Lt2_in rfl)).trans (Lt2_in rfl)).trans (Lt2_in rfl)).trans (Lt2_in rfl)
  refine lv_istore_n (lv' := [(1, .int r_87), (0, .ref o0)]) hx hb dX11_undo_11 rfl hl (by decide +kernel) rfl (fun ls hl => ?_)
  refine lv_iload_n hx hb dX11_undo_12 rfl (lv_at hl 0 rfl) ?_
  refine lv_iconst (v := (-1)) hx hb dX11_undo_13 (by decide +kernel) ?_
  refine lv_icmp_ne (tgt := 26) hx hb dX11_undo_14 (by decide +kernel) (fun c_93 => ?_) (fun c_93 => ?_)
  · have c_93i := i_ne (x := r_87.toInt) (y := (-1)) rfl rfl c_93
    replace hE := hE.trans (if_neg c_93)
    refine lv_aload_n hx hb dX11_undo_26 rfl (lv_at hl 1 rfl) ?_
    refine lv_iload_n hx hb dX11_undo_27 rfl (lv_at hl 0 rfl) ?_
    refine kci (S := Su) (wr := [(rf, .inl (K 0, 5, .inl frf)), (h0, .inr (2, [.ref h1, .int (u_88.2.2.2.1 0), .int (u_88.2.2.2.1 1)])), (h1, .inl (K 0, 476, .inl fs2)), (t0, .inr (9, [.ref t1, .ref t3, .ref t2, .ref l0, .int n, .int lt, .int nf, .int (u_88.2.2.2.1 2), k_8, k_9])), (t1, .inl (K 0, 56, .inl (u_88.2.1 0))), (t2, .inl (K 0, 6, .inl (u_88.2.1 1)))]) (va_runV (As := [.int r_87]) (rest := []) ⟨hx, hb, hml, hown, hts⟩ (w_accept l D K o0 r_87 (.ref t0) o_1 o_2 o_3 o_4 o_5 o_6 o_7 o_8 (.ref h0) o_10 o_11 (.ref rf) rb o_14 o_15 o_16 H.size) (cwV 1 hts gX11_undo_X11_accept rfl rfl rfl (by decide +kernel) ⟨Nat.le_of_ble_eq_true rfl, Nat.le_of_ble_eq_true rfl⟩) (mkV hK hN (hP.sub [0] rfl) (hD.sub [0] (by decide +kernel) rfl) (ci := 11) (q0 := 0) rfl rfl) rfl rfl hl.1 rfl (lv_room (Nat.le_of_ble_eq_true rfl)) dX11_undo_28 ⟨Nat.le_of_ble_eq_true rfl, Nat.le_of_ble_eq_true rfl⟩) hP hD hS hA [0] [1, 2, 3, 4, 5, 6] rfl rfl (by decide +kernel) (by decide +kernel) (fun r_94 u_95 H locs hw hP0 hD0 hS0 => ?_)
    clear hP hD hS
    have hP := hP0
    have hD := hD0
    have hS := hS0
    clear hP0 hD0 hS0
    replace hP : va_P D vwCl [(rf, .inl (K 0, 5, .inl frf)), (h0, .inr (2, [.ref h1, .int (u_88.2.2.2.1 0), .int (u_88.2.2.2.1 1)])), (h1, .inl (K 0, 476, .inl fs2)), (t0, .inr (9, [.ref t1, .ref t3, .ref t2, .ref l0, .int n, .int lt, .int nf, .int (u_88.2.2.2.1 2), k_8, k_9])), (t1, .inl (K 0, 56, .inl (u_88.2.1 0))), (t2, .inl (K 0, 6, .inl (u_88.2.1 1))), (o0, .inr (11, [.ref t0, o_1, o_2, o_3, o_4, o_5, o_6, o_7, o_8, .ref h0, o_10, o_11, .ref rf, .int 0, o_14, o_15, o_16]))] H := hP
    replace hD : va_D A [(rf, .inl (K 0, 5, .inl frf)), (h0, .inr (2, [.ref h1, .int (u_88.2.2.2.1 0), .int (u_88.2.2.2.1 1)])), (h1, .inl (K 0, 476, .inl fs2)), (t0, .inr (9, [.ref t1, .ref t3, .ref t2, .ref l0, .int n, .int lt, .int nf, .int (u_88.2.2.2.1 2), k_8, k_9])), (t1, .inl (K 0, 56, .inl (u_88.2.1 0))), (t2, .inl (K 0, 6, .inl (u_88.2.1 1))), (o0, .inr (11, [.ref t0, o_1, o_2, o_3, o_4, o_5, o_6, o_7, o_8, .ref h0, o_10, o_11, .ref rf, .int 0, o_14, o_15, o_16]))] := hD
    obtain ⟨hw, k_96, -⟩ := hw
    replace hE := hE.trans (Lt_in k_96)
    have er_r_94 := hw
    have hr_r_94 : r_94.toInt = r_87.toInt := (congrArg Int32.toInt er_r_94).trans rfl
    rw [← hQ]
    have hP9 := hP.sub (ws' := [(o0, .inr (11, [.ref t0, o_1, o_2, o_3, o_4, o_5, o_6, o_7, o_8, .ref h0, o_10, o_11, .ref rf, .int 0, o_14, o_15, o_16])), (rf, .inl (K 0, 5, .inl frf)), (h0, .inr (2, [.ref h1, .int (u_88.2.2.2.1 0), .int (u_88.2.2.2.1 1)])), (h1, .inl (K 0, 476, .inl fs2)), (t0, .inr (9, [.ref t1, .ref t3, .ref t2, .ref l0, .int n, .int lt, .int nf, .int (u_88.2.2.2.1 2), k_8, k_9])), (t1, .inl (K 0, 56, .inl (u_88.2.1 0))), (t2, .inl (K 0, 6, .inl (u_88.2.1 1)))]) [6, 0, 1, 2, 3, 4, 5] rfl
    have hD9 := hD.sub (ws' := [(o0, .inr (11, [.ref t0, o_1, o_2, o_3, o_4, o_5, o_6, o_7, o_8, .ref h0, o_10, o_11, .ref rf, .int 0, o_14, o_15, o_16])), (rf, .inl (K 0, 5, .inl frf)), (h0, .inr (2, [.ref h1, .int (u_88.2.2.2.1 0), .int (u_88.2.2.2.1 1)])), (h1, .inl (K 0, 476, .inl fs2)), (t0, .inr (9, [.ref t1, .ref t3, .ref t2, .ref l0, .int n, .int lt, .int nf, .int (u_88.2.2.2.1 2), k_8, k_9])), (t1, .inl (K 0, 56, .inl (u_88.2.1 0))), (t2, .inl (K 0, 6, .inl (u_88.2.1 1)))]) [6, 0, 1, 2, 3, 4, 5] (by decide +kernel) rfl
    exact W.iret (v := r_94) hx hb hr (fun t ht hW => ⟨⟨r_94, ((fun _ => 0, fun i => match i with | 0 => frf | 1 => (u_88.2.1 0) | _ => (u_88.2.1 1), fun _ => fun _ => 0, fun i => match i with | 0 => 0 | 1 => (u_88.2.2.2.1 0) | 2 => (u_88.2.2.2.1 1) | _ => (u_88.2.2.2.1 2), fun _ => 0, fun _ => fun _ => none) : Su), rfl, ⟨(show (-3) ≤ (0 : Int32).toInt ∧ (0 : Int32).toInt ≤ 0 by decide), (show 0 ≤ ((u_88.2.2.2.1 0) : Int32).toInt ∧ ((u_88.2.2.2.1 0) : Int32).toInt ≤ 16 by omega), (show 0 ≤ ((u_88.2.2.2.1 1) : Int32).toInt ∧ ((u_88.2.2.2.1 1) : Int32).toInt ≤ 15 by omega), k_91, hE.symm, trivial⟩, (⟨by rw [ht]; exact hP9, hD9⟩ : Wd D A _ t)⟩, hS.F ht⟩) hS.2.2 dX11_undo_31
  · have c_93i := i_eq (x := r_87.toInt) (y := (-1)) rfl rfl c_93
    replace hE := hE.trans (if_pos c_93)
    refine lv_aload_n hx hb dX11_undo_17 rfl (lv_at hl 1 rfl) ?_
    refine lv_bipush (v := (-3)) hx hb dX11_undo_18 (by decide +kernel) ?_
    refine kci (S := Su) (wr := [(h0, .inr (2, [.ref h1, .int (u_88.2.2.2.1 0), .int (u_88.2.2.2.1 1)])), (h1, .inl (K 0, 476, .inl fs2)), (t0, .inr (9, [.ref t1, .ref t3, .ref t2, .ref l0, .int n, .int lt, .int nf, .int (u_88.2.2.2.1 2), k_8, k_9])), (t1, .inl (K 0, 56, .inl (u_88.2.1 0))), (t2, .inl (K 0, 6, .inl (u_88.2.1 1)))]) (va_runV (As := [.int (-3)]) (rest := []) ⟨hx, hb, hml, hown, hts⟩ (w_refuse l D K o0 (-3) (.ref t0) o_1 o_2 o_3 o_4 o_5 o_6 o_7 o_8 (.ref h0) o_10 o_11 rf rb o_14 o_15 o_16 frf H.size) (cwV 1 hts gX11_undo_X11_refuse rfl rfl rfl (by decide +kernel) ⟨Nat.le_of_ble_eq_true rfl, Nat.le_of_ble_eq_true rfl⟩) (mkV hK hN (hP.sub [0, 1] rfl) (hD.sub [0, 1] (by decide +kernel) rfl) (ci := 11) (q0 := 0) rfl rfl) rfl rfl hl.1 rfl (lv_room (Nat.le_of_ble_eq_true rfl)) dX11_undo_20 ⟨Nat.le_of_ble_eq_true rfl, Nat.le_of_ble_eq_true rfl⟩) hP hD hS hA [0, 1] [2, 3, 4, 5, 6] rfl rfl (by decide +kernel) (by decide +kernel) (fun r_97 u_98 H locs hw hP0 hD0 hS0 => ?_)
    clear hP hD hS
    have hP := hP0
    have hD := hD0
    have hS := hS0
    clear hP0 hD0 hS0
    replace hP : va_P D vwCl [(h0, .inr (2, [.ref h1, .int (u_88.2.2.2.1 0), .int (u_88.2.2.2.1 1)])), (h1, .inl (K 0, 476, .inl fs2)), (t0, .inr (9, [.ref t1, .ref t3, .ref t2, .ref l0, .int n, .int lt, .int nf, .int (u_88.2.2.2.1 2), k_8, k_9])), (t1, .inl (K 0, 56, .inl (u_88.2.1 0))), (t2, .inl (K 0, 6, .inl (u_88.2.1 1))), (o0, .inr (11, [.ref t0, o_1, o_2, o_3, o_4, o_5, o_6, o_7, o_8, .ref h0, o_10, o_11, .ref rf, .int (-3), o_14, o_15, o_16])), (rf, .inl (K 0, 5, .inl (u_98.2.1 0)))] H := hP
    replace hD : va_D A [(h0, .inr (2, [.ref h1, .int (u_88.2.2.2.1 0), .int (u_88.2.2.2.1 1)])), (h1, .inl (K 0, 476, .inl fs2)), (t0, .inr (9, [.ref t1, .ref t3, .ref t2, .ref l0, .int n, .int lt, .int nf, .int (u_88.2.2.2.1 2), k_8, k_9])), (t1, .inl (K 0, 56, .inl (u_88.2.1 0))), (t2, .inl (K 0, 6, .inl (u_88.2.1 1))), (o0, .inr (11, [.ref t0, o_1, o_2, o_3, o_4, o_5, o_6, o_7, o_8, .ref h0, o_10, o_11, .ref rf, .int (-3), o_14, o_15, o_16])), (rf, .inl (K 0, 5, .inl (u_98.2.1 0)))] := hD
    obtain ⟨k_99, -⟩ := hw
    replace hE := hE.trans (Lt2_in k_99)
    refine lv_goto (tgt := 31) hx hb dX11_undo_23 (by decide +kernel) ?_
    rw [← hQ]
    have hP9 := hP.sub (ws' := [(o0, .inr (11, [.ref t0, o_1, o_2, o_3, o_4, o_5, o_6, o_7, o_8, .ref h0, o_10, o_11, .ref rf, .int (-3), o_14, o_15, o_16])), (rf, .inl (K 0, 5, .inl (u_98.2.1 0))), (h0, .inr (2, [.ref h1, .int (u_88.2.2.2.1 0), .int (u_88.2.2.2.1 1)])), (h1, .inl (K 0, 476, .inl fs2)), (t0, .inr (9, [.ref t1, .ref t3, .ref t2, .ref l0, .int n, .int lt, .int nf, .int (u_88.2.2.2.1 2), k_8, k_9])), (t1, .inl (K 0, 56, .inl (u_88.2.1 0))), (t2, .inl (K 0, 6, .inl (u_88.2.1 1)))]) [5, 6, 0, 1, 2, 3, 4] rfl
    have hD9 := hD.sub (ws' := [(o0, .inr (11, [.ref t0, o_1, o_2, o_3, o_4, o_5, o_6, o_7, o_8, .ref h0, o_10, o_11, .ref rf, .int (-3), o_14, o_15, o_16])), (rf, .inl (K 0, 5, .inl (u_98.2.1 0))), (h0, .inr (2, [.ref h1, .int (u_88.2.2.2.1 0), .int (u_88.2.2.2.1 1)])), (h1, .inl (K 0, 476, .inl fs2)), (t0, .inr (9, [.ref t1, .ref t3, .ref t2, .ref l0, .int n, .int lt, .int nf, .int (u_88.2.2.2.1 2), k_8, k_9])), (t1, .inl (K 0, 56, .inl (u_88.2.1 0))), (t2, .inl (K 0, 6, .inl (u_88.2.1 1)))]) [5, 6, 0, 1, 2, 3, 4] (by decide +kernel) rfl
    exact W.iret (v := r_97) hx hb hr (fun t ht hW => ⟨⟨r_97, ((fun _ => 0, fun i => match i with | 0 => (u_98.2.1 0) | 1 => (u_88.2.1 0) | _ => (u_88.2.1 1), fun _ => fun _ => 0, fun i => match i with | 0 => (-3) | 1 => (u_88.2.2.2.1 0) | 2 => (u_88.2.2.2.1 1) | _ => (u_88.2.2.2.1 2), fun _ => 0, fun _ => fun _ => none) : Su), rfl, ⟨(show (-3) ≤ ((-3) : Int32).toInt ∧ ((-3) : Int32).toInt ≤ 0 by decide), (show 0 ≤ ((u_88.2.2.2.1 0) : Int32).toInt ∧ ((u_88.2.2.2.1 0) : Int32).toInt ≤ 16 by omega), (show 0 ≤ ((u_88.2.2.2.1 1) : Int32).toInt ∧ ((u_88.2.2.2.1 1) : Int32).toInt ≤ 15 by omega), k_91, hE.symm, trivial⟩, (⟨by rw [ht]; exact hP9, hD9⟩ : Wd D A _ t)⟩, hS.F ht⟩) hS.2.2 dX11_undo_31
