theorem BX10_discords_0 : bsegs (ByteArray.data cX10_discords |>.toList.drop 0) 0 [(0, [3]), (1, [61]), (2, [3]), (3, [62]), (4, [29]), (5, [43]), (6, [180, 0, 77]), (9, [162, 0, 101]), (12, [29]), (13, [4]), (14, [96]), (15, [54, 4]), (17, [21, 4]), (19, [43]), (20, [180, 0, 77]), (23, [162, 0, 81]), (26, [43]), (27, [29]), (28, [182, 0, 80]), (31, [153, 0, 67]), (34, [43]), (35, [21, 4]), (37, [182, 0, 80]), (40, [153, 0, 58])] = true := by decide +kernel
theorem dX10_discords_0 : decode cX10_discords 0 = .ok (.iconst 0, 1) := dk_3 (bs_at BX10_discords_0 0 rfl)
theorem dX10_discords_1 : decode cX10_discords 1 = .ok (.istore_n 2, 1) := dk_61 (bs_at BX10_discords_0 1 rfl)
theorem dX10_discords_2 : decode cX10_discords 2 = .ok (.iconst 0, 1) := dk_3 (bs_at BX10_discords_0 2 rfl)
theorem dX10_discords_3 : decode cX10_discords 3 = .ok (.istore_n 3, 1) := dk_62 (bs_at BX10_discords_0 3 rfl)
theorem dX10_discords_4 : decode cX10_discords 4 = .ok (.iload_n 3, 1) := dk_29 (bs_at BX10_discords_0 4 rfl)
theorem dX10_discords_5 : decode cX10_discords 5 = .ok (.aload_n 1, 1) := dk_43 (bs_at BX10_discords_0 5 rfl)
theorem dX10_discords_6 : decode cX10_discords 6 = .ok (.getfield 77, 3) := dk_180 0 77 (bs_at BX10_discords_0 6 rfl) rfl
theorem dX10_discords_9 : decode cX10_discords 9 = .ok (.if_icmp .ge 101, 3) := dk_162 0 101 (bs_at BX10_discords_0 7 rfl) rfl
theorem dX10_discords_12 : decode cX10_discords 12 = .ok (.iload_n 3, 1) := dk_29 (bs_at BX10_discords_0 8 rfl)
theorem dX10_discords_13 : decode cX10_discords 13 = .ok (.iconst 1, 1) := dk_4 (bs_at BX10_discords_0 9 rfl)
theorem dX10_discords_14 : decode cX10_discords 14 = .ok (.iadd, 1) := dk_96 (bs_at BX10_discords_0 10 rfl)
theorem dX10_discords_15 : decode cX10_discords 15 = .ok (.istore 4, 2) := dk_54 4 (bs_at BX10_discords_0 11 rfl)
theorem dX10_discords_17 : decode cX10_discords 17 = .ok (.iload 4, 2) := dk_21 4 (bs_at BX10_discords_0 12 rfl)
theorem dX10_discords_19 : decode cX10_discords 19 = .ok (.aload_n 1, 1) := dk_43 (bs_at BX10_discords_0 13 rfl)
theorem dX10_discords_20 : decode cX10_discords 20 = .ok (.getfield 77, 3) := dk_180 0 77 (bs_at BX10_discords_0 14 rfl) rfl
theorem dX10_discords_23 : decode cX10_discords 23 = .ok (.if_icmp .ge 81, 3) := dk_162 0 81 (bs_at BX10_discords_0 15 rfl) rfl
theorem dX10_discords_26 : decode cX10_discords 26 = .ok (.aload_n 1, 1) := dk_43 (bs_at BX10_discords_0 16 rfl)
theorem dX10_discords_27 : decode cX10_discords 27 = .ok (.iload_n 3, 1) := dk_29 (bs_at BX10_discords_0 17 rfl)
theorem dX10_discords_28 : decode cX10_discords 28 = .ok (.invokevirtual 80, 3) := dk_182 0 80 (bs_at BX10_discords_0 18 rfl) rfl
theorem dX10_discords_31 : decode cX10_discords 31 = .ok (.ifCond .eq 67, 3) := dk_153 0 67 (bs_at BX10_discords_0 19 rfl) rfl
theorem dX10_discords_34 : decode cX10_discords 34 = .ok (.aload_n 1, 1) := dk_43 (bs_at BX10_discords_0 20 rfl)
theorem dX10_discords_35 : decode cX10_discords 35 = .ok (.iload 4, 2) := dk_21 4 (bs_at BX10_discords_0 21 rfl)
theorem dX10_discords_37 : decode cX10_discords 37 = .ok (.invokevirtual 80, 3) := dk_182 0 80 (bs_at BX10_discords_0 22 rfl) rfl
theorem dX10_discords_40 : decode cX10_discords 40 = .ok (.ifCond .eq 58, 3) := dk_153 0 58 (bs_at BX10_discords_0 23 rfl) rfl
theorem BX10_discords_43 : bsegs (ByteArray.data cX10_discords |>.toList.drop 43) 43 [(43, [43]), (44, [29]), (45, [21, 4]), (47, [182, 0, 83]), (50, [153, 0, 48]), (53, [42]), (54, [180, 0, 12]), (57, [43]), (58, [29]), (59, [43]), (60, [29]), (61, [8]), (62, [182, 0, 24]), (65, [3]), (66, [182, 0, 28]), (69, [42]), (70, [180, 0, 12]), (73, [43]), (74, [21, 4]), (76, [3]), (77, [182, 0, 24]), (80, [182, 0, 87]), (83, [28]), (84, [42])] = true := by decide +kernel
theorem dX10_discords_43 : decode cX10_discords 43 = .ok (.aload_n 1, 1) := dk_43 (bs_at BX10_discords_43 0 rfl)
theorem dX10_discords_44 : decode cX10_discords 44 = .ok (.iload_n 3, 1) := dk_29 (bs_at BX10_discords_43 1 rfl)
theorem dX10_discords_45 : decode cX10_discords 45 = .ok (.iload 4, 2) := dk_21 4 (bs_at BX10_discords_43 2 rfl)
theorem dX10_discords_47 : decode cX10_discords 47 = .ok (.invokevirtual 83, 3) := dk_182 0 83 (bs_at BX10_discords_43 3 rfl) rfl
theorem dX10_discords_50 : decode cX10_discords 50 = .ok (.ifCond .eq 48, 3) := dk_153 0 48 (bs_at BX10_discords_43 4 rfl) rfl
theorem dX10_discords_53 : decode cX10_discords 53 = .ok (.aload_n 0, 1) := dk_42 (bs_at BX10_discords_43 5 rfl)
theorem dX10_discords_54 : decode cX10_discords 54 = .ok (.getfield 12, 3) := dk_180 0 12 (bs_at BX10_discords_43 6 rfl) rfl
theorem dX10_discords_57 : decode cX10_discords 57 = .ok (.aload_n 1, 1) := dk_43 (bs_at BX10_discords_43 7 rfl)
theorem dX10_discords_58 : decode cX10_discords 58 = .ok (.iload_n 3, 1) := dk_29 (bs_at BX10_discords_43 8 rfl)
theorem dX10_discords_59 : decode cX10_discords 59 = .ok (.aload_n 1, 1) := dk_43 (bs_at BX10_discords_43 9 rfl)
theorem dX10_discords_60 : decode cX10_discords 60 = .ok (.iload_n 3, 1) := dk_29 (bs_at BX10_discords_43 10 rfl)
theorem dX10_discords_61 : decode cX10_discords 61 = .ok (.iconst 5, 1) := dk_8 (bs_at BX10_discords_43 11 rfl)
theorem dX10_discords_62 : decode cX10_discords 62 = .ok (.invokevirtual 24, 3) := dk_182 0 24 (bs_at BX10_discords_43 12 rfl) rfl
theorem dX10_discords_65 : decode cX10_discords 65 = .ok (.iconst 0, 1) := dk_3 (bs_at BX10_discords_43 13 rfl)
theorem dX10_discords_66 : decode cX10_discords 66 = .ok (.invokevirtual 28, 3) := dk_182 0 28 (bs_at BX10_discords_43 14 rfl) rfl
theorem dX10_discords_69 : decode cX10_discords 69 = .ok (.aload_n 0, 1) := dk_42 (bs_at BX10_discords_43 15 rfl)
theorem dX10_discords_70 : decode cX10_discords 70 = .ok (.getfield 12, 3) := dk_180 0 12 (bs_at BX10_discords_43 16 rfl) rfl
theorem dX10_discords_73 : decode cX10_discords 73 = .ok (.aload_n 1, 1) := dk_43 (bs_at BX10_discords_43 17 rfl)
theorem dX10_discords_74 : decode cX10_discords 74 = .ok (.iload 4, 2) := dk_21 4 (bs_at BX10_discords_43 18 rfl)
theorem dX10_discords_76 : decode cX10_discords 76 = .ok (.iconst 0, 1) := dk_3 (bs_at BX10_discords_43 19 rfl)
theorem dX10_discords_77 : decode cX10_discords 77 = .ok (.invokevirtual 24, 3) := dk_182 0 24 (bs_at BX10_discords_43 20 rfl) rfl
theorem dX10_discords_80 : decode cX10_discords 80 = .ok (.invokevirtual 87, 3) := dk_182 0 87 (bs_at BX10_discords_43 21 rfl) rfl
theorem dX10_discords_83 : decode cX10_discords 83 = .ok (.iload_n 2, 1) := dk_28 (bs_at BX10_discords_43 22 rfl)
theorem dX10_discords_84 : decode cX10_discords 84 = .ok (.aload_n 0, 1) := dk_42 (bs_at BX10_discords_43 23 rfl)
theorem BX10_discords_85 : bsegs (ByteArray.data cX10_discords |>.toList.drop 85) 85 [(85, [180, 0, 12]), (88, [43]), (89, [182, 0, 32]), (92, [5]), (93, [182, 0, 36]), (96, [96]), (97, [61]), (98, [132, 4, 1]), (101, [167, 255, 172]), (104, [132, 3, 1]), (107, [167, 255, 153]), (110, [28]), (111, [172])] = true := by decide +kernel
theorem dX10_discords_85 : decode cX10_discords 85 = .ok (.getfield 12, 3) := dk_180 0 12 (bs_at BX10_discords_85 0 rfl) rfl
theorem dX10_discords_88 : decode cX10_discords 88 = .ok (.aload_n 1, 1) := dk_43 (bs_at BX10_discords_85 1 rfl)
theorem dX10_discords_89 : decode cX10_discords 89 = .ok (.invokevirtual 32, 3) := dk_182 0 32 (bs_at BX10_discords_85 2 rfl) rfl
theorem dX10_discords_92 : decode cX10_discords 92 = .ok (.iconst 2, 1) := dk_5 (bs_at BX10_discords_85 3 rfl)
theorem dX10_discords_93 : decode cX10_discords 93 = .ok (.invokevirtual 36, 3) := dk_182 0 36 (bs_at BX10_discords_85 4 rfl) rfl
theorem dX10_discords_96 : decode cX10_discords 96 = .ok (.iadd, 1) := dk_96 (bs_at BX10_discords_85 5 rfl)
theorem dX10_discords_97 : decode cX10_discords 97 = .ok (.istore_n 2, 1) := dk_61 (bs_at BX10_discords_85 6 rfl)
theorem dX10_discords_98 : decode cX10_discords 98 = .ok (.iinc 4 1, 3) := dk_132 4 1 (bs_at BX10_discords_85 7 rfl) rfl
theorem dX10_discords_101 : decode cX10_discords 101 = .ok (.goto (-84), 3) := dk_167 255 172 (bs_at BX10_discords_85 8 rfl) rfl
theorem dX10_discords_104 : decode cX10_discords 104 = .ok (.iinc 3 1, 3) := dk_132 3 1 (bs_at BX10_discords_85 9 rfl) rfl
theorem dX10_discords_107 : decode cX10_discords 107 = .ok (.goto (-103), 3) := dk_167 255 153 (bs_at BX10_discords_85 10 rfl) rfl
theorem dX10_discords_110 : decode cX10_discords 110 = .ok (.iload_n 2, 1) := dk_28 (bs_at BX10_discords_85 11 rfl)
theorem dX10_discords_111 : decode cX10_discords 111 = .ok (.ireturn, 1) := dk_172 (bs_at BX10_discords_85 12 rfl)
theorem BX10_burnDown_0 : bsegs (ByteArray.data cX10_burnDown |>.toList.drop 0) 0 [(0, [3]), (1, [61]), (2, [28]), (3, [43]), (4, [180, 0, 77]), (7, [162, 0, 73]), (10, [43]), (11, [28]), (12, [8]), (13, [182, 0, 24]), (16, [62]), (17, [42]), (18, [180, 0, 12]), (21, [43]), (22, [28]), (23, [29]), (24, [3]), (25, [182, 0, 28]), (28, [43]), (29, [28]), (30, [16, 6]), (32, [17, 39, 15]), (35, [43]), (36, [28])] = true := by decide +kernel
theorem dX10_burnDown_0 : decode cX10_burnDown 0 = .ok (.iconst 0, 1) := dk_3 (bs_at BX10_burnDown_0 0 rfl)
theorem dX10_burnDown_1 : decode cX10_burnDown 1 = .ok (.istore_n 2, 1) := dk_61 (bs_at BX10_burnDown_0 1 rfl)
theorem dX10_burnDown_2 : decode cX10_burnDown 2 = .ok (.iload_n 2, 1) := dk_28 (bs_at BX10_burnDown_0 2 rfl)
theorem dX10_burnDown_3 : decode cX10_burnDown 3 = .ok (.aload_n 1, 1) := dk_43 (bs_at BX10_burnDown_0 3 rfl)
theorem dX10_burnDown_4 : decode cX10_burnDown 4 = .ok (.getfield 77, 3) := dk_180 0 77 (bs_at BX10_burnDown_0 4 rfl) rfl
theorem dX10_burnDown_7 : decode cX10_burnDown 7 = .ok (.if_icmp .ge 73, 3) := dk_162 0 73 (bs_at BX10_burnDown_0 5 rfl) rfl
theorem dX10_burnDown_10 : decode cX10_burnDown 10 = .ok (.aload_n 1, 1) := dk_43 (bs_at BX10_burnDown_0 6 rfl)
theorem dX10_burnDown_11 : decode cX10_burnDown 11 = .ok (.iload_n 2, 1) := dk_28 (bs_at BX10_burnDown_0 7 rfl)
theorem dX10_burnDown_12 : decode cX10_burnDown 12 = .ok (.iconst 5, 1) := dk_8 (bs_at BX10_burnDown_0 8 rfl)
theorem dX10_burnDown_13 : decode cX10_burnDown 13 = .ok (.invokevirtual 24, 3) := dk_182 0 24 (bs_at BX10_burnDown_0 9 rfl) rfl
theorem dX10_burnDown_16 : decode cX10_burnDown 16 = .ok (.istore_n 3, 1) := dk_62 (bs_at BX10_burnDown_0 10 rfl)
theorem dX10_burnDown_17 : decode cX10_burnDown 17 = .ok (.aload_n 0, 1) := dk_42 (bs_at BX10_burnDown_0 11 rfl)
theorem dX10_burnDown_18 : decode cX10_burnDown 18 = .ok (.getfield 12, 3) := dk_180 0 12 (bs_at BX10_burnDown_0 12 rfl) rfl
theorem dX10_burnDown_21 : decode cX10_burnDown 21 = .ok (.aload_n 1, 1) := dk_43 (bs_at BX10_burnDown_0 13 rfl)
theorem dX10_burnDown_22 : decode cX10_burnDown 22 = .ok (.iload_n 2, 1) := dk_28 (bs_at BX10_burnDown_0 14 rfl)
theorem dX10_burnDown_23 : decode cX10_burnDown 23 = .ok (.iload_n 3, 1) := dk_29 (bs_at BX10_burnDown_0 15 rfl)
theorem dX10_burnDown_24 : decode cX10_burnDown 24 = .ok (.iconst 0, 1) := dk_3 (bs_at BX10_burnDown_0 16 rfl)
theorem dX10_burnDown_25 : decode cX10_burnDown 25 = .ok (.invokevirtual 28, 3) := dk_182 0 28 (bs_at BX10_burnDown_0 17 rfl) rfl
theorem dX10_burnDown_28 : decode cX10_burnDown 28 = .ok (.aload_n 1, 1) := dk_43 (bs_at BX10_burnDown_0 18 rfl)
theorem dX10_burnDown_29 : decode cX10_burnDown 29 = .ok (.iload_n 2, 1) := dk_28 (bs_at BX10_burnDown_0 19 rfl)
theorem dX10_burnDown_30 : decode cX10_burnDown 30 = .ok (.bipush 6, 2) := dk_16 6 (bs_at BX10_burnDown_0 20 rfl) rfl
theorem dX10_burnDown_32 : decode cX10_burnDown 32 = .ok (.sipush 9999, 3) := dk_17 39 15 (bs_at BX10_burnDown_0 21 rfl) rfl
theorem dX10_burnDown_35 : decode cX10_burnDown 35 = .ok (.aload_n 1, 1) := dk_43 (bs_at BX10_burnDown_0 22 rfl)
theorem dX10_burnDown_36 : decode cX10_burnDown 36 = .ok (.iload_n 2, 1) := dk_28 (bs_at BX10_burnDown_0 23 rfl)
theorem BX10_burnDown_37 : bsegs (ByteArray.data cX10_burnDown |>.toList.drop 37) 37 [(37, [16, 6]), (39, [182, 0, 24]), (42, [29]), (43, [96]), (44, [184, 0, 40]), (47, [182, 0, 45]), (50, [43]), (51, [28]), (52, [8]), (53, [3]), (54, [29]), (55, [42]), (56, [180, 0, 12]), (59, [43]), (60, [182, 0, 32]), (63, [3]), (64, [182, 0, 36]), (67, [100]), (68, [184, 0, 53]), (71, [182, 0, 45]), (74, [132, 2, 1]), (77, [167, 255, 181]), (80, [177])] = true := by decide +kernel
theorem dX10_burnDown_37 : decode cX10_burnDown 37 = .ok (.bipush 6, 2) := dk_16 6 (bs_at BX10_burnDown_37 0 rfl) rfl
theorem dX10_burnDown_39 : decode cX10_burnDown 39 = .ok (.invokevirtual 24, 3) := dk_182 0 24 (bs_at BX10_burnDown_37 1 rfl) rfl
theorem dX10_burnDown_42 : decode cX10_burnDown 42 = .ok (.iload_n 3, 1) := dk_29 (bs_at BX10_burnDown_37 2 rfl)
theorem dX10_burnDown_43 : decode cX10_burnDown 43 = .ok (.iadd, 1) := dk_96 (bs_at BX10_burnDown_37 3 rfl)
theorem dX10_burnDown_44 : decode cX10_burnDown 44 = .ok (.invokestatic 40, 3) := dk_184 0 40 (bs_at BX10_burnDown_37 4 rfl) rfl
theorem dX10_burnDown_47 : decode cX10_burnDown 47 = .ok (.invokevirtual 45, 3) := dk_182 0 45 (bs_at BX10_burnDown_37 5 rfl) rfl
theorem dX10_burnDown_50 : decode cX10_burnDown 50 = .ok (.aload_n 1, 1) := dk_43 (bs_at BX10_burnDown_37 6 rfl)
theorem dX10_burnDown_51 : decode cX10_burnDown 51 = .ok (.iload_n 2, 1) := dk_28 (bs_at BX10_burnDown_37 7 rfl)
theorem dX10_burnDown_52 : decode cX10_burnDown 52 = .ok (.iconst 5, 1) := dk_8 (bs_at BX10_burnDown_37 8 rfl)
theorem dX10_burnDown_53 : decode cX10_burnDown 53 = .ok (.iconst 0, 1) := dk_3 (bs_at BX10_burnDown_37 9 rfl)
theorem dX10_burnDown_54 : decode cX10_burnDown 54 = .ok (.iload_n 3, 1) := dk_29 (bs_at BX10_burnDown_37 10 rfl)
theorem dX10_burnDown_55 : decode cX10_burnDown 55 = .ok (.aload_n 0, 1) := dk_42 (bs_at BX10_burnDown_37 11 rfl)
theorem dX10_burnDown_56 : decode cX10_burnDown 56 = .ok (.getfield 12, 3) := dk_180 0 12 (bs_at BX10_burnDown_37 12 rfl) rfl
theorem dX10_burnDown_59 : decode cX10_burnDown 59 = .ok (.aload_n 1, 1) := dk_43 (bs_at BX10_burnDown_37 13 rfl)
theorem dX10_burnDown_60 : decode cX10_burnDown 60 = .ok (.invokevirtual 32, 3) := dk_182 0 32 (bs_at BX10_burnDown_37 14 rfl) rfl
theorem dX10_burnDown_63 : decode cX10_burnDown 63 = .ok (.iconst 0, 1) := dk_3 (bs_at BX10_burnDown_37 15 rfl)
theorem dX10_burnDown_64 : decode cX10_burnDown 64 = .ok (.invokevirtual 36, 3) := dk_182 0 36 (bs_at BX10_burnDown_37 16 rfl) rfl
theorem dX10_burnDown_67 : decode cX10_burnDown 67 = .ok (.isub, 1) := dk_100 (bs_at BX10_burnDown_37 17 rfl)
theorem dX10_burnDown_68 : decode cX10_burnDown 68 = .ok (.invokestatic 53, 3) := dk_184 0 53 (bs_at BX10_burnDown_37 18 rfl) rfl
theorem dX10_burnDown_71 : decode cX10_burnDown 71 = .ok (.invokevirtual 45, 3) := dk_182 0 45 (bs_at BX10_burnDown_37 19 rfl) rfl
theorem dX10_burnDown_74 : decode cX10_burnDown 74 = .ok (.iinc 2 1, 3) := dk_132 2 1 (bs_at BX10_burnDown_37 20 rfl) rfl
theorem dX10_burnDown_77 : decode cX10_burnDown 77 = .ok (.goto (-75), 3) := dk_167 255 181 (bs_at BX10_burnDown_37 21 rfl) rfl
theorem dX10_burnDown_80 : decode cX10_burnDown 80 = .ok (.return_, 1) := dk_177 (bs_at BX10_burnDown_37 22 rfl)
theorem ggX10_discords_X9_sings : GoodIn wsX10_discords wsX9_sings := gi_ch ch_X10_discords ch_X9_sings (by decide +kernel)
set_option maxRecDepth 20000 in
theorem gX10_discords_X9_sings_n80 : GoodIn wsX10_discords (wsX9_sings) := ggX10_discords_X9_sings
theorem ggX10_discords_X9_beside : GoodIn wsX10_discords wsX9_beside := gi_ch ch_X10_discords ch_X9_beside (by decide +kernel)
set_option maxRecDepth 20000 in
theorem gX10_discords_X9_beside_n83 : GoodIn wsX10_discords (wsX9_beside) := ggX10_discords_X9_beside
theorem ggX10_discords_X9_fact : GoodIn wsX10_discords wsX9_fact := gi_ch ch_X10_discords ch_X9_fact (by decide +kernel)
set_option maxRecDepth 20000 in
theorem gX10_discords_X9_fact_n24 : GoodIn wsX10_discords (wsX9_fact) := ggX10_discords_X9_fact
theorem ggX10_discords_X0_face : GoodIn wsX10_discords wsX0_face := gi_ch ch_X10_discords ch_X0_face (by decide +kernel)
set_option maxRecDepth 20000 in
theorem gX10_discords_X0_face_n28 : GoodIn wsX10_discords (wsX0_face) := ggX10_discords_X0_face
theorem ggX10_discords_X0_facing : GoodIn wsX10_discords wsX0_facing := gi_ch ch_X10_discords ch_X0_facing (by decide +kernel)
set_option maxRecDepth 20000 in
theorem gX10_discords_X0_facing_n87 : GoodIn wsX10_discords (wsX0_facing) := ggX10_discords_X0_facing
theorem ggX10_discords_X9_lawInForce : GoodIn wsX10_discords wsX9_lawInForce := gi_ch ch_X10_discords ch_X9_lawInForce (by decide +kernel)
set_option maxRecDepth 20000 in
theorem gX10_discords_X9_lawInForce_n32 : GoodIn wsX10_discords (wsX9_lawInForce) := ggX10_discords_X9_lawInForce
theorem ggX10_discords_X0_told : GoodIn wsX10_discords wsX0_told := gi_ch ch_X10_discords ch_X0_told (by decide +kernel)
set_option maxRecDepth 20000 in
theorem gX10_discords_X0_told_n36 : GoodIn wsX10_discords (wsX0_told) := ggX10_discords_X0_told
theorem ggX10_burnDown_X9_fact : GoodIn wsX10_burnDown wsX9_fact := gi_ch ch_X10_burnDown ch_X9_fact (by decide +kernel)
set_option maxRecDepth 20000 in
theorem gX10_burnDown_X9_fact_n24 : GoodIn wsX10_burnDown (wsX9_fact) := ggX10_burnDown_X9_fact
theorem ggX10_burnDown_X0_face : GoodIn wsX10_burnDown wsX0_face := gi_ch ch_X10_burnDown ch_X0_face (by decide +kernel)
set_option maxRecDepth 20000 in
theorem gX10_burnDown_X0_face_n28 : GoodIn wsX10_burnDown (wsX0_face) := ggX10_burnDown_X0_face
theorem ggX10_burnDown_X9_put : GoodIn wsX10_burnDown wsX9_put := gi_ch ch_X10_burnDown ch_X9_put (by decide +kernel)
set_option maxRecDepth 20000 in
theorem gX10_burnDown_X9_put_n45 : GoodIn wsX10_burnDown (wsX9_put) := ggX10_burnDown_X9_put
theorem ggX10_burnDown_X9_lawInForce : GoodIn wsX10_burnDown wsX9_lawInForce := gi_ch ch_X10_burnDown ch_X9_lawInForce (by decide +kernel)
set_option maxRecDepth 20000 in
theorem gX10_burnDown_X9_lawInForce_n32 : GoodIn wsX10_burnDown (wsX9_lawInForce) := ggX10_burnDown_X9_lawInForce
theorem ggX10_burnDown_X0_told : GoodIn wsX10_burnDown wsX0_told := gi_ch ch_X10_burnDown ch_X0_told (by decide +kernel)
set_option maxRecDepth 20000 in
theorem gX10_burnDown_X0_told_n36 : GoodIn wsX10_burnDown (wsX0_told) := ggX10_burnDown_X0_told
set_option maxRecDepth 100000 in
noncomputable def E_w_discords_j98 (v_9858 : Int32) (rec_10026 : Int32 → Int32 → Int32 → (Nat → Int32) → (Nat → Int32) → (Int32 × Int32 × (Nat → Int32) × (Nat → Int32))) (v_10067 : Int32) (v_10068 : Int32) (f_10069 : Nat → Int32) (f_10070 : Nat → Int32) : Int32 × Int32 × (Nat → Int32) × (Nat → Int32) :=
  Lt (v_9858 + Int32.ofInt 1 : Int32) (fun x_10073 => rec_10026 x_10073 v_10067 v_10068 f_10069 f_10070)
set_option maxRecDepth 100000 in
noncomputable def E_w_discords_l17 (G : Nat → LC) (n : Int32) (lt : Int32) (nf : Int32) (f1 : Nat → Int32) (f2 : Nat → Int32) (fl : Nat → Option Nat) (v_8851 : Int32) (rec_9691 : Int32 → Int32 → Int32 → (Nat → Int32) → (Nat → Int32) → (Int32 × Int32 × (Nat → Int32) × (Nat → Int32))) (rec_10026 : Int32 → Int32 → Int32 → (Nat → Int32) → (Nat → Int32) → (Int32 × Int32 × (Nat → Int32) × (Nat → Int32))) (v_9858 : Int32) (v_9859 : Int32) (v_9860 : Int32) (f_9861 : Nat → Int32) (f_9862 : Nat → Int32) : Int32 × Int32 × (Nat → Int32) × (Nat → Int32) :=
  if n ≤ v_9858 then (Lt (v_8851 + Int32.ofInt 1 : Int32) (fun x_10029 => rec_9691 x_10029 v_9859 v_9860 f_9861 f_9862)) else (Lt (E_w_sings v_8851 f1 f2) (fun r_10030 => if r_10030 = 0 then (E_w_discords_j98 v_9858 rec_10026 v_9859 v_9860 f_9861 f_9862) else (Lt (E_w_sings v_9858 f1 f2) (fun r_10075 => if r_10075 = 0 then (E_w_discords_j98 v_9858 rec_10026 v_9859 v_9860 f_9861 f_9862) else (Lt (E_w_beside v_8851 v_9858 f1) (fun r_10079 => if r_10079 = 0 then (E_w_discords_j98 v_9858 rec_10026 v_9859 v_9860 f_9861 f_9862) else (Lt (E_w_fact v_8851 5 f1) (fun r_10083 => Lt (E_w_face v_8851 r_10083 0 f_9862 f1 f2) (fun u_10086_2_1_0 => Lt (E_w_fact v_9858 0 f1) (fun r_10088 => Lt (E_w_facing r_10088 u_10086_2_1_0) (fun u_10091_2_1_0 => Lt (E_w_lawInForce lt nf fl) (fun r_10093 => Oc r_10093 (Lt (E_w_told_n 2 v_9860 f_9861 u_10091_2_1_0) (fun r_10097 => Lt (v_9859 + r_10097 : Int32) (fun x_10101 => E_w_discords_j98 v_9858 rec_10026 x_10101 v_9860 f_9861 u_10091_2_1_0))) (fun q_10096 => Lt2 (E_w_told (G q_10096).1 (G q_10096).2.1 (G q_10096).2.2.1 (G q_10096).2.2.2.1 (G q_10096).2.2.2.2.1 2 v_9860 f_9861 u_10091_2_1_0) (fun r_10102 q0_r_10102 => Lt2 q0_r_10102 (fun u_10103_2_2_2_1_0 u_10103_2_1_0 => Lt (v_9859 + r_10102 : Int32) (fun x_10107 => E_w_discords_j98 v_9858 rec_10026 x_10107 u_10103_2_2_2_1_0 u_10103_2_1_0 u_10091_2_1_0))))))))))))))))
set_option maxRecDepth 100000 in
noncomputable def E_w_discords_l4 (G : Nat → LC) (n : Int32) (lt : Int32) (nf : Int32) (f1 : Nat → Int32) (f2 : Nat → Int32) (fl : Nat → Option Nat) (rec_9691 : Int32 → Int32 → Int32 → (Nat → Int32) → (Nat → Int32) → (Int32 × Int32 × (Nat → Int32) × (Nat → Int32))) (v_8851 : Int32) (v_8852 : Int32) (v_8853 : Int32) (f_8854 : Nat → Int32) (f_8855 : Nat → Int32) : Int32 × Int32 × (Nat → Int32) × (Nat → Int32) :=
  if n ≤ v_8851 then (((v_8852, v_8853, f_8854, f_8855) : Int32 × Int32 × (Nat → Int32) × (Nat → Int32))) else (Lt (v_8851 + 1 : Int32) (fun x_9694 => Lp (α := Int32 → Int32 → Int32 → (Nat → Int32) → (Nat → Int32) → (Int32 × Int32 × (Nat → Int32) × (Nat → Int32))) (E_w_discords_l17 G n lt nf f1 f2 fl v_8851 rec_9691) (fun _ _ _ _ _ => ((0, 0, fun _ => 0, fun _ => 0) : Int32 × Int32 × (Nat → Int32) × (Nat → Int32))) ((9 - (x_9694 : Int32).toInt : Int).toNat + 1) x_9694 v_8852 v_8853 f_8854 f_8855))
set_option maxRecDepth 100000 in
noncomputable def E_w_discords (G : Nat → LC) (br : Int32) (fs : Nat → Int32) (fw : Nat → Int32) (n : Int32) (lt : Int32) (nf : Int32) (fi : Int32) (f1 : Nat → Int32) (f2 : Nat → Int32) (f3 : Nat → Int32) (fl : Nat → Option Nat) : Int32 × Int32 × (Nat → Int32) × (Nat → Int32) :=
  Lp (α := Int32 → Int32 → Int32 → (Nat → Int32) → (Nat → Int32) → (Int32 × Int32 × (Nat → Int32) × (Nat → Int32))) (E_w_discords_l4 G n lt nf f1 f2 fl) (fun _ _ _ _ _ => ((0, 0, fun _ => 0, fun _ => 0) : Int32 × Int32 × (Nat → Int32) × (Nat → Int32))) ((9 - (0 : Int32).toInt : Int).toNat + 1) 0 0 br fs fw
set_option maxHeartbeats 4000000 in
set_option maxRecDepth 100000 in
theorem w_discords (l : Launch) (D : va_G) (K : Nat → ClassId) (g : Nat → Nat) (L : Nat → Prop) (G : Nat → LC) (r0 : Nat) (t0 : Nat) (a0 : Nat) (m0 : Nat) (w0 : Nat) (m1 : Nat) (br : Int32) (fs : Nat → Int32) (fw : Nat → Int32) (t1 : Nat) (t3 : Nat) (t2 : Nat) (l0 : Nat) (n : Int32) (lt : Int32) (nf : Int32) (fi : Int32) (k_8 : Value) (k_9 : Value) (f1 : Nat → Int32) (gt : Nat → Int32) (f2 : Nat → Int32) (f3 : Nat → Int32) (gc : Nat → Int32) (fl : Nat → Option Nat) (sz : Nat) (zn : 0 ≤ n.toInt ∧ n.toInt ≤ 8) (zlt : 0 ≤ lt.toInt ∧ lt.toInt ≤ 6) (zbr : 0 ≤ br.toInt ∧ br.toInt ≤ 1) (zgt : FzC gt f1) (zgc : FzH gc f3) (zfl : InL L fl) : Met l yX10_discords wsX10_discords ({ frames := 3, cells := 0, slots := 0, locals := 81 }) (va_Pc [.ref r0, .ref t0] (PreY D K [(r0, .inr (10, [.ref a0])), (a0, .inr (0, [.ref m0, .ref w0])), (m0, .inr (3, [.ref m1, .int br])), (m1, .inl (K 0, 64, .inl fs)), (w0, .inl (K 0, 9, .inl fw)), (t0, .inr (9, [.ref t1, .ref t3, .ref t2, .ref l0, .int n, .int lt, .int nf, .int fi, k_8, k_9])), (t1, .inl (K 0, 56, .inl f1)), (t2, .inl (K 0, 6, .inl f2)), (t3, .inl (K 0, 24, .inl f3)), (l0, .inl (K 4, 6, .inr (.inr (.inr (.inr fl)))))] [] sz g L G (va_A [(r0, .inr (10, [.ref a0])), (a0, .inr (0, [.ref m0, .ref w0])), (m0, .inr (3, [.ref m1, .int br])), (m1, .inl (K 0, 64, .inl fs)), (w0, .inl (K 0, 9, .inl fw)), (t0, .inr (9, [.ref t1, .ref t3, .ref t2, .ref l0, .int n, .int lt, .int nf, .int fi, k_8, k_9])), (t1, .inl (K 0, 56, .inl f1)), (t2, .inl (K 0, 6, .inl f2)), (t3, .inl (K 0, 24, .inl f3)), (l0, .inl (K 4, 6, .inr (.inr (.inr (.inr fl)))))] sz))) (va_Qi (S := Su) (fun (r : Int32) (u : Su) => (0 ≤ (u.2.2.2.1 0).toInt ∧ (u.2.2.2.1 0).toInt ≤ 1) ∧ ((r, (u.2.2.2.1 0), (u.2.1 0), (u.2.1 1)) = E_w_discords G br fs fw n lt nf fi f1 f2 f3 fl) ∧ True) (fun u t => Wd D (va_A [(r0, .inr (10, [.ref a0])), (a0, .inr (0, [.ref m0, .ref w0])), (m0, .inr (3, [.ref m1, .int br])), (m1, .inl (K 0, 64, .inl fs)), (w0, .inl (K 0, 9, .inl fw)), (t0, .inr (9, [.ref t1, .ref t3, .ref t2, .ref l0, .int n, .int lt, .int nf, .int fi, k_8, k_9])), (t1, .inl (K 0, 56, .inl f1)), (t2, .inl (K 0, 6, .inl f2)), (t3, .inl (K 0, 24, .inl f3)), (l0, .inl (K 4, 6, .inr (.inr (.inr (.inr fl)))))] sz) ((fun u => [(r0, .inr (10, [.ref a0])), (a0, .inr (0, [.ref m0, .ref w0])), (m0, .inr (3, [.ref m1, .int (u.2.2.2.1 0)])), (m1, .inl (K 0, 64, .inl (u.2.1 0))), (w0, .inl (K 0, 9, .inl (u.2.1 1))), (t0, .inr (9, [.ref t1, .ref t3, .ref t2, .ref l0, .int n, .int lt, .int nf, .int fi, k_8, k_9])), (t1, .inl (K 0, 56, .inl f1)), (t2, .inl (K 0, 6, .inl f2)), (t3, .inl (K 0, 24, .inl f3)), (l0, .inl (K 4, 6, .inr (.inr (.inr (.inr fl)))))]) u) t) (va_A [(r0, .inr (10, [.ref a0])), (a0, .inr (0, [.ref m0, .ref w0])), (m0, .inr (3, [.ref m1, .int br])), (m1, .inl (K 0, 64, .inl fs)), (w0, .inl (K 0, 9, .inl fw)), (t0, .inr (9, [.ref t1, .ref t3, .ref t2, .ref l0, .int n, .int lt, .int nf, .int fi, k_8, k_9])), (t1, .inl (K 0, 56, .inl f1)), (t2, .inl (K 0, 6, .inl f2)), (t3, .inl (K 0, 24, .inl f3)), (l0, .inl (K 4, 6, .inr (.inr (.inr (.inr fl)))))] sz)) 0 0 (va_A [(r0, .inr (10, [.ref a0])), (a0, .inr (0, [.ref m0, .ref w0])), (m0, .inr (3, [.ref m1, .int br])), (m1, .inl (K 0, 64, .inl fs)), (w0, .inl (K 0, 9, .inl fw)), (t0, .inr (9, [.ref t1, .ref t3, .ref t2, .ref l0, .int n, .int lt, .int nf, .int fi, k_8, k_9])), (t1, .inl (K 0, 56, .inl f1)), (t2, .inl (K 0, 6, .inl f2)), (t3, .inl (K 0, 24, .inl f3)), (l0, .inl (K 4, 6, .inr (.inr (.inr (.inr fl)))))] sz) := by
  refine Met.ofW (cc := cX10_discords) (maxL := 5) (ret := (some .int)) (by decide +kernel) rfl ?_
  intro p e s m args below meth c s₁ B hml hv
  obtain ⟨rfl, ⟨hsz, hP, hK, hD0, hN⟩, hG, hPl, hRo⟩ := hv
  have hx := B.exec
  have hb := B.bytes
  have hr := B.returns
  have hts := atoms_spec (ws := wsX10_discords) B.pre
  have hown : s.vm.findClass RX10 = some m.cls := findClass_of_methodNamed B.named
  have hlocks := B.notSynchronized
  subst hsz
  have hD := hD0.self (sz := s.heap.size)
  generalize hAe : va_A [(r0, .inr (10, [.ref a0])), (a0, .inr (0, [.ref m0, .ref w0])), (m0, .inr (3, [.ref m1, .int br])), (m1, .inl (K 0, 64, .inl fs)), (w0, .inl (K 0, 9, .inl fw)), (t0, .inr (9, [.ref t1, .ref t3, .ref t2, .ref l0, .int n, .int lt, .int nf, .int fi, k_8, k_9])), (t1, .inl (K 0, 56, .inl f1)), (t2, .inl (K 0, 6, .inl f2)), (t3, .inl (K 0, 24, .inl f3)), (l0, .inl (K 4, 6, .inr (.inr (.inr (.inr fl)))))] s.heap.size = A at hD hG hPl hRo ⊢
  have hA : ∀ q : Nat, s.heap.size ≤ q → A q := fun q h => by rw [← hAe]; exact Or.inr h
  clear hAe
  have hS : va_S A s.heap s.heap [] := va_S.rf
  replace hP : va_P D vwCl [(r0, .inr (10, [.ref a0])), (a0, .inr (0, [.ref m0, .ref w0])), (m0, .inr (3, [.ref m1, .int br])), (m1, .inl (K 0, 64, .inl fs)), (w0, .inl (K 0, 9, .inl fw)), (t0, .inr (9, [.ref t1, .ref t3, .ref t2, .ref l0, .int n, .int lt, .int nf, .int fi, k_8, k_9])), (t1, .inl (K 0, 56, .inl f1)), (t2, .inl (K 0, 6, .inl f2)), (t3, .inl (K 0, 24, .inl f3)), (l0, .inl (K 4, 6, .inr (.inr (.inr (.inr fl)))))] s.heap := hP
  have hl := lv_entry [.ref r0, .ref t0] (n := 5) (Nat.le_of_ble_eq_true rfl)
  rw [lg_entry_eq]
  generalize (lg_sl [.ref r0, .ref t0] ++ List.replicate (5 - (lg_sl [.ref r0, .ref t0]).length) Slot.unset).toArray = ls at hl ⊢
  have hl : lv_has ls 5 [(0, .ref r0), (1, .ref t0)] := hl
  have hw0 : ∀ w ∈ wsX00, w ∈ wsX10_discords := fun w h => (List.mem_cons_of_mem _ (List.mem_append_left _ (List.mem_append_left _ (List.mem_append_right _ h))))
  have hw3 : ∀ w ∈ wsX30, w ∈ wsX10_discords := fun w h => (List.mem_cons_of_mem _ (List.mem_append_right _ h))
  have hw7 : ∀ w ∈ wsX70, w ∈ wsX10_discords := fun w h => (List.mem_cons_of_mem _ (List.mem_append_left _ (List.mem_append_right _ h)))
  have hw9 : ∀ w ∈ wsX90, w ∈ wsX10_discords := fun w h => (List.mem_cons_of_mem _ (List.mem_append_left _ (List.mem_append_left _ (List.mem_append_left _ (List.mem_append_left _ (List.mem_append_right _ h))))))
  have hw10 : ∀ w ∈ wsX100, w ∈ wsX10_discords := fun w h => (List.mem_cons_of_mem _ (List.mem_append_left _ (List.mem_append_left _ (List.mem_append_left _ (List.mem_append_right _ h)))))
  generalize hQ : MQ below _ _ s _ _ _ = Q
  have hE := E_w_discords.eq_def G br fs fw n lt nf fi f1 f2 f3 fl
  refine lv_iconst (v := 0) hx hb dX10_discords_0 (by decide +kernel) ?_
  refine lv_istore_n (lv' := [(2, .int 0), (0, .ref r0), (1, .ref t0)]) hx hb dX10_discords_1 rfl hl (by decide +kernel) rfl (fun ls hl => ?_)
  refine lv_iconst (v := 0) hx hb dX10_discords_2 (by decide +kernel) ?_
  refine lv_istore_n (lv' := [(3, .int 0), (2, .int 0), (0, .ref r0), (1, .ref t0)]) hx hb dX10_discords_3 rfl hl (by decide +kernel) rfl (fun ls hl => ?_)
  have lp_9691 : ∀ (nn_ : Nat) (v_8851 : Int32) (v_8852 : Int32) (v_8853 : Int32) (f_8854 : Nat → Int32) (f_8855 : Nat → Int32) (hv_8851 : 0 ≤ v_8851.toInt ∧ v_8851.toInt ≤ 8) (hv_8853 : 0 ≤ v_8853.toInt ∧ v_8853.toInt ≤ 1) (hn : (9 - v_8851.toInt : Int).toNat < nn_) (hE : E_w_discords G br fs fw n lt nf fi f1 f2 f3 fl = Lp (α := Int32 → Int32 → Int32 → (Nat → Int32) → (Nat → Int32) → (Int32 × Int32 × (Nat → Int32) × (Nat → Int32))) (E_w_discords_l4 G n lt nf f1 f2 fl) (fun _ _ _ _ _ => ((0, 0, fun _ => 0, fun _ => 0) : Int32 × Int32 × (Nat → Int32) × (Nat → Int32))) nn_ v_8851 v_8852 v_8853 f_8854 f_8855) (H : Heap) (locs : List Loc) (hP : va_P D vwCl [(r0, .inr (10, [.ref a0])), (a0, .inr (0, [.ref m0, .ref w0])), (m0, .inr (3, [.ref m1, .int v_8853])), (m1, .inl (K 0, 64, .inl f_8854)), (w0, .inl (K 0, 9, .inl f_8855)), (t0, .inr (9, [.ref t1, .ref t3, .ref t2, .ref l0, .int n, .int lt, .int nf, .int fi, k_8, k_9])), (t1, .inl (K 0, 56, .inl f1)), (t2, .inl (K 0, 6, .inl f2)), (t3, .inl (K 0, 24, .inl f3)), (l0, .inl (K 4, 6, .inr (.inr (.inr (.inr fl)))))] H) (hD : va_D A [(r0, .inr (10, [.ref a0])), (a0, .inr (0, [.ref m0, .ref w0])), (m0, .inr (3, [.ref m1, .int v_8853])), (m1, .inl (K 0, 64, .inl f_8854)), (w0, .inl (K 0, 9, .inl f_8855)), (t0, .inr (9, [.ref t1, .ref t3, .ref t2, .ref l0, .int n, .int lt, .int nf, .int fi, k_8, k_9])), (t1, .inl (K 0, 56, .inl f1)), (t2, .inl (K 0, 6, .inl f2)), (t3, .inl (K 0, 24, .inl f3)), (l0, .inl (K 4, 6, .inr (.inr (.inr (.inr fl)))))]) (hS : va_S A s.heap H locs) (ls : Array Slot) (hl : lv_has ls 5 [(3, .int v_8851), (2, .int v_8852), (0, .ref r0), (1, .ref t0)]), W p l e ({ frames := 3, cells := 0, slots := 0, locals := 81 }) s m (([.ref r0, .ref t0] : List Value).toArray) below meth c H locs 0 0 Q (F0 m 4 ls []) := by
    clear hE hP hD hS hl
    intro nn_
    induction nn_ with
    | zero =>
      intro v_8851 v_8852 v_8853 f_8854 f_8855 hv_8851 hv_8853 hn hE H locs hP hD hS ls hl
      exact absurd hn (Nat.not_lt_zero _)
    | succ nn_ ih_9692 =>
      intro v_8851 v_8852 v_8853 f_8854 f_8855 hv_8851 hv_8853 hn hE H locs hP hD hS ls hl
      replace hE : E_w_discords G br fs fw n lt nf fi f1 f2 f3 fl = E_w_discords_l4 G n lt nf f1 f2 fl (Lp (α := Int32 → Int32 → Int32 → (Nat → Int32) → (Nat → Int32) → (Int32 × Int32 × (Nat → Int32) × (Nat → Int32))) (E_w_discords_l4 G n lt nf f1 f2 fl) (fun _ _ _ _ _ => ((0, 0, fun _ => 0, fun _ => 0) : Int32 × Int32 × (Nat → Int32) × (Nat → Int32))) nn_) v_8851 v_8852 v_8853 f_8854 f_8855 := hE
      obtain ⟨rec_9691, hrec_9691⟩ : ∃ z9, z9 = Lp (α := Int32 → Int32 → Int32 → (Nat → Int32) → (Nat → Int32) → (Int32 × Int32 × (Nat → Int32) × (Nat → Int32))) (E_w_discords_l4 G n lt nf f1 f2 fl) (fun _ _ _ _ _ => ((0, 0, fun _ => 0, fun _ => 0) : Int32 × Int32 × (Nat → Int32) × (Nat → Int32))) nn_ := ⟨_, rfl⟩
      rw [← hrec_9691] at hE
      replace hE := hE.trans (E_w_discords_l4.eq_def _ _ _ _ _ _ _ _ _ _ _ _ _)
      refine lv_iload_n hx hb dX10_discords_4 rfl (lv_at hl 0 rfl) ?_
      refine lv_aload_n hx hb dX10_discords_5 rfl (lv_at hl 3 rfl) ?_
      refine va_getN (ci := 9) (v := .int n) (C := RX9) (T := TX9) (N := 10) hx hb hts hw9 hown hK hP 5 rfl rfl 4 (by decide +kernel) (nst_use hN 109 rfl) (fun _ h9 => h9) rfl dX10_discords_6 ?_
      refine lv_icmp_ge (tgt := 110) hx hb dX10_discords_9 (by decide +kernel) (fun c_9693 => ?_) (fun c_9693 => ?_)
      · have c_9693i := i_le (x := n.toInt) (y := v_8851.toInt) rfl rfl c_9693
        replace hE := hE.trans (if_pos c_9693)
        refine lv_iload_n hx hb dX10_discords_110 rfl (lv_at hl 1 rfl) ?_
        rw [← hQ]
        have hP9 := hP.sub (ws' := [(r0, .inr (10, [.ref a0])), (a0, .inr (0, [.ref m0, .ref w0])), (m0, .inr (3, [.ref m1, .int v_8853])), (m1, .inl (K 0, 64, .inl f_8854)), (w0, .inl (K 0, 9, .inl f_8855)), (t0, .inr (9, [.ref t1, .ref t3, .ref t2, .ref l0, .int n, .int lt, .int nf, .int fi, k_8, k_9])), (t1, .inl (K 0, 56, .inl f1)), (t2, .inl (K 0, 6, .inl f2)), (t3, .inl (K 0, 24, .inl f3)), (l0, .inl (K 4, 6, .inr (.inr (.inr (.inr fl)))))]) [0, 1, 2, 3, 4, 5, 6, 7, 8, 9] rfl
        have hD9 := hD.sub (ws' := [(r0, .inr (10, [.ref a0])), (a0, .inr (0, [.ref m0, .ref w0])), (m0, .inr (3, [.ref m1, .int v_8853])), (m1, .inl (K 0, 64, .inl f_8854)), (w0, .inl (K 0, 9, .inl f_8855)), (t0, .inr (9, [.ref t1, .ref t3, .ref t2, .ref l0, .int n, .int lt, .int nf, .int fi, k_8, k_9])), (t1, .inl (K 0, 56, .inl f1)), (t2, .inl (K 0, 6, .inl f2)), (t3, .inl (K 0, 24, .inl f3)), (l0, .inl (K 4, 6, .inr (.inr (.inr (.inr fl)))))]) [0, 1, 2, 3, 4, 5, 6, 7, 8, 9] (by decide +kernel) rfl
        exact W.iret (v := v_8852) hx hb hr (fun t ht hW => ⟨⟨v_8852, ((fun _ => 0, fun i => match i with | 0 => f_8854 | _ => f_8855, fun _ => fun _ => 0, fun i => match i with | _ => v_8853, fun _ => 0, fun _ => fun _ => none) : Su), rfl, ⟨(show 0 ≤ (v_8853 : Int32).toInt ∧ (v_8853 : Int32).toInt ≤ 1 by omega), hE.symm, trivial⟩, (⟨by rw [ht]; exact hP9, hD9⟩ : Wd D A _ t)⟩, hS.F ht⟩) hS.2.2 dX10_discords_111
      · have c_9693i := i_nle (x := n.toInt) (y := v_8851.toInt) rfl rfl c_9693
        replace hE := hE.trans (if_neg c_9693)
        refine lv_iload_n hx hb dX10_discords_12 rfl (lv_at hl 0 rfl) ?_
        refine lv_iconst (v := 1) hx hb dX10_discords_13 (by decide +kernel) ?_
        refine lv_iadd hx hb dX10_discords_14 ?_
        refine lv_topi (fun x_9694 ex_9694 => ?_)
        replace hE := hE.trans (Lt_in ex_9694)
        have hx_9694 : x_9694.toInt = (v_8851.toInt + 1) := by rw [ex_9694]; exact i_add rfl (show (1 : Int32).toInt = 1 from rfl) (by omega)
        refine lv_istore (lv' := [(4, .int x_9694), (3, .int v_8851), (2, .int v_8852), (0, .ref r0), (1, .ref t0)]) hx hb dX10_discords_15 hl (by decide +kernel) rfl (fun ls hl => ?_)
        have lp_10026 : ∀ (nn_ : Nat) (v_9858 : Int32) (v_9859 : Int32) (v_9860 : Int32) (f_9861 : Nat → Int32) (f_9862 : Nat → Int32) (hv_9858 : 1 ≤ v_9858.toInt ∧ v_9858.toInt ≤ 8) (hv_9860 : 0 ≤ v_9860.toInt ∧ v_9860.toInt ≤ 1) (hn : (9 - v_9858.toInt : Int).toNat < nn_) (hE : E_w_discords G br fs fw n lt nf fi f1 f2 f3 fl = Lp (α := Int32 → Int32 → Int32 → (Nat → Int32) → (Nat → Int32) → (Int32 × Int32 × (Nat → Int32) × (Nat → Int32))) (E_w_discords_l17 G n lt nf f1 f2 fl v_8851 rec_9691) (fun _ _ _ _ _ => ((0, 0, fun _ => 0, fun _ => 0) : Int32 × Int32 × (Nat → Int32) × (Nat → Int32))) nn_ v_9858 v_9859 v_9860 f_9861 f_9862) (H : Heap) (locs : List Loc) (hP : va_P D vwCl [(r0, .inr (10, [.ref a0])), (a0, .inr (0, [.ref m0, .ref w0])), (m0, .inr (3, [.ref m1, .int v_9860])), (m1, .inl (K 0, 64, .inl f_9861)), (w0, .inl (K 0, 9, .inl f_9862)), (t0, .inr (9, [.ref t1, .ref t3, .ref t2, .ref l0, .int n, .int lt, .int nf, .int fi, k_8, k_9])), (t1, .inl (K 0, 56, .inl f1)), (t2, .inl (K 0, 6, .inl f2)), (t3, .inl (K 0, 24, .inl f3)), (l0, .inl (K 4, 6, .inr (.inr (.inr (.inr fl)))))] H) (hD : va_D A [(r0, .inr (10, [.ref a0])), (a0, .inr (0, [.ref m0, .ref w0])), (m0, .inr (3, [.ref m1, .int v_9860])), (m1, .inl (K 0, 64, .inl f_9861)), (w0, .inl (K 0, 9, .inl f_9862)), (t0, .inr (9, [.ref t1, .ref t3, .ref t2, .ref l0, .int n, .int lt, .int nf, .int fi, k_8, k_9])), (t1, .inl (K 0, 56, .inl f1)), (t2, .inl (K 0, 6, .inl f2)), (t3, .inl (K 0, 24, .inl f3)), (l0, .inl (K 4, 6, .inr (.inr (.inr (.inr fl)))))]) (hS : va_S A s.heap H locs) (ls : Array Slot) (hl : lv_has ls 5 [(4, .int v_9858), (3, .int v_8851), (2, .int v_9859), (0, .ref r0), (1, .ref t0)]), W p l e ({ frames := 3, cells := 0, slots := 0, locals := 81 }) s m (([.ref r0, .ref t0] : List Value).toArray) below meth c H locs 0 0 Q (F0 m 17 ls []) := by
          clear hE hP hD hS hl
          intro nn_
          induction nn_ with
          | zero =>
            intro v_9858 v_9859 v_9860 f_9861 f_9862 hv_9858 hv_9860 hn hE H locs hP hD hS ls hl
            exact absurd hn (Nat.not_lt_zero _)
          | succ nn_ ih_10027 =>
            intro v_9858 v_9859 v_9860 f_9861 f_9862 hv_9858 hv_9860 hn hE H locs hP hD hS ls hl
            replace hE : E_w_discords G br fs fw n lt nf fi f1 f2 f3 fl = E_w_discords_l17 G n lt nf f1 f2 fl v_8851 rec_9691 (Lp (α := Int32 → Int32 → Int32 → (Nat → Int32) → (Nat → Int32) → (Int32 × Int32 × (Nat → Int32) × (Nat → Int32))) (E_w_discords_l17 G n lt nf f1 f2 fl v_8851 rec_9691) (fun _ _ _ _ _ => ((0, 0, fun _ => 0, fun _ => 0) : Int32 × Int32 × (Nat → Int32) × (Nat → Int32))) nn_) v_9858 v_9859 v_9860 f_9861 f_9862 := hE
            obtain ⟨rec_10026, hrec_10026⟩ : ∃ z9, z9 = Lp (α := Int32 → Int32 → Int32 → (Nat → Int32) → (Nat → Int32) → (Int32 × Int32 × (Nat → Int32) × (Nat → Int32))) (E_w_discords_l17 G n lt nf f1 f2 fl v_8851 rec_9691) (fun _ _ _ _ _ => ((0, 0, fun _ => 0, fun _ => 0) : Int32 × Int32 × (Nat → Int32) × (Nat → Int32))) nn_ := ⟨_, rfl⟩
            rw [← hrec_10026] at hE
            replace hE := hE.trans (E_w_discords_l17.eq_def _ _ _ _ _ _ _ _ _ _ _ _ _ _ _)
            refine lv_iload hx hb dX10_discords_17 (lv_at hl 0 rfl) ?_
            refine lv_aload_n hx hb dX10_discords_19 rfl (lv_at hl 4 rfl) ?_
            refine va_getN (ci := 9) (v := .int n) (C := RX9) (T := TX9) (N := 10) hx hb hts hw9 hown hK hP 5 rfl rfl 4 (by decide +kernel) (nst_use hN 109 rfl) (fun _ h9 => h9) rfl dX10_discords_20 ?_
            refine lv_icmp_ge (tgt := 104) hx hb dX10_discords_23 (by decide +kernel) (fun c_10028 => ?_) (fun c_10028 => ?_)
            · have c_10028i := i_le (x := n.toInt) (y := v_9858.toInt) rfl rfl c_10028
              replace hE := hE.trans (if_pos c_10028)
              obtain ⟨x_10029, ex_10029⟩ : ∃ y : Int32, y = v_8851 + Int32.ofInt 1 := ⟨_, rfl⟩
              replace hE := hE.trans (Lt_in ex_10029)
              have hx_10029 : x_10029.toInt = (v_8851.toInt + 1) := by rw [ex_10029]; exact i_add rfl (show (Int32.ofInt 1).toInt = 1 from rfl) (by omega)
              refine lv_iinc (v := x_10029) (lv' := [(3, .int x_10029), (4, .int v_9858), (2, .int v_9859), (0, .ref r0), (1, .ref t0)]) hx hb dX10_discords_104 hl (k := 1) rfl (by rw [ex_10029]) (by decide +kernel) rfl (fun ls hl => ?_)
              refine lv_goto (tgt := 4) hx hb dX10_discords_107 (by decide +kernel) ?_
              exact ih_9692 x_10029 v_9859 v_9860 f_9861 f_9862 (by rw [hx_10029]; omega) (by omega) (by omega) (hE.trans (by rw [hrec_9691])) _ _ hP hD hS ls (lv_sub hl [0, 2, 3, 4] rfl)
            · have c_10028i := i_nle (x := n.toInt) (y := v_9858.toInt) rfl rfl c_10028
              replace hE := hE.trans (if_neg c_10028)
              refine lv_aload_n hx hb dX10_discords_26 rfl (lv_at hl 4 rfl) ?_
              refine lv_iload_n hx hb dX10_discords_27 rfl (lv_at hl 1 rfl) ?_
              refine pci (va_runVN (As := [.int v_8851]) (rest := []) ⟨hx, hb, hml, hown, hts⟩ (w_sings l D K t0 v_8851 t1 (.ref t3) t2 (.ref l0) (.int n) (.int lt) (.int nf) (.int fi) k_8 k_9 f1 f2 H.size) ⟨va_cnB 1 hts gX10_discords_X9_sings_n80 rfl rfl rfl (nst_at hN 61 rfl) (hts _ mm_X10_discords_145) (by decide +kernel) ⟨Nat.le_of_ble_eq_true rfl, Nat.le_of_ble_eq_true rfl⟩, (hts _ mm_X10_discords_399), (hts _ mm_X10_discords_8)⟩ (mkV hK hN (hP.sub [5, 6, 7] rfl) (hD.sub [5, 6, 7] (by decide +kernel) rfl) (ci := 9) (q0 := 0) rfl rfl) rfl rfl hl.1 rfl (lv_room (Nat.le_of_ble_eq_true rfl)) dX10_discords_28 ⟨Nat.le_of_ble_eq_true rfl, Nat.le_of_ble_eq_true rfl⟩) (fun r_10030 hw => ?_)
              obtain ⟨h_10032, k_10031, -⟩ := hw
              replace hE := hE.trans (Lt_in k_10031)
              have j_10072 : ∀ (v_10067 : Int32) (v_10068 : Int32) (f_10069 : Nat → Int32) (f_10070 : Nat → Int32) (hv_10068 : 0 ≤ v_10068.toInt ∧ v_10068.toInt ≤ 1) (hE : E_w_discords G br fs fw n lt nf fi f1 f2 f3 fl = E_w_discords_j98 v_9858 rec_10026 v_10067 v_10068 f_10069 f_10070) (H : Heap) (locs : List Loc) (hP : va_P D vwCl [(r0, .inr (10, [.ref a0])), (a0, .inr (0, [.ref m0, .ref w0])), (m0, .inr (3, [.ref m1, .int v_10068])), (m1, .inl (K 0, 64, .inl f_10069)), (w0, .inl (K 0, 9, .inl f_10070)), (t0, .inr (9, [.ref t1, .ref t3, .ref t2, .ref l0, .int n, .int lt, .int nf, .int fi, k_8, k_9])), (t1, .inl (K 0, 56, .inl f1)), (t2, .inl (K 0, 6, .inl f2)), (t3, .inl (K 0, 24, .inl f3)), (l0, .inl (K 4, 6, .inr (.inr (.inr (.inr fl)))))] H) (hD : va_D A [(r0, .inr (10, [.ref a0])), (a0, .inr (0, [.ref m0, .ref w0])), (m0, .inr (3, [.ref m1, .int v_10068])), (m1, .inl (K 0, 64, .inl f_10069)), (w0, .inl (K 0, 9, .inl f_10070)), (t0, .inr (9, [.ref t1, .ref t3, .ref t2, .ref l0, .int n, .int lt, .int nf, .int fi, k_8, k_9])), (t1, .inl (K 0, 56, .inl f1)), (t2, .inl (K 0, 6, .inl f2)), (t3, .inl (K 0, 24, .inl f3)), (l0, .inl (K 4, 6, .inr (.inr (.inr (.inr fl)))))]) (hS : va_S A s.heap H locs) (ls : Array Slot) (hl : lv_has ls 5 [(4, .int v_9858), (3, .int v_8851), (2, .int v_10067), (0, .ref r0), (1, .ref t0)]), W p l e ({ frames := 3, cells := 0, slots := 0, locals := 81 }) s m (([.ref r0, .ref t0] : List Value).toArray) below meth c H locs 0 0 Q (F0 m 98 ls []) := by
                clear hE hP hD hS hl
                intro v_10067 v_10068 f_10069 f_10070 hv_10068 hE H locs hP hD hS ls hl
                replace hE := hE.trans (E_w_discords_j98.eq_def _ _ _ _ _ _)
                obtain ⟨x_10073, ex_10073⟩ : ∃ y : Int32, y = v_9858 + Int32.ofInt 1 := ⟨_, rfl⟩
                replace hE := hE.trans (Lt_in ex_10073)
                have hx_10073 : x_10073.toInt = (v_9858.toInt + 1) := by rw [ex_10073]; exact i_add rfl (show (Int32.ofInt 1).toInt = 1 from rfl) (by omega)
                refine lv_iinc (v := x_10073) (lv' := [(4, .int x_10073), (3, .int v_8851), (2, .int v_10067), (0, .ref r0), (1, .ref t0)]) hx hb dX10_discords_98 hl (k := 0) rfl (by rw [ex_10073]) (by decide +kernel) rfl (fun ls hl => ?_)
                refine lv_goto (tgt := 17) hx hb dX10_discords_101 (by decide +kernel) ?_
                exact ih_10027 x_10073 v_10067 v_10068 f_10069 f_10070 (by rw [hx_10073]; omega) (by omega) (by omega) (hE.trans (by rw [hrec_10026])) _ _ hP hD hS ls (lv_sub hl [0, 1, 2, 3, 4] rfl)
              refine lv_if_eq (tgt := 98) hx hb dX10_discords_31 (by decide +kernel) (fun c_10074 => ?_) (fun c_10074 => ?_)
              · have c_10074i := i_eq (x := r_10030.toInt) (y := 0) rfl rfl c_10074
                replace hE := hE.trans (if_pos c_10074)
                exact j_10072 v_9859 v_9860 f_9861 f_9862 (by omega) hE _ _ hP hD hS ls (lv_sub hl [0, 1, 2, 3, 4] rfl)
              · have c_10074i := i_ne (x := r_10030.toInt) (y := 0) rfl rfl c_10074
                replace hE := hE.trans (if_neg c_10074)
                refine lv_aload_n hx hb dX10_discords_34 rfl (lv_at hl 4 rfl) ?_
                refine lv_iload hx hb dX10_discords_35 (lv_at hl 0 rfl) ?_
                refine pci (va_runVN (As := [.int v_9858]) (rest := []) ⟨hx, hb, hml, hown, hts⟩ (w_sings l D K t0 v_9858 t1 (.ref t3) t2 (.ref l0) (.int n) (.int lt) (.int nf) (.int fi) k_8 k_9 f1 f2 H.size) ⟨va_cnB 1 hts gX10_discords_X9_sings_n80 rfl rfl rfl (nst_at hN 61 rfl) (hts _ mm_X10_discords_145) (by decide +kernel) ⟨Nat.le_of_ble_eq_true rfl, Nat.le_of_ble_eq_true rfl⟩, (hts _ mm_X10_discords_399), (hts _ mm_X10_discords_8)⟩ (mkV hK hN (hP.sub [5, 6, 7] rfl) (hD.sub [5, 6, 7] (by decide +kernel) rfl) (ci := 9) (q0 := 0) rfl rfl) rfl rfl hl.1 rfl (lv_room (Nat.le_of_ble_eq_true rfl)) dX10_discords_37 ⟨Nat.le_of_ble_eq_true rfl, Nat.le_of_ble_eq_true rfl⟩) (fun r_10075 hw => ?_)
                obtain ⟨h_10077, k_10076, -⟩ := hw
                replace hE := hE.trans (Lt_in k_10076)
                refine lv_if_eq (tgt := 98) hx hb dX10_discords_40 (by decide +kernel) (fun c_10078 => ?_) (fun c_10078 => ?_)
                · have c_10078i := i_eq (x := r_10075.toInt) (y := 0) rfl rfl c_10078
                  replace hE := hE.trans (if_pos c_10078)
                  exact j_10072 v_9859 v_9860 f_9861 f_9862 (by omega) hE _ _ hP hD hS ls (lv_sub hl [0, 1, 2, 3, 4] rfl)
                · have c_10078i := i_ne (x := r_10075.toInt) (y := 0) rfl rfl c_10078
                  replace hE := hE.trans (if_neg c_10078)
                  refine lv_aload_n hx hb dX10_discords_43 rfl (lv_at hl 4 rfl) ?_
                  refine lv_iload_n hx hb dX10_discords_44 rfl (lv_at hl 1 rfl) ?_
                  refine lv_iload hx hb dX10_discords_45 (lv_at hl 0 rfl) ?_
                  refine pci (va_runVN (As := [.int v_8851, .int v_9858]) (rest := []) ⟨hx, hb, hml, hown, hts⟩ (w_beside l D K t0 v_8851 v_9858 t1 (.ref t3) (.ref t2) (.ref l0) (.int n) (.int lt) (.int nf) (.int fi) k_8 k_9 f1 H.size) ⟨va_cnB 2 hts gX10_discords_X9_beside_n83 rfl rfl rfl (nst_at hN 62 rfl) (hts _ mm_X10_discords_145) (by decide +kernel) ⟨Nat.le_of_ble_eq_true rfl, Nat.le_of_ble_eq_true rfl⟩, (hts _ mm_X10_discords_619), (hts _ mm_X10_discords_49)⟩ (mkV hK hN (hP.sub [5, 6] rfl) (hD.sub [5, 6] (by decide +kernel) rfl) (ci := 9) (q0 := 0) rfl rfl) rfl rfl hl.1 rfl (lv_room (Nat.le_of_ble_eq_true rfl)) dX10_discords_47 ⟨Nat.le_of_ble_eq_true rfl, Nat.le_of_ble_eq_true rfl⟩) (fun r_10079 hw => ?_)
                  obtain ⟨h_10081, k_10080, -⟩ := hw
                  replace hE := hE.trans (Lt_in k_10080)
                  refine lv_if_eq (tgt := 98) hx hb dX10_discords_50 (by decide +kernel) (fun c_10082 => ?_) (fun c_10082 => ?_)
                  · have c_10082i := i_eq (x := r_10079.toInt) (y := 0) rfl rfl c_10082
                    replace hE := hE.trans (if_pos c_10082)
                    exact j_10072 v_9859 v_9860 f_9861 f_9862 (by omega) hE _ _ hP hD hS ls (lv_sub hl [0, 1, 2, 3, 4] rfl)
                  · have c_10082i := i_ne (x := r_10079.toInt) (y := 0) rfl rfl c_10082
                    replace hE := hE.trans (if_neg c_10082)
                    refine lv_aload_n hx hb dX10_discords_53 rfl (lv_at hl 3 rfl) ?_
                    refine va_get (ci := 10) (v := .ref a0) (C := RX10) (T := TX10) (N := 1) hx hb hts hw10 hown hK hP 0 rfl rfl 0 (by decide +kernel) (hts _ mm_X10_discords_269) (fun _ h9 => h9) rfl dX10_discords_54 ?_
                    refine lv_aload_n hx hb dX10_discords_57 rfl (lv_at hl 4 rfl) ?_
                    refine lv_iload_n hx hb dX10_discords_58 rfl (lv_at hl 1 rfl) ?_
                    refine lv_aload_n hx hb dX10_discords_59 rfl (lv_at hl 4 rfl) ?_
                    refine lv_iload_n hx hb dX10_discords_60 rfl (lv_at hl 1 rfl) ?_
                    refine lv_iconst (v := 5) hx hb dX10_discords_61 (by decide +kernel) ?_
                    refine pci (va_runVN (As := [.int v_8851, .int 5]) (rest := [.int v_8851, .ref t0, .ref a0]) ⟨hx, hb, hml, hown, hts⟩ (w_fact l D K t0 v_8851 5 t1 (.ref t3) (.ref t2) (.ref l0) (.int n) (.int lt) (.int nf) (.int fi) k_8 k_9 f1 H.size) ⟨va_cnB 2 hts gX10_discords_X9_fact_n24 rfl rfl rfl (nst_at hN 51 rfl) (hts _ mm_X10_discords_145) (by decide +kernel) ⟨Nat.le_of_ble_eq_true rfl, Nat.le_of_ble_eq_true rfl⟩, (hts _ mm_X10_discords_381), (hts _ mm_X10_discords_2)⟩ (mkV hK hN (hP.sub [5, 6] rfl) (hD.sub [5, 6] (by decide +kernel) rfl) (ci := 9) (q0 := 0) rfl rfl) rfl rfl hl.1 rfl (lv_room (Nat.le_of_ble_eq_true rfl)) dX10_discords_62 ⟨Nat.le_of_ble_eq_true rfl, Nat.le_of_ble_eq_true rfl⟩) (fun r_10083 hw => ?_)
                    obtain ⟨k_10084, -⟩ := hw
                    replace hE := hE.trans (Lt_in k_10084)
                    refine lv_iconst (v := 0) hx hb dX10_discords_65 (by decide +kernel) ?_
                    refine kcv (S := Su) (wr := [(r0, .inr (10, [.ref a0])), (m0, .inr (3, [.ref m1, .int v_9860])), (m1, .inl (K 0, 64, .inl f_9861)), (t3, .inl (K 0, 24, .inl f3)), (l0, .inl (K 4, 6, .inr (.inr (.inr (.inr fl)))))]) (va_runVN (As := [.ref t0, .int v_8851, .int r_10083, .int 0]) (rest := []) ⟨hx, hb, hml, hown, hts⟩ (w_face l D K a0 t0 v_8851 r_10083 0 (.ref m0) w0 f_9862 t1 (.ref t3) t2 (.ref l0) (.int n) (.int lt) (.int nf) (.int fi) k_8 k_9 f1 f2 H.size) ⟨va_cnB 4 hts gX10_discords_X0_face_n28 rfl rfl rfl (nst_at hN 52 rfl) (hts _ mm_X10_discords_151) (by decide +kernel) ⟨Nat.le_of_ble_eq_true rfl, Nat.le_of_ble_eq_true rfl⟩, (hts _ mm_X10_discords_404), (hts _ mm_X10_discords_10)⟩ (mkV hK hN (hP.sub [1, 4, 5, 6, 7] rfl) (hD.sub [1, 4, 5, 6, 7] (by decide +kernel) rfl) (ci := 0) (q0 := 0) rfl rfl) rfl rfl hl.1 rfl (lv_room (Nat.le_of_ble_eq_true rfl)) dX10_discords_66 ⟨Nat.le_of_ble_eq_true rfl, Nat.le_of_ble_eq_true rfl⟩) hP hD hS hA [1, 4, 5, 6, 7] [0, 2, 3, 8, 9] rfl rfl (by decide +kernel) (by decide +kernel) (fun u_10086 H locs hw hP0 hD0 hS0 => ?_)
                    clear hP hD hS
                    have hP := hP0
                    have hD := hD0
                    have hS := hS0
                    clear hP0 hD0 hS0
                    replace hP : va_P D vwCl [(r0, .inr (10, [.ref a0])), (m0, .inr (3, [.ref m1, .int v_9860])), (m1, .inl (K 0, 64, .inl f_9861)), (t3, .inl (K 0, 24, .inl f3)), (l0, .inl (K 4, 6, .inr (.inr (.inr (.inr fl))))), (a0, .inr (0, [.ref m0, .ref w0])), (w0, .inl (K 0, 9, .inl (u_10086.2.1 0))), (t0, .inr (9, [.ref t1, .ref t3, .ref t2, .ref l0, .int n, .int lt, .int nf, .int fi, k_8, k_9])), (t1, .inl (K 0, 56, .inl f1)), (t2, .inl (K 0, 6, .inl f2))] H := hP
                    replace hD : va_D A [(r0, .inr (10, [.ref a0])), (m0, .inr (3, [.ref m1, .int v_9860])), (m1, .inl (K 0, 64, .inl f_9861)), (t3, .inl (K 0, 24, .inl f3)), (l0, .inl (K 4, 6, .inr (.inr (.inr (.inr fl))))), (a0, .inr (0, [.ref m0, .ref w0])), (w0, .inl (K 0, 9, .inl (u_10086.2.1 0))), (t0, .inr (9, [.ref t1, .ref t3, .ref t2, .ref l0, .int n, .int lt, .int nf, .int fi, k_8, k_9])), (t1, .inl (K 0, 56, .inl f1)), (t2, .inl (K 0, 6, .inl f2))] := hD
                    obtain ⟨k_10087, -⟩ := hw
                    replace hE := hE.trans (Lt_in k_10087)
                    refine lv_aload_n hx hb dX10_discords_69 rfl (lv_at hl 3 rfl) ?_
                    refine va_get (ci := 10) (v := .ref a0) (C := RX10) (T := TX10) (N := 1) hx hb hts hw10 hown hK hP 0 rfl rfl 0 (by decide +kernel) (hts _ mm_X10_discords_269) (fun _ h9 => h9) rfl dX10_discords_70 ?_
                    refine lv_aload_n hx hb dX10_discords_73 rfl (lv_at hl 4 rfl) ?_
                    refine lv_iload hx hb dX10_discords_74 (lv_at hl 0 rfl) ?_
                    refine lv_iconst (v := 0) hx hb dX10_discords_76 (by decide +kernel) ?_
                    refine pci (va_runVN (As := [.int v_9858, .int 0]) (rest := [.ref a0]) ⟨hx, hb, hml, hown, hts⟩ (w_fact l D K t0 v_9858 0 t1 (.ref t3) (.ref t2) (.ref l0) (.int n) (.int lt) (.int nf) (.int fi) k_8 k_9 f1 H.size) ⟨va_cnB 2 hts gX10_discords_X9_fact_n24 rfl rfl rfl (nst_at hN 51 rfl) (hts _ mm_X10_discords_145) (by decide +kernel) ⟨Nat.le_of_ble_eq_true rfl, Nat.le_of_ble_eq_true rfl⟩, (hts _ mm_X10_discords_381), (hts _ mm_X10_discords_2)⟩ (mkV hK hN (hP.sub [7, 8] rfl) (hD.sub [7, 8] (by decide +kernel) rfl) (ci := 9) (q0 := 0) rfl rfl) rfl rfl hl.1 rfl (lv_room (Nat.le_of_ble_eq_true rfl)) dX10_discords_77 ⟨Nat.le_of_ble_eq_true rfl, Nat.le_of_ble_eq_true rfl⟩) (fun r_10088 hw => ?_)
                    obtain ⟨k_10089, -⟩ := hw
                    replace hE := hE.trans (Lt_in k_10089)
                    refine kcv (S := Su) (wr := [(r0, .inr (10, [.ref a0])), (m0, .inr (3, [.ref m1, .int v_9860])), (m1, .inl (K 0, 64, .inl f_9861)), (t3, .inl (K 0, 24, .inl f3)), (l0, .inl (K 4, 6, .inr (.inr (.inr (.inr fl))))), (t0, .inr (9, [.ref t1, .ref t3, .ref t2, .ref l0, .int n, .int lt, .int nf, .int fi, k_8, k_9])), (t1, .inl (K 0, 56, .inl f1)), (t2, .inl (K 0, 6, .inl f2))]) (va_runVN (As := [.int r_10088]) (rest := []) ⟨hx, hb, hml, hown, hts⟩ (w_facing l D K a0 r_10088 (.ref m0) w0 (u_10086.2.1 0) H.size) ⟨va_cnB 1 hts gX10_discords_X0_facing_n87 rfl rfl rfl (nst_at hN 63 rfl) (hts _ mm_X10_discords_151) (by decide +kernel) ⟨Nat.le_of_ble_eq_true rfl, Nat.le_of_ble_eq_true rfl⟩, (hts _ mm_X10_discords_624), (hts _ mm_X10_discords_50)⟩ (mkV hK hN (hP.sub [5, 6] rfl) (hD.sub [5, 6] (by decide +kernel) rfl) (ci := 0) (q0 := 0) rfl rfl) rfl rfl hl.1 rfl (lv_room (Nat.le_of_ble_eq_true rfl)) dX10_discords_80 ⟨Nat.le_of_ble_eq_true rfl, Nat.le_of_ble_eq_true rfl⟩) hP hD hS hA [5, 6] [0, 1, 2, 3, 4, 7, 8, 9] rfl rfl (by decide +kernel) (by decide +kernel) (fun u_10091 H locs hw hP0 hD0 hS0 => ?_)
                    clear hP hD hS
                    have hP := hP0
                    have hD := hD0
                    have hS := hS0
                    clear hP0 hD0 hS0
                    replace hP : va_P D vwCl [(r0, .inr (10, [.ref a0])), (m0, .inr (3, [.ref m1, .int v_9860])), (m1, .inl (K 0, 64, .inl f_9861)), (t3, .inl (K 0, 24, .inl f3)), (l0, .inl (K 4, 6, .inr (.inr (.inr (.inr fl))))), (t0, .inr (9, [.ref t1, .ref t3, .ref t2, .ref l0, .int n, .int lt, .int nf, .int fi, k_8, k_9])), (t1, .inl (K 0, 56, .inl f1)), (t2, .inl (K 0, 6, .inl f2)), (a0, .inr (0, [.ref m0, .ref w0])), (w0, .inl (K 0, 9, .inl (u_10091.2.1 0)))] H := hP
                    replace hD : va_D A [(r0, .inr (10, [.ref a0])), (m0, .inr (3, [.ref m1, .int v_9860])), (m1, .inl (K 0, 64, .inl f_9861)), (t3, .inl (K 0, 24, .inl f3)), (l0, .inl (K 4, 6, .inr (.inr (.inr (.inr fl))))), (t0, .inr (9, [.ref t1, .ref t3, .ref t2, .ref l0, .int n, .int lt, .int nf, .int fi, k_8, k_9])), (t1, .inl (K 0, 56, .inl f1)), (t2, .inl (K 0, 6, .inl f2)), (a0, .inr (0, [.ref m0, .ref w0])), (w0, .inl (K 0, 9, .inl (u_10091.2.1 0)))] := hD
                    obtain ⟨k_10092, -⟩ := hw
                    replace hE := hE.trans (Lt_in k_10092)
                    refine lv_iload_n hx hb dX10_discords_83 rfl (lv_at hl 2 rfl) ?_
                    refine lv_aload_n hx hb dX10_discords_84 rfl (lv_at hl 3 rfl) ?_
                    refine va_get (ci := 10) (v := .ref a0) (C := RX10) (T := TX10) (N := 1) hx hb hts hw10 hown hK hP 0 rfl rfl 0 (by decide +kernel) (hts _ mm_X10_discords_269) (fun _ h9 => h9) rfl dX10_discords_85 ?_
                    refine lv_aload_n hx hb dX10_discords_88 rfl (lv_at hl 4 rfl) ?_
                    refine pcq (va_runVN (As := []) (rest := [.ref a0, .int v_9859]) ⟨hx, hb, hml, hown, hts⟩ (w_lawInForce l D K g L G t0 (.ref t1) (.ref t3) (.ref t2) l0 (.int n) lt nf (.int fi) k_8 k_9 fl H.size (by first | omega | decide) zfl) ⟨va_cnB 0 hts gX10_discords_X9_lawInForce_n32 rfl rfl rfl (nst_at hN 53 rfl) (hts _ mm_X10_discords_145) (by decide +kernel) ⟨Nat.le_of_ble_eq_true rfl, Nat.le_of_ble_eq_true rfl⟩, (hts _ mm_X10_discords_406), (hts _ mm_X10_discords_11)⟩ (mkVY hK hN (hP.sub [5, 4] rfl) (hD.sub [5, 4] (by decide +kernel) rfl) (ci := 9) (q0 := 0) rfl rfl (fun U hU hW => ⟨Gl.at hG hS hW hU (fun _ h9 => h9.elim), Pool.at hPl hS hU (fun _ h9 => h9.elim), Ro.heap hU (Ro.nil)⟩)) rfl rfl hl.1 rfl (lv_room (Nat.le_of_ble_eq_true rfl)) dX10_discords_89 ⟨Nat.le_of_ble_eq_true rfl, Nat.le_of_ble_eq_true rfl⟩) (fun r_10093 hw => ?_)
                    obtain ⟨hw, k_10095⟩ := hw
                    have hr_10093 : InLo L r_10093 := hw
                    replace hE := hE.trans (Lt_in k_10095)
                    refine lv_iconst (v := 2) hx hb dX10_discords_92 (by decide +kernel) ?_
                    rcases r_10093 with _ | q_10096
                    · replace hE := hE.trans Oc_n
                      have hl : lv_has ls 5 [(4, .int v_9858), (3, .int v_8851), (2, .int v_9859), (0, .ref r0), (1, .ref t0)] := hl
                      refine W.eq (g2 := F0 m 93 ls [.int 2, .null, .ref a0, .int v_9859]) rfl ?_
                      refine kci (S := Su) (wr := [(r0, .inr (10, [.ref a0])), (t3, .inl (K 0, 24, .inl f3)), (l0, .inl (K 4, 6, .inr (.inr (.inr (.inr fl))))), (t0, .inr (9, [.ref t1, .ref t3, .ref t2, .ref l0, .int n, .int lt, .int nf, .int fi, k_8, k_9])), (t1, .inl (K 0, 56, .inl f1)), (t2, .inl (K 0, 6, .inl f2))]) (va_runVN (As := [.null, .int 2]) (rest := [.int v_9859]) ⟨hx, hb, hml, hown, hts⟩ (w_told_n l D K g L G a0 2 m0 w0 m1 v_9860 f_9861 (u_10091.2.1 0) H.size (by first | omega | decide) (by first | omega | decide)) ⟨va_cnB 2 hts gX10_discords_X0_told_n36 rfl rfl rfl (nst_at hN 54 rfl) (hts _ mm_X10_discords_151) (by decide +kernel) ⟨Nat.le_of_ble_eq_true rfl, Nat.le_of_ble_eq_true rfl⟩, (hts _ mm_X10_discords_411), (hts _ mm_X10_discords_13)⟩ (mkVY hK hN (hP.sub [8, 1, 2, 9] rfl) (hD.sub [8, 1, 2, 9] (by decide +kernel) rfl) (ci := 0) (q0 := 0) rfl rfl (fun U hU hW => ⟨Gl.at hG hS hW hU (fun q h => va_free hD hS hA [8, 1, 2, 9] rfl q h), Pool.at hPl hS hU (fun q h => va_free hD hS hA [8, 1, 2, 9] rfl q h), Ro.heap hU (Ro.nil)⟩)) rfl rfl hl.1 rfl (lv_room (Nat.le_of_ble_eq_true rfl)) dX10_discords_93 ⟨Nat.le_of_ble_eq_true rfl, Nat.le_of_ble_eq_true rfl⟩) hP hD hS hA [8, 1, 2, 9] [0, 3, 4, 5, 6, 7] rfl rfl (by decide +kernel) (by decide +kernel) (fun r_10097 u_10098 H locs hw hP0 hD0 hS0 => ?_)
                      clear hP hD hS
                      have hP := hP0
                      have hD := hD0
                      have hS := hS0
                      clear hP0 hD0 hS0
                      replace hP : va_P D vwCl [(r0, .inr (10, [.ref a0])), (t3, .inl (K 0, 24, .inl f3)), (l0, .inl (K 4, 6, .inr (.inr (.inr (.inr fl))))), (t0, .inr (9, [.ref t1, .ref t3, .ref t2, .ref l0, .int n, .int lt, .int nf, .int fi, k_8, k_9])), (t1, .inl (K 0, 56, .inl f1)), (t2, .inl (K 0, 6, .inl f2)), (a0, .inr (0, [.ref m0, .ref w0])), (m0, .inr (3, [.ref m1, .int v_9860])), (m1, .inl (K 0, 64, .inl f_9861)), (w0, .inl (K 0, 9, .inl (u_10091.2.1 0)))] H := hP
                      replace hD : va_D A [(r0, .inr (10, [.ref a0])), (t3, .inl (K 0, 24, .inl f3)), (l0, .inl (K 4, 6, .inr (.inr (.inr (.inr fl))))), (t0, .inr (9, [.ref t1, .ref t3, .ref t2, .ref l0, .int n, .int lt, .int nf, .int fi, k_8, k_9])), (t1, .inl (K 0, 56, .inl f1)), (t2, .inl (K 0, 6, .inl f2)), (a0, .inr (0, [.ref m0, .ref w0])), (m0, .inr (3, [.ref m1, .int v_9860])), (m1, .inl (K 0, 64, .inl f_9861)), (w0, .inl (K 0, 9, .inl (u_10091.2.1 0)))] := hD
                      obtain ⟨h_10100, k_10099, -⟩ := hw
                      replace hE := hE.trans (Lt_in k_10099)
                      refine lv_iadd hx hb dX10_discords_96 ?_
                      refine lv_topi (fun x_10101 ex_10101 => ?_)
                      replace hE := hE.trans (Lt_in ex_10101)
                      refine lv_istore_n (lv' := [(2, .int x_10101), (4, .int v_9858), (3, .int v_8851), (0, .ref r0), (1, .ref t0)]) hx hb dX10_discords_97 rfl hl (by decide +kernel) rfl (fun ls hl => ?_)
                      exact j_10072 x_10101 v_9860 f_9861 (u_10091.2.1 0) (by omega) hE _ _ (hP.sub [0, 6, 7, 8, 9, 3, 4, 5, 1, 2] rfl) (hD.sub [0, 6, 7, 8, 9, 3, 4, 5, 1, 2] (by decide +kernel) rfl) hS ls (lv_sub hl [1, 2, 0, 3, 4] rfl)
                    · replace hE := hE.trans Oc_s
                      have hl : lv_has ls 5 [(4, .int v_9858), (3, .int v_8851), (2, .int v_9859), (0, .ref r0), (1, .ref t0)] := hl
                      refine W.eq (g2 := F0 m 93 ls [.int 2, .ref q_10096, .ref a0, .int v_9859]) rfl ?_
                      refine kci (S := Su) (wr := [(r0, .inr (10, [.ref a0])), (t3, .inl (K 0, 24, .inl f3)), (l0, .inl (K 4, 6, .inr (.inr (.inr (.inr fl))))), (t0, .inr (9, [.ref t1, .ref t3, .ref t2, .ref l0, .int n, .int lt, .int nf, .int fi, k_8, k_9])), (t1, .inl (K 0, 56, .inl f1)), (t2, .inl (K 0, 6, .inl f2))]) (va_runVN (As := [.ref q_10096, .int 2]) (rest := [.int v_9859]) ⟨hx, hb, hml, hown, hts⟩ (w_told l D K g L G a0 q_10096 2 m0 w0 m1 v_9860 f_9861 (u_10091.2.1 0) H.size hr_10093 (by first | omega | decide) (by first | omega | decide)) ⟨va_cnB 2 hts gX10_discords_X0_told_n36 rfl rfl rfl (nst_at hN 54 rfl) (hts _ mm_X10_discords_151) (by decide +kernel) ⟨Nat.le_of_ble_eq_true rfl, Nat.le_of_ble_eq_true rfl⟩, (hts _ mm_X10_discords_411), (hts _ mm_X10_discords_13)⟩ (mkVY hK hN (hP.sub [8, 1, 2, 9] rfl) (hD.sub [8, 1, 2, 9] (by decide +kernel) rfl) (ci := 0) (q0 := 0) rfl rfl (fun U hU hW => ⟨Gl.at hG hS hW hU (fun q h => va_free hD hS hA [8, 1, 2, 9] rfl q h), Pool.at hPl hS hU (fun q h => va_free hD hS hA [8, 1, 2, 9] rfl q h), Ro.heap hU (Ro.nil)⟩)) rfl rfl hl.1 rfl (lv_room (Nat.le_of_ble_eq_true rfl)) dX10_discords_93 ⟨Nat.le_of_ble_eq_true rfl, Nat.le_of_ble_eq_true rfl⟩) hP hD hS hA [8, 1, 2, 9] [0, 3, 4, 5, 6, 7] rfl rfl (by decide +kernel) (by decide +kernel) (fun r_10102 u_10103 H locs hw hP0 hD0 hS0 => ?_)
                      clear hP hD hS
                      have hP := hP0
                      have hD := hD0
                      have hS := hS0
                      clear hP0 hD0 hS0
                      replace hP : va_P D vwCl [(r0, .inr (10, [.ref a0])), (t3, .inl (K 0, 24, .inl f3)), (l0, .inl (K 4, 6, .inr (.inr (.inr (.inr fl))))), (t0, .inr (9, [.ref t1, .ref t3, .ref t2, .ref l0, .int n, .int lt, .int nf, .int fi, k_8, k_9])), (t1, .inl (K 0, 56, .inl f1)), (t2, .inl (K 0, 6, .inl f2)), (a0, .inr (0, [.ref m0, .ref w0])), (m0, .inr (3, [.ref m1, .int (u_10103.2.2.2.1 0)])), (m1, .inl (K 0, 64, .inl (u_10103.2.1 0))), (w0, .inl (K 0, 9, .inl (u_10091.2.1 0)))] H := hP
                      replace hD : va_D A [(r0, .inr (10, [.ref a0])), (t3, .inl (K 0, 24, .inl f3)), (l0, .inl (K 4, 6, .inr (.inr (.inr (.inr fl))))), (t0, .inr (9, [.ref t1, .ref t3, .ref t2, .ref l0, .int n, .int lt, .int nf, .int fi, k_8, k_9])), (t1, .inl (K 0, 56, .inl f1)), (t2, .inl (K 0, 6, .inl f2)), (a0, .inr (0, [.ref m0, .ref w0])), (m0, .inr (3, [.ref m1, .int (u_10103.2.2.2.1 0)])), (m1, .inl (K 0, 64, .inl (u_10103.2.1 0))), (w0, .inl (K 0, 9, .inl (u_10091.2.1 0)))] := hD
                      obtain ⟨h_10106, k_10104, k_10105, -⟩ := hw
                      replace hE := (hE.trans (Lt2_in k_10105)).trans (Lt2_in rfl)
                      refine lv_iadd hx hb dX10_discords_96 ?_
                      refine lv_topi (fun x_10107 ex_10107 => ?_)
                      replace hE := hE.trans (Lt_in ex_10107)
                      refine lv_istore_n (lv' := [(2, .int x_10107), (4, .int v_9858), (3, .int v_8851), (0, .ref r0), (1, .ref t0)]) hx hb dX10_discords_97 rfl hl (by decide +kernel) rfl (fun ls hl => ?_)
                      exact j_10072 x_10107 (u_10103.2.2.2.1 0) (u_10103.2.1 0) (u_10091.2.1 0) (by omega) hE _ _ (hP.sub [0, 6, 7, 8, 9, 3, 4, 5, 1, 2] rfl) (hD.sub [0, 6, 7, 8, 9, 3, 4, 5, 1, 2] (by decide +kernel) rfl) hS ls (lv_sub hl [1, 2, 0, 3, 4] rfl)
        exact lp_10026 ((9 - (x_9694 : Int32).toInt : Int).toNat + 1) x_9694 v_8852 v_8853 f_8854 f_8855 (by rw [hx_9694]; omega) (by omega) (Nat.lt_succ_self _) hE _ _ hP hD hS ls (lv_sub hl [0, 1, 2, 3, 4] rfl)
  exact lp_9691 ((9 - (0 : Int32).toInt : Int).toNat + 1) 0 0 br fs fw (by decide +kernel) (by omega) (Nat.lt_succ_self _) hE _ _ hP hD hS ls (lv_sub hl [0, 1, 2, 3] rfl)
set_option maxRecDepth 100000 in
noncomputable def E_w_burnDown_l2 (G : Nat → LC) (n : Int32) (lt : Int32) (nf : Int32) (f2 : Nat → Int32) (fl : Nat → Option Nat) (rec_954 : Int32 → Int32 → (Nat → Int32) → (Nat → Int32) → (Nat → Int32) → (Int32 × (Nat → Int32) × (Nat → Int32) × (Nat → Int32))) (v_862 : Int32) (v_863 : Int32) (f_864 : Nat → Int32) (f_865 : Nat → Int32) (f_866 : Nat → Int32) : Int32 × (Nat → Int32) × (Nat → Int32) × (Nat → Int32) :=
  if n ≤ v_862 then (((v_863, f_864, f_865, f_866) : Int32 × (Nat → Int32) × (Nat → Int32) × (Nat → Int32))) else (Lt (E_w_fact v_862 5 f_866) (fun r_957 => Lt (E_w_face v_862 r_957 0 f_865 f_866 f2) (fun u_960_2_1_0 => Lt (E_w_fact v_862 6 f_866) (fun r_962 => Lt (r_962 + r_957 : Int32) (fun x_964 => Lt (if (x_964 : Int32) < (9999 : Int32) then (x_964 : Int32) else (9999 : Int32) : Int32) (fun x_965 => Lt (E_w_put_6 v_862 x_965 f_866) (fun u_967_2_1_0 => Lt (E_w_lawInForce lt nf fl) (fun r_970 => Oc r_970 (Lt (E_w_told_n 0 v_863 f_864 u_960_2_1_0) (fun r_974 => Lt (r_957 - r_974 : Int32) (fun x_978 => Lt (if (0 : Int32) < (x_978 : Int32) then (x_978 : Int32) else (0 : Int32) : Int32) (fun x_979 => Lt (E_w_put_5 v_862 x_979 u_967_2_1_0) (fun u_981_2_1_0 => Lt (v_862 + Int32.ofInt 1 : Int32) (fun x_984 => rec_954 x_984 v_863 f_864 u_960_2_1_0 u_981_2_1_0)))))) (fun q_973 => Lt2 (E_w_told (G q_973).1 (G q_973).2.1 (G q_973).2.2.1 (G q_973).2.2.2.1 (G q_973).2.2.2.2.1 0 v_863 f_864 u_960_2_1_0) (fun r_985 q0_r_985 => Lt2 q0_r_985 (fun u_986_2_2_2_1_0 u_986_2_1_0 => Lt (r_957 - r_985 : Int32) (fun x_990 => Lt (if (0 : Int32) < (x_990 : Int32) then (x_990 : Int32) else (0 : Int32) : Int32) (fun x_991 => Lt (E_w_put_5 v_862 x_991 u_967_2_1_0) (fun u_993_2_1_0 => Lt (v_862 + Int32.ofInt 1 : Int32) (fun x_996 => rec_954 x_996 u_986_2_2_2_1_0 u_986_2_1_0 u_960_2_1_0 u_993_2_1_0)))))))))))))))
set_option maxRecDepth 100000 in
noncomputable def E_w_burnDown (G : Nat → LC) (br : Int32) (fs : Nat → Int32) (fw : Nat → Int32) (n : Int32) (lt : Int32) (nf : Int32) (fi : Int32) (f1 : Nat → Int32) (f2 : Nat → Int32) (f3 : Nat → Int32) (fl : Nat → Option Nat) : Int32 × (Nat → Int32) × (Nat → Int32) × (Nat → Int32) :=
  Lp (α := Int32 → Int32 → (Nat → Int32) → (Nat → Int32) → (Nat → Int32) → (Int32 × (Nat → Int32) × (Nat → Int32) × (Nat → Int32))) (E_w_burnDown_l2 G n lt nf f2 fl) (fun _ _ _ _ _ => ((0, fun _ => 0, fun _ => 0, fun _ => 0) : Int32 × (Nat → Int32) × (Nat → Int32) × (Nat → Int32))) ((9 - (0 : Int32).toInt : Int).toNat + 1) 0 br fs fw f1
set_option maxHeartbeats 4000000 in
set_option maxRecDepth 100000 in
theorem w_burnDown (l : Launch) (D : va_G) (K : Nat → ClassId) (g : Nat → Nat) (L : Nat → Prop) (G : Nat → LC) (r0 : Nat) (t0 : Nat) (a0 : Nat) (m0 : Nat) (w0 : Nat) (m1 : Nat) (br : Int32) (fs : Nat → Int32) (fw : Nat → Int32) (t1 : Nat) (t3 : Nat) (t2 : Nat) (l0 : Nat) (n : Int32) (lt : Int32) (nf : Int32) (fi : Int32) (k_8 : Value) (k_9 : Value) (f1 : Nat → Int32) (gt : Nat → Int32) (f2 : Nat → Int32) (f3 : Nat → Int32) (gc : Nat → Int32) (fl : Nat → Option Nat) (sz : Nat) (zn : 0 ≤ n.toInt ∧ n.toInt ≤ 8) (zlt : 0 ≤ lt.toInt ∧ lt.toInt ≤ 6) (zbr : 0 ≤ br.toInt ∧ br.toInt ≤ 1) (zgt : FzC gt f1) (zgc : FzH gc f3) (zfl : InL L fl) : Met l yX10_burnDown wsX10_burnDown ({ frames := 3, cells := 0, slots := 0, locals := 81 }) (va_Pc [.ref r0, .ref t0] (PreY D K [(r0, .inr (10, [.ref a0])), (a0, .inr (0, [.ref m0, .ref w0])), (m0, .inr (3, [.ref m1, .int br])), (m1, .inl (K 0, 64, .inl fs)), (w0, .inl (K 0, 9, .inl fw)), (t0, .inr (9, [.ref t1, .ref t3, .ref t2, .ref l0, .int n, .int lt, .int nf, .int fi, k_8, k_9])), (t1, .inl (K 0, 56, .inl f1)), (t2, .inl (K 0, 6, .inl f2)), (t3, .inl (K 0, 24, .inl f3)), (l0, .inl (K 4, 6, .inr (.inr (.inr (.inr fl)))))] [] sz g L G (va_A [(r0, .inr (10, [.ref a0])), (a0, .inr (0, [.ref m0, .ref w0])), (m0, .inr (3, [.ref m1, .int br])), (m1, .inl (K 0, 64, .inl fs)), (w0, .inl (K 0, 9, .inl fw)), (t0, .inr (9, [.ref t1, .ref t3, .ref t2, .ref l0, .int n, .int lt, .int nf, .int fi, k_8, k_9])), (t1, .inl (K 0, 56, .inl f1)), (t2, .inl (K 0, 6, .inl f2)), (t3, .inl (K 0, 24, .inl f3)), (l0, .inl (K 4, 6, .inr (.inr (.inr (.inr fl)))))] sz))) (va_Qv (S := Su) (fun (u : Su) => (0 ≤ (u.2.2.2.1 0).toInt ∧ (u.2.2.2.1 0).toInt ≤ 1) ∧ (FzC gt (u.2.1 2)) ∧ (((u.2.2.2.1 0), (u.2.1 0), (u.2.1 1), (u.2.1 2)) = E_w_burnDown G br fs fw n lt nf fi f1 f2 f3 fl) ∧ True) (fun u t => Wd D (va_A [(r0, .inr (10, [.ref a0])), (a0, .inr (0, [.ref m0, .ref w0])), (m0, .inr (3, [.ref m1, .int br])), (m1, .inl (K 0, 64, .inl fs)), (w0, .inl (K 0, 9, .inl fw)), (t0, .inr (9, [.ref t1, .ref t3, .ref t2, .ref l0, .int n, .int lt, .int nf, .int fi, k_8, k_9])), (t1, .inl (K 0, 56, .inl f1)), (t2, .inl (K 0, 6, .inl f2)), (t3, .inl (K 0, 24, .inl f3)), (l0, .inl (K 4, 6, .inr (.inr (.inr (.inr fl)))))] sz) ((fun u => [(r0, .inr (10, [.ref a0])), (a0, .inr (0, [.ref m0, .ref w0])), (m0, .inr (3, [.ref m1, .int (u.2.2.2.1 0)])), (m1, .inl (K 0, 64, .inl (u.2.1 0))), (w0, .inl (K 0, 9, .inl (u.2.1 1))), (t0, .inr (9, [.ref t1, .ref t3, .ref t2, .ref l0, .int n, .int lt, .int nf, .int fi, k_8, k_9])), (t1, .inl (K 0, 56, .inl (u.2.1 2))), (t2, .inl (K 0, 6, .inl f2)), (t3, .inl (K 0, 24, .inl f3)), (l0, .inl (K 4, 6, .inr (.inr (.inr (.inr fl)))))]) u) t) (va_A [(r0, .inr (10, [.ref a0])), (a0, .inr (0, [.ref m0, .ref w0])), (m0, .inr (3, [.ref m1, .int br])), (m1, .inl (K 0, 64, .inl fs)), (w0, .inl (K 0, 9, .inl fw)), (t0, .inr (9, [.ref t1, .ref t3, .ref t2, .ref l0, .int n, .int lt, .int nf, .int fi, k_8, k_9])), (t1, .inl (K 0, 56, .inl f1)), (t2, .inl (K 0, 6, .inl f2)), (t3, .inl (K 0, 24, .inl f3)), (l0, .inl (K 4, 6, .inr (.inr (.inr (.inr fl)))))] sz)) 0 0 (va_A [(r0, .inr (10, [.ref a0])), (a0, .inr (0, [.ref m0, .ref w0])), (m0, .inr (3, [.ref m1, .int br])), (m1, .inl (K 0, 64, .inl fs)), (w0, .inl (K 0, 9, .inl fw)), (t0, .inr (9, [.ref t1, .ref t3, .ref t2, .ref l0, .int n, .int lt, .int nf, .int fi, k_8, k_9])), (t1, .inl (K 0, 56, .inl f1)), (t2, .inl (K 0, 6, .inl f2)), (t3, .inl (K 0, 24, .inl f3)), (l0, .inl (K 4, 6, .inr (.inr (.inr (.inr fl)))))] sz) := by
  refine Met.ofW (cc := cX10_burnDown) (maxL := 4) (ret := none) (by decide +kernel) rfl ?_
  intro p e s m args below meth c s₁ B hml hv
  obtain ⟨rfl, ⟨hsz, hP, hK, hD0, hN⟩, hG, hPl, hRo⟩ := hv
  have hx := B.exec
  have hb := B.bytes
  have hr := B.returns
  have hts := atoms_spec (ws := wsX10_burnDown) B.pre
  have hown : s.vm.findClass RX10 = some m.cls := findClass_of_methodNamed B.named
  have hlocks := B.notSynchronized
  subst hsz
  have hD := hD0.self (sz := s.heap.size)
  generalize hAe : va_A [(r0, .inr (10, [.ref a0])), (a0, .inr (0, [.ref m0, .ref w0])), (m0, .inr (3, [.ref m1, .int br])), (m1, .inl (K 0, 64, .inl fs)), (w0, .inl (K 0, 9, .inl fw)), (t0, .inr (9, [.ref t1, .ref t3, .ref t2, .ref l0, .int n, .int lt, .int nf, .int fi, k_8, k_9])), (t1, .inl (K 0, 56, .inl f1)), (t2, .inl (K 0, 6, .inl f2)), (t3, .inl (K 0, 24, .inl f3)), (l0, .inl (K 4, 6, .inr (.inr (.inr (.inr fl)))))] s.heap.size = A at hD hG hPl hRo ⊢
  have hA : ∀ q : Nat, s.heap.size ≤ q → A q := fun q h => by rw [← hAe]; exact Or.inr h
  clear hAe
  have hS : va_S A s.heap s.heap [] := va_S.rf
  replace hP : va_P D vwCl [(r0, .inr (10, [.ref a0])), (a0, .inr (0, [.ref m0, .ref w0])), (m0, .inr (3, [.ref m1, .int br])), (m1, .inl (K 0, 64, .inl fs)), (w0, .inl (K 0, 9, .inl fw)), (t0, .inr (9, [.ref t1, .ref t3, .ref t2, .ref l0, .int n, .int lt, .int nf, .int fi, k_8, k_9])), (t1, .inl (K 0, 56, .inl f1)), (t2, .inl (K 0, 6, .inl f2)), (t3, .inl (K 0, 24, .inl f3)), (l0, .inl (K 4, 6, .inr (.inr (.inr (.inr fl)))))] s.heap := hP
  have hl := lv_entry [.ref r0, .ref t0] (n := 4) (Nat.le_of_ble_eq_true rfl)
  rw [lg_entry_eq]
  generalize (lg_sl [.ref r0, .ref t0] ++ List.replicate (4 - (lg_sl [.ref r0, .ref t0]).length) Slot.unset).toArray = ls at hl ⊢
  have hl : lv_has ls 4 [(0, .ref r0), (1, .ref t0)] := hl
  have hw0 : ∀ w ∈ wsX00, w ∈ wsX10_burnDown := fun w h => (List.mem_cons_of_mem _ (List.mem_append_left _ (List.mem_append_left _ (List.mem_append_right _ h))))
  have hw3 : ∀ w ∈ wsX30, w ∈ wsX10_burnDown := fun w h => (List.mem_cons_of_mem _ (List.mem_append_right _ h))
  have hw7 : ∀ w ∈ wsX70, w ∈ wsX10_burnDown := fun w h => (List.mem_cons_of_mem _ (List.mem_append_left _ (List.mem_append_right _ h)))
  have hw9 : ∀ w ∈ wsX90, w ∈ wsX10_burnDown := fun w h => (List.mem_cons_of_mem _ (List.mem_append_left _ (List.mem_append_left _ (List.mem_append_left _ (List.mem_append_left _ (List.mem_append_right _ h))))))
  have hw10 : ∀ w ∈ wsX100, w ∈ wsX10_burnDown := fun w h => (List.mem_cons_of_mem _ (List.mem_append_left _ (List.mem_append_left _ (List.mem_append_left _ (List.mem_append_right _ h)))))
  generalize hQ : MQ below _ _ s _ _ _ = Q
  have hE := E_w_burnDown.eq_def G br fs fw n lt nf fi f1 f2 f3 fl
  refine lv_iconst (v := 0) hx hb dX10_burnDown_0 (by decide +kernel) ?_
  refine lv_istore_n (lv' := [(2, .int 0), (0, .ref r0), (1, .ref t0)]) hx hb dX10_burnDown_1 rfl hl (by decide +kernel) rfl (fun ls hl => ?_)
  have lp_954 : ∀ (nn_ : Nat) (v_862 : Int32) (v_863 : Int32) (f_864 : Nat → Int32) (f_865 : Nat → Int32) (f_866 : Nat → Int32) (hv_862 : 0 ≤ v_862.toInt ∧ v_862.toInt ≤ 8) (hv_863 : 0 ≤ v_863.toInt ∧ v_863.toInt ≤ 1) (hf_866_0 : FzC gt f_866) (hn : (9 - v_862.toInt : Int).toNat < nn_) (hE : E_w_burnDown G br fs fw n lt nf fi f1 f2 f3 fl = Lp (α := Int32 → Int32 → (Nat → Int32) → (Nat → Int32) → (Nat → Int32) → (Int32 × (Nat → Int32) × (Nat → Int32) × (Nat → Int32))) (E_w_burnDown_l2 G n lt nf f2 fl) (fun _ _ _ _ _ => ((0, fun _ => 0, fun _ => 0, fun _ => 0) : Int32 × (Nat → Int32) × (Nat → Int32) × (Nat → Int32))) nn_ v_862 v_863 f_864 f_865 f_866) (H : Heap) (locs : List Loc) (hP : va_P D vwCl [(r0, .inr (10, [.ref a0])), (a0, .inr (0, [.ref m0, .ref w0])), (m0, .inr (3, [.ref m1, .int v_863])), (m1, .inl (K 0, 64, .inl f_864)), (w0, .inl (K 0, 9, .inl f_865)), (t0, .inr (9, [.ref t1, .ref t3, .ref t2, .ref l0, .int n, .int lt, .int nf, .int fi, k_8, k_9])), (t1, .inl (K 0, 56, .inl f_866)), (t2, .inl (K 0, 6, .inl f2)), (t3, .inl (K 0, 24, .inl f3)), (l0, .inl (K 4, 6, .inr (.inr (.inr (.inr fl)))))] H) (hD : va_D A [(r0, .inr (10, [.ref a0])), (a0, .inr (0, [.ref m0, .ref w0])), (m0, .inr (3, [.ref m1, .int v_863])), (m1, .inl (K 0, 64, .inl f_864)), (w0, .inl (K 0, 9, .inl f_865)), (t0, .inr (9, [.ref t1, .ref t3, .ref t2, .ref l0, .int n, .int lt, .int nf, .int fi, k_8, k_9])), (t1, .inl (K 0, 56, .inl f_866)), (t2, .inl (K 0, 6, .inl f2)), (t3, .inl (K 0, 24, .inl f3)), (l0, .inl (K 4, 6, .inr (.inr (.inr (.inr fl)))))]) (hS : va_S A s.heap H locs) (ls : Array Slot) (hl : lv_has ls 4 [(2, .int v_862), (0, .ref r0), (1, .ref t0)]), W p l e ({ frames := 3, cells := 0, slots := 0, locals := 81 }) s m (([.ref r0, .ref t0] : List Value).toArray) below meth c H locs 0 0 Q (F0 m 2 ls []) := by
    clear hE hP hD hS hl
    intro nn_
    induction nn_ with
    | zero =>
      intro v_862 v_863 f_864 f_865 f_866 hv_862 hv_863 hf_866_0 hn hE H locs hP hD hS ls hl
      exact absurd hn (Nat.not_lt_zero _)
    | succ nn_ ih_955 =>
      intro v_862 v_863 f_864 f_865 f_866 hv_862 hv_863 hf_866_0 hn hE H locs hP hD hS ls hl
      replace hE : E_w_burnDown G br fs fw n lt nf fi f1 f2 f3 fl = E_w_burnDown_l2 G n lt nf f2 fl (Lp (α := Int32 → Int32 → (Nat → Int32) → (Nat → Int32) → (Nat → Int32) → (Int32 × (Nat → Int32) × (Nat → Int32) × (Nat → Int32))) (E_w_burnDown_l2 G n lt nf f2 fl) (fun _ _ _ _ _ => ((0, fun _ => 0, fun _ => 0, fun _ => 0) : Int32 × (Nat → Int32) × (Nat → Int32) × (Nat → Int32))) nn_) v_862 v_863 f_864 f_865 f_866 := hE
      obtain ⟨rec_954, hrec_954⟩ : ∃ z9, z9 = Lp (α := Int32 → Int32 → (Nat → Int32) → (Nat → Int32) → (Nat → Int32) → (Int32 × (Nat → Int32) × (Nat → Int32) × (Nat → Int32))) (E_w_burnDown_l2 G n lt nf f2 fl) (fun _ _ _ _ _ => ((0, fun _ => 0, fun _ => 0, fun _ => 0) : Int32 × (Nat → Int32) × (Nat → Int32) × (Nat → Int32))) nn_ := ⟨_, rfl⟩
      rw [← hrec_954] at hE
      replace hE := hE.trans (E_w_burnDown_l2.eq_def _ _ _ _ _ _ _ _ _ _ _ _)
      refine lv_iload_n hx hb dX10_burnDown_2 rfl (lv_at hl 0 rfl) ?_
      refine lv_aload_n hx hb dX10_burnDown_3 rfl (lv_at hl 2 rfl) ?_
      refine va_getN (ci := 9) (v := .int n) (C := RX9) (T := TX9) (N := 10) hx hb hts hw9 hown hK hP 5 rfl rfl 4 (by decide +kernel) (nst_use hN 109 rfl) (fun _ h9 => h9) rfl dX10_burnDown_4 ?_
      refine lv_icmp_ge (tgt := 80) hx hb dX10_burnDown_7 (by decide +kernel) (fun c_956 => ?_) (fun c_956 => ?_)
      · have c_956i := i_le (x := n.toInt) (y := v_862.toInt) rfl rfl c_956
        replace hE := hE.trans (if_pos c_956)
        rw [← hQ]
        have hP9 := hP.sub (ws' := [(r0, .inr (10, [.ref a0])), (a0, .inr (0, [.ref m0, .ref w0])), (m0, .inr (3, [.ref m1, .int v_863])), (m1, .inl (K 0, 64, .inl f_864)), (w0, .inl (K 0, 9, .inl f_865)), (t0, .inr (9, [.ref t1, .ref t3, .ref t2, .ref l0, .int n, .int lt, .int nf, .int fi, k_8, k_9])), (t1, .inl (K 0, 56, .inl f_866)), (t2, .inl (K 0, 6, .inl f2)), (t3, .inl (K 0, 24, .inl f3)), (l0, .inl (K 4, 6, .inr (.inr (.inr (.inr fl)))))]) [0, 1, 2, 3, 4, 5, 6, 7, 8, 9] rfl
        have hD9 := hD.sub (ws' := [(r0, .inr (10, [.ref a0])), (a0, .inr (0, [.ref m0, .ref w0])), (m0, .inr (3, [.ref m1, .int v_863])), (m1, .inl (K 0, 64, .inl f_864)), (w0, .inl (K 0, 9, .inl f_865)), (t0, .inr (9, [.ref t1, .ref t3, .ref t2, .ref l0, .int n, .int lt, .int nf, .int fi, k_8, k_9])), (t1, .inl (K 0, 56, .inl f_866)), (t2, .inl (K 0, 6, .inl f2)), (t3, .inl (K 0, 24, .inl f3)), (l0, .inl (K 4, 6, .inr (.inr (.inr (.inr fl)))))]) [0, 1, 2, 3, 4, 5, 6, 7, 8, 9] (by decide +kernel) rfl
        exact W.vret hx hb hr (fun t ht hW => ⟨⟨((fun _ => 0, fun i => match i with | 0 => f_864 | 1 => f_865 | _ => f_866, fun _ => fun _ => 0, fun i => match i with | _ => v_863, fun _ => 0, fun _ => fun _ => none) : Su), rfl, ⟨(show 0 ≤ (v_863 : Int32).toInt ∧ (v_863 : Int32).toInt ≤ 1 by omega), hf_866_0, hE.symm, trivial⟩, (⟨by rw [ht]; exact hP9, hD9⟩ : Wd D A _ t)⟩, hS.F ht⟩) hS.2.2 dX10_burnDown_80
      · have c_956i := i_nle (x := n.toInt) (y := v_862.toInt) rfl rfl c_956
        replace hE := hE.trans (if_neg c_956)
        refine lv_aload_n hx hb dX10_burnDown_10 rfl (lv_at hl 2 rfl) ?_
        refine lv_iload_n hx hb dX10_burnDown_11 rfl (lv_at hl 0 rfl) ?_
        refine lv_iconst (v := 5) hx hb dX10_burnDown_12 (by decide +kernel) ?_
        refine pci (va_runVN (As := [.int v_862, .int 5]) (rest := []) ⟨hx, hb, hml, hown, hts⟩ (w_fact l D K t0 v_862 5 t1 (.ref t3) (.ref t2) (.ref l0) (.int n) (.int lt) (.int nf) (.int fi) k_8 k_9 f_866 H.size) ⟨va_cnB 2 hts gX10_burnDown_X9_fact_n24 rfl rfl rfl (nst_at hN 51 rfl) (hts _ mm_X10_burnDown_145) (by decide +kernel) ⟨Nat.le_of_ble_eq_true rfl, Nat.le_of_ble_eq_true rfl⟩, (hts _ mm_X10_burnDown_381), (hts _ mm_X10_burnDown_2)⟩ (mkV hK hN (hP.sub [5, 6] rfl) (hD.sub [5, 6] (by decide +kernel) rfl) (ci := 9) (q0 := 0) rfl rfl) rfl rfl hl.1 rfl (lv_room (Nat.le_of_ble_eq_true rfl)) dX10_burnDown_13 ⟨Nat.le_of_ble_eq_true rfl, Nat.le_of_ble_eq_true rfl⟩) (fun r_957 hw => ?_)
        obtain ⟨k_958, -⟩ := hw
        replace hE := hE.trans (Lt_in k_958)
        refine lv_istore_n (lv' := [(3, .int r_957), (2, .int v_862), (0, .ref r0), (1, .ref t0)]) hx hb dX10_burnDown_16 rfl hl (by decide +kernel) rfl (fun ls hl => ?_)
        refine lv_aload_n hx hb dX10_burnDown_17 rfl (lv_at hl 2 rfl) ?_
        refine va_get (ci := 10) (v := .ref a0) (C := RX10) (T := TX10) (N := 1) hx hb hts hw10 hown hK hP 0 rfl rfl 0 (by decide +kernel) (hts _ mm_X10_burnDown_269) (fun _ h9 => h9) rfl dX10_burnDown_18 ?_
        refine lv_aload_n hx hb dX10_burnDown_21 rfl (lv_at hl 3 rfl) ?_
        refine lv_iload_n hx hb dX10_burnDown_22 rfl (lv_at hl 1 rfl) ?_
        refine lv_iload_n hx hb dX10_burnDown_23 rfl (lv_at hl 0 rfl) ?_
        refine lv_iconst (v := 0) hx hb dX10_burnDown_24 (by decide +kernel) ?_
        refine kcv (S := Su) (wr := [(r0, .inr (10, [.ref a0])), (m0, .inr (3, [.ref m1, .int v_863])), (m1, .inl (K 0, 64, .inl f_864)), (t3, .inl (K 0, 24, .inl f3)), (l0, .inl (K 4, 6, .inr (.inr (.inr (.inr fl)))))]) (va_runVN (As := [.ref t0, .int v_862, .int r_957, .int 0]) (rest := []) ⟨hx, hb, hml, hown, hts⟩ (w_face l D K a0 t0 v_862 r_957 0 (.ref m0) w0 f_865 t1 (.ref t3) t2 (.ref l0) (.int n) (.int lt) (.int nf) (.int fi) k_8 k_9 f_866 f2 H.size) ⟨va_cnB 4 hts gX10_burnDown_X0_face_n28 rfl rfl rfl (nst_at hN 52 rfl) (hts _ mm_X10_burnDown_151) (by decide +kernel) ⟨Nat.le_of_ble_eq_true rfl, Nat.le_of_ble_eq_true rfl⟩, (hts _ mm_X10_burnDown_404), (hts _ mm_X10_burnDown_10)⟩ (mkV hK hN (hP.sub [1, 4, 5, 6, 7] rfl) (hD.sub [1, 4, 5, 6, 7] (by decide +kernel) rfl) (ci := 0) (q0 := 0) rfl rfl) rfl rfl hl.1 rfl (lv_room (Nat.le_of_ble_eq_true rfl)) dX10_burnDown_25 ⟨Nat.le_of_ble_eq_true rfl, Nat.le_of_ble_eq_true rfl⟩) hP hD hS hA [1, 4, 5, 6, 7] [0, 2, 3, 8, 9] rfl rfl (by decide +kernel) (by decide +kernel) (fun u_960 H locs hw hP0 hD0 hS0 => ?_)
        clear hP hD hS
        have hP := hP0
        have hD := hD0
        have hS := hS0
        clear hP0 hD0 hS0
        replace hP : va_P D vwCl [(r0, .inr (10, [.ref a0])), (m0, .inr (3, [.ref m1, .int v_863])), (m1, .inl (K 0, 64, .inl f_864)), (t3, .inl (K 0, 24, .inl f3)), (l0, .inl (K 4, 6, .inr (.inr (.inr (.inr fl))))), (a0, .inr (0, [.ref m0, .ref w0])), (w0, .inl (K 0, 9, .inl (u_960.2.1 0))), (t0, .inr (9, [.ref t1, .ref t3, .ref t2, .ref l0, .int n, .int lt, .int nf, .int fi, k_8, k_9])), (t1, .inl (K 0, 56, .inl f_866)), (t2, .inl (K 0, 6, .inl f2))] H := hP
        replace hD : va_D A [(r0, .inr (10, [.ref a0])), (m0, .inr (3, [.ref m1, .int v_863])), (m1, .inl (K 0, 64, .inl f_864)), (t3, .inl (K 0, 24, .inl f3)), (l0, .inl (K 4, 6, .inr (.inr (.inr (.inr fl))))), (a0, .inr (0, [.ref m0, .ref w0])), (w0, .inl (K 0, 9, .inl (u_960.2.1 0))), (t0, .inr (9, [.ref t1, .ref t3, .ref t2, .ref l0, .int n, .int lt, .int nf, .int fi, k_8, k_9])), (t1, .inl (K 0, 56, .inl f_866)), (t2, .inl (K 0, 6, .inl f2))] := hD
        obtain ⟨k_961, -⟩ := hw
        replace hE := hE.trans (Lt_in k_961)
        refine lv_aload_n hx hb dX10_burnDown_28 rfl (lv_at hl 3 rfl) ?_
        refine lv_iload_n hx hb dX10_burnDown_29 rfl (lv_at hl 1 rfl) ?_
        refine lv_bipush (v := 6) hx hb dX10_burnDown_30 (by decide +kernel) ?_
        refine lv_sipush (v := 9999) hx hb dX10_burnDown_32 (by decide +kernel) ?_
        refine lv_aload_n hx hb dX10_burnDown_35 rfl (lv_at hl 3 rfl) ?_
        refine lv_iload_n hx hb dX10_burnDown_36 rfl (lv_at hl 1 rfl) ?_
        refine lv_bipush (v := 6) hx hb dX10_burnDown_37 (by decide +kernel) ?_
        refine pci (va_runVN (As := [.int v_862, .int 6]) (rest := [.int 9999, .int 6, .int v_862, .ref t0]) ⟨hx, hb, hml, hown, hts⟩ (w_fact l D K t0 v_862 6 t1 (.ref t3) (.ref t2) (.ref l0) (.int n) (.int lt) (.int nf) (.int fi) k_8 k_9 f_866 H.size) ⟨va_cnB 2 hts gX10_burnDown_X9_fact_n24 rfl rfl rfl (nst_at hN 51 rfl) (hts _ mm_X10_burnDown_145) (by decide +kernel) ⟨Nat.le_of_ble_eq_true rfl, Nat.le_of_ble_eq_true rfl⟩, (hts _ mm_X10_burnDown_381), (hts _ mm_X10_burnDown_2)⟩ (mkV hK hN (hP.sub [7, 8] rfl) (hD.sub [7, 8] (by decide +kernel) rfl) (ci := 9) (q0 := 0) rfl rfl) rfl rfl hl.1 rfl (lv_room (Nat.le_of_ble_eq_true rfl)) dX10_burnDown_39 ⟨Nat.le_of_ble_eq_true rfl, Nat.le_of_ble_eq_true rfl⟩) (fun r_962 hw => ?_)
        obtain ⟨k_963, -⟩ := hw
        replace hE := hE.trans (Lt_in k_963)
        refine lv_iload_n hx hb dX10_burnDown_42 rfl (lv_at hl 0 rfl) ?_
        refine lv_iadd hx hb dX10_burnDown_43 ?_
        refine lv_topi (fun x_964 ex_964 => ?_)
        replace hE := hE.trans (Lt_in ex_964)
        refine va_mmin hx hb (hml.trans hl.1.symm) hown (hts _ mm_X10_burnDown_600) (hts _ mm_X10_burnDown_426) (hts _ mm_X10_burnDown_157) (hts _ mm_X10_burnDown_427) (Nat.le_of_ble_eq_true rfl) (Nat.le_of_ble_eq_true rfl) (Nat.le_of_ble_eq_true rfl) (Nat.le_of_ble_eq_true rfl) dX10_burnDown_44 ?_
        refine lv_topi (fun x_965 ex_965 => ?_)
        replace hE := hE.trans (Lt_in ex_965)
        have hx_965 : (9999 ≤ x_964.toInt ∧ x_965.toInt = 9999) ∨ (x_964.toInt < 9999 ∧ x_965.toInt = x_964.toInt) := by rw [ex_965]; exact i_min (show (9999 : Int32).toInt = 9999 from rfl) rfl
        replace hx_965 : x_965.toInt ≤ x_964.toInt ∧ x_965.toInt ≤ 9999 := by omega
        refine kcv (S := Su) (wr := [(r0, .inr (10, [.ref a0])), (m0, .inr (3, [.ref m1, .int v_863])), (m1, .inl (K 0, 64, .inl f_864)), (t3, .inl (K 0, 24, .inl f3)), (l0, .inl (K 4, 6, .inr (.inr (.inr (.inr fl))))), (a0, .inr (0, [.ref m0, .ref w0])), (w0, .inl (K 0, 9, .inl (u_960.2.1 0))), (t2, .inl (K 0, 6, .inl f2))]) (va_runVN (As := [.int v_862, .int 6, .int x_965]) (rest := []) ⟨hx, hb, hml, hown, hts⟩ (w_put_6 l D K t0 v_862 x_965 t1 (.ref t3) (.ref t2) (.ref l0) (.int n) (.int lt) (.int nf) (.int fi) k_8 k_9 f_866 gt H.size hf_866_0) ⟨va_cnB 3 hts gX10_burnDown_X9_put_n45 rfl rfl rfl (nst_at hN 55 rfl) (hts _ mm_X10_burnDown_145) (by decide +kernel) ⟨Nat.le_of_ble_eq_true rfl, Nat.le_of_ble_eq_true rfl⟩, (hts _ mm_X10_burnDown_388), (hts _ mm_X10_burnDown_5)⟩ (mkV hK hN (hP.sub [7, 8] rfl) (hD.sub [7, 8] (by decide +kernel) rfl) (ci := 9) (q0 := 0) rfl rfl) rfl rfl hl.1 rfl (lv_room (Nat.le_of_ble_eq_true rfl)) dX10_burnDown_47 ⟨Nat.le_of_ble_eq_true rfl, Nat.le_of_ble_eq_true rfl⟩) hP hD hS hA [7, 8] [0, 1, 2, 3, 4, 5, 6, 9] rfl rfl (by decide +kernel) (by decide +kernel) (fun u_967 H locs hw hP0 hD0 hS0 => ?_)
        clear hP hD hS
        have hP := hP0
        have hD := hD0
        have hS := hS0
        clear hP0 hD0 hS0
        replace hP : va_P D vwCl [(r0, .inr (10, [.ref a0])), (m0, .inr (3, [.ref m1, .int v_863])), (m1, .inl (K 0, 64, .inl f_864)), (t3, .inl (K 0, 24, .inl f3)), (l0, .inl (K 4, 6, .inr (.inr (.inr (.inr fl))))), (a0, .inr (0, [.ref m0, .ref w0])), (w0, .inl (K 0, 9, .inl (u_960.2.1 0))), (t2, .inl (K 0, 6, .inl f2)), (t0, .inr (9, [.ref t1, .ref t3, .ref t2, .ref l0, .int n, .int lt, .int nf, .int fi, k_8, k_9])), (t1, .inl (K 0, 56, .inl (u_967.2.1 0)))] H := hP
        replace hD : va_D A [(r0, .inr (10, [.ref a0])), (m0, .inr (3, [.ref m1, .int v_863])), (m1, .inl (K 0, 64, .inl f_864)), (t3, .inl (K 0, 24, .inl f3)), (l0, .inl (K 4, 6, .inr (.inr (.inr (.inr fl))))), (a0, .inr (0, [.ref m0, .ref w0])), (w0, .inl (K 0, 9, .inl (u_960.2.1 0))), (t2, .inl (K 0, 6, .inl f2)), (t0, .inr (9, [.ref t1, .ref t3, .ref t2, .ref l0, .int n, .int lt, .int nf, .int fi, k_8, k_9])), (t1, .inl (K 0, 56, .inl (u_967.2.1 0)))] := hD
        obtain ⟨k_968, k_969, -⟩ := hw
        replace hE := hE.trans (Lt_in k_969)
        refine lv_aload_n hx hb dX10_burnDown_50 rfl (lv_at hl 3 rfl) ?_
        refine lv_iload_n hx hb dX10_burnDown_51 rfl (lv_at hl 1 rfl) ?_
        refine lv_iconst (v := 5) hx hb dX10_burnDown_52 (by decide +kernel) ?_
        refine lv_iconst (v := 0) hx hb dX10_burnDown_53 (by decide +kernel) ?_
        refine lv_iload_n hx hb dX10_burnDown_54 rfl (lv_at hl 0 rfl) ?_
        refine lv_aload_n hx hb dX10_burnDown_55 rfl (lv_at hl 2 rfl) ?_
        refine va_get (ci := 10) (v := .ref a0) (C := RX10) (T := TX10) (N := 1) hx hb hts hw10 hown hK hP 0 rfl rfl 0 (by decide +kernel) (hts _ mm_X10_burnDown_269) (fun _ h9 => h9) rfl dX10_burnDown_56 ?_
        refine lv_aload_n hx hb dX10_burnDown_59 rfl (lv_at hl 3 rfl) ?_
        refine pcq (va_runVN (As := []) (rest := [.ref a0, .int r_957, .int 0, .int 5, .int v_862, .ref t0]) ⟨hx, hb, hml, hown, hts⟩ (w_lawInForce l D K g L G t0 (.ref t1) (.ref t3) (.ref t2) l0 (.int n) lt nf (.int fi) k_8 k_9 fl H.size (by first | omega | decide) zfl) ⟨va_cnB 0 hts gX10_burnDown_X9_lawInForce_n32 rfl rfl rfl (nst_at hN 53 rfl) (hts _ mm_X10_burnDown_145) (by decide +kernel) ⟨Nat.le_of_ble_eq_true rfl, Nat.le_of_ble_eq_true rfl⟩, (hts _ mm_X10_burnDown_406), (hts _ mm_X10_burnDown_11)⟩ (mkVY hK hN (hP.sub [8, 4] rfl) (hD.sub [8, 4] (by decide +kernel) rfl) (ci := 9) (q0 := 0) rfl rfl (fun U hU hW => ⟨Gl.at hG hS hW hU (fun _ h9 => h9.elim), Pool.at hPl hS hU (fun _ h9 => h9.elim), Ro.heap hU (Ro.nil)⟩)) rfl rfl hl.1 rfl (lv_room (Nat.le_of_ble_eq_true rfl)) dX10_burnDown_60 ⟨Nat.le_of_ble_eq_true rfl, Nat.le_of_ble_eq_true rfl⟩) (fun r_970 hw => ?_)
        obtain ⟨hw, k_972⟩ := hw
        have hr_970 : InLo L r_970 := hw
        replace hE := hE.trans (Lt_in k_972)
        refine lv_iconst (v := 0) hx hb dX10_burnDown_63 (by decide +kernel) ?_
        rcases r_970 with _ | q_973
        · replace hE := hE.trans Oc_n
          have hl : lv_has ls 4 [(3, .int r_957), (2, .int v_862), (0, .ref r0), (1, .ref t0)] := hl
          refine W.eq (g2 := F0 m 64 ls [.int 0, .null, .ref a0, .int r_957, .int 0, .int 5, .int v_862, .ref t0]) rfl ?_
          refine kci (S := Su) (wr := [(r0, .inr (10, [.ref a0])), (t3, .inl (K 0, 24, .inl f3)), (l0, .inl (K 4, 6, .inr (.inr (.inr (.inr fl))))), (t2, .inl (K 0, 6, .inl f2)), (t0, .inr (9, [.ref t1, .ref t3, .ref t2, .ref l0, .int n, .int lt, .int nf, .int fi, k_8, k_9])), (t1, .inl (K 0, 56, .inl (u_967.2.1 0)))]) (va_runVN (As := [.null, .int 0]) (rest := [.int r_957, .int 0, .int 5, .int v_862, .ref t0]) ⟨hx, hb, hml, hown, hts⟩ (w_told_n l D K g L G a0 0 m0 w0 m1 v_863 f_864 (u_960.2.1 0) H.size (by first | omega | decide) (by first | omega | decide)) ⟨va_cnB 2 hts gX10_burnDown_X0_told_n36 rfl rfl rfl (nst_at hN 54 rfl) (hts _ mm_X10_burnDown_151) (by decide +kernel) ⟨Nat.le_of_ble_eq_true rfl, Nat.le_of_ble_eq_true rfl⟩, (hts _ mm_X10_burnDown_411), (hts _ mm_X10_burnDown_13)⟩ (mkVY hK hN (hP.sub [5, 1, 2, 6] rfl) (hD.sub [5, 1, 2, 6] (by decide +kernel) rfl) (ci := 0) (q0 := 0) rfl rfl (fun U hU hW => ⟨Gl.at hG hS hW hU (fun q h => va_free hD hS hA [5, 1, 2, 6] rfl q h), Pool.at hPl hS hU (fun q h => va_free hD hS hA [5, 1, 2, 6] rfl q h), Ro.heap hU (Ro.nil)⟩)) rfl rfl hl.1 rfl (lv_room (Nat.le_of_ble_eq_true rfl)) dX10_burnDown_64 ⟨Nat.le_of_ble_eq_true rfl, Nat.le_of_ble_eq_true rfl⟩) hP hD hS hA [5, 1, 2, 6] [0, 3, 4, 7, 8, 9] rfl rfl (by decide +kernel) (by decide +kernel) (fun r_974 u_975 H locs hw hP0 hD0 hS0 => ?_)
          clear hP hD hS
          have hP := hP0
          have hD := hD0
          have hS := hS0
          clear hP0 hD0 hS0
          replace hP : va_P D vwCl [(r0, .inr (10, [.ref a0])), (t3, .inl (K 0, 24, .inl f3)), (l0, .inl (K 4, 6, .inr (.inr (.inr (.inr fl))))), (t2, .inl (K 0, 6, .inl f2)), (t0, .inr (9, [.ref t1, .ref t3, .ref t2, .ref l0, .int n, .int lt, .int nf, .int fi, k_8, k_9])), (t1, .inl (K 0, 56, .inl (u_967.2.1 0))), (a0, .inr (0, [.ref m0, .ref w0])), (m0, .inr (3, [.ref m1, .int v_863])), (m1, .inl (K 0, 64, .inl f_864)), (w0, .inl (K 0, 9, .inl (u_960.2.1 0)))] H := hP
          replace hD : va_D A [(r0, .inr (10, [.ref a0])), (t3, .inl (K 0, 24, .inl f3)), (l0, .inl (K 4, 6, .inr (.inr (.inr (.inr fl))))), (t2, .inl (K 0, 6, .inl f2)), (t0, .inr (9, [.ref t1, .ref t3, .ref t2, .ref l0, .int n, .int lt, .int nf, .int fi, k_8, k_9])), (t1, .inl (K 0, 56, .inl (u_967.2.1 0))), (a0, .inr (0, [.ref m0, .ref w0])), (m0, .inr (3, [.ref m1, .int v_863])), (m1, .inl (K 0, 64, .inl f_864)), (w0, .inl (K 0, 9, .inl (u_960.2.1 0)))] := hD
          obtain ⟨h_977, k_976, -⟩ := hw
          replace hE := hE.trans (Lt_in k_976)
          refine lv_isub hx hb dX10_burnDown_67 ?_
          refine lv_topi (fun x_978 ex_978 => ?_)
          replace hE := hE.trans (Lt_in ex_978)
          refine va_mmax hx hb (hml.trans hl.1.symm) hown (hts _ mm_X10_burnDown_603) (hts _ mm_X10_burnDown_418) (hts _ mm_X10_burnDown_157) (hts _ mm_X10_burnDown_419) (Nat.le_of_ble_eq_true rfl) (Nat.le_of_ble_eq_true rfl) (Nat.le_of_ble_eq_true rfl) (Nat.le_of_ble_eq_true rfl) dX10_burnDown_68 ?_
          refine lv_topi (fun x_979 ex_979 => ?_)
          replace hE := hE.trans (Lt_in ex_979)
          have hx_979 : (x_978.toInt ≤ 0 ∧ x_979.toInt = 0) ∨ (0 < x_978.toInt ∧ x_979.toInt = x_978.toInt) := by rw [ex_979]; exact i_max (show (0 : Int32).toInt = 0 from rfl) rfl
          replace hx_979 : x_978.toInt ≤ x_979.toInt ∧ 0 ≤ x_979.toInt := by omega
          refine kcv (S := Su) (wr := [(r0, .inr (10, [.ref a0])), (t3, .inl (K 0, 24, .inl f3)), (l0, .inl (K 4, 6, .inr (.inr (.inr (.inr fl))))), (t2, .inl (K 0, 6, .inl f2)), (a0, .inr (0, [.ref m0, .ref w0])), (m0, .inr (3, [.ref m1, .int v_863])), (m1, .inl (K 0, 64, .inl f_864)), (w0, .inl (K 0, 9, .inl (u_960.2.1 0)))]) (va_runVN (As := [.int v_862, .int 5, .int x_979]) (rest := []) ⟨hx, hb, hml, hown, hts⟩ (w_put_5 l D K t0 v_862 x_979 t1 (.ref t3) (.ref t2) (.ref l0) (.int n) (.int lt) (.int nf) (.int fi) k_8 k_9 (u_967.2.1 0) gt H.size k_968) ⟨va_cnB 3 hts gX10_burnDown_X9_put_n45 rfl rfl rfl (nst_at hN 55 rfl) (hts _ mm_X10_burnDown_145) (by decide +kernel) ⟨Nat.le_of_ble_eq_true rfl, Nat.le_of_ble_eq_true rfl⟩, (hts _ mm_X10_burnDown_388), (hts _ mm_X10_burnDown_5)⟩ (mkV hK hN (hP.sub [4, 5] rfl) (hD.sub [4, 5] (by decide +kernel) rfl) (ci := 9) (q0 := 0) rfl rfl) rfl rfl hl.1 rfl (lv_room (Nat.le_of_ble_eq_true rfl)) dX10_burnDown_71 ⟨Nat.le_of_ble_eq_true rfl, Nat.le_of_ble_eq_true rfl⟩) hP hD hS hA [4, 5] [0, 1, 2, 3, 6, 7, 8, 9] rfl rfl (by decide +kernel) (by decide +kernel) (fun u_981 H locs hw hP0 hD0 hS0 => ?_)
          clear hP hD hS
          have hP := hP0
          have hD := hD0
          have hS := hS0
          clear hP0 hD0 hS0
          replace hP : va_P D vwCl [(r0, .inr (10, [.ref a0])), (t3, .inl (K 0, 24, .inl f3)), (l0, .inl (K 4, 6, .inr (.inr (.inr (.inr fl))))), (t2, .inl (K 0, 6, .inl f2)), (a0, .inr (0, [.ref m0, .ref w0])), (m0, .inr (3, [.ref m1, .int v_863])), (m1, .inl (K 0, 64, .inl f_864)), (w0, .inl (K 0, 9, .inl (u_960.2.1 0))), (t0, .inr (9, [.ref t1, .ref t3, .ref t2, .ref l0, .int n, .int lt, .int nf, .int fi, k_8, k_9])), (t1, .inl (K 0, 56, .inl (u_981.2.1 0)))] H := hP
          replace hD : va_D A [(r0, .inr (10, [.ref a0])), (t3, .inl (K 0, 24, .inl f3)), (l0, .inl (K 4, 6, .inr (.inr (.inr (.inr fl))))), (t2, .inl (K 0, 6, .inl f2)), (a0, .inr (0, [.ref m0, .ref w0])), (m0, .inr (3, [.ref m1, .int v_863])), (m1, .inl (K 0, 64, .inl f_864)), (w0, .inl (K 0, 9, .inl (u_960.2.1 0))), (t0, .inr (9, [.ref t1, .ref t3, .ref t2, .ref l0, .int n, .int lt, .int nf, .int fi, k_8, k_9])), (t1, .inl (K 0, 56, .inl (u_981.2.1 0)))] := hD
          obtain ⟨k_982, k_983, -⟩ := hw
          replace hE := hE.trans (Lt_in k_983)
          obtain ⟨x_984, ex_984⟩ : ∃ y : Int32, y = v_862 + Int32.ofInt 1 := ⟨_, rfl⟩
          replace hE := hE.trans (Lt_in ex_984)
          have hx_984 : x_984.toInt = (v_862.toInt + 1) := by rw [ex_984]; exact i_add rfl (show (Int32.ofInt 1).toInt = 1 from rfl) (by omega)
          refine lv_iinc (v := x_984) (lv' := [(2, .int x_984), (3, .int r_957), (0, .ref r0), (1, .ref t0)]) hx hb dX10_burnDown_74 hl (k := 1) rfl (by rw [ex_984]) (by decide +kernel) rfl (fun ls hl => ?_)
          refine lv_goto (tgt := 2) hx hb dX10_burnDown_77 (by decide +kernel) ?_
          exact ih_955 x_984 v_863 f_864 (u_960.2.1 0) (u_981.2.1 0) (by rw [hx_984]; omega) (by omega) k_982 (by omega) (hE.trans (by rw [hrec_954])) _ _ (hP.sub [0, 4, 5, 6, 7, 8, 9, 3, 1, 2] rfl) (hD.sub [0, 4, 5, 6, 7, 8, 9, 3, 1, 2] (by decide +kernel) rfl) hS ls (lv_sub hl [0, 2, 3] rfl)
        · replace hE := hE.trans Oc_s
          have hl : lv_has ls 4 [(3, .int r_957), (2, .int v_862), (0, .ref r0), (1, .ref t0)] := hl
          refine W.eq (g2 := F0 m 64 ls [.int 0, .ref q_973, .ref a0, .int r_957, .int 0, .int 5, .int v_862, .ref t0]) rfl ?_
          refine kci (S := Su) (wr := [(r0, .inr (10, [.ref a0])), (t3, .inl (K 0, 24, .inl f3)), (l0, .inl (K 4, 6, .inr (.inr (.inr (.inr fl))))), (t2, .inl (K 0, 6, .inl f2)), (t0, .inr (9, [.ref t1, .ref t3, .ref t2, .ref l0, .int n, .int lt, .int nf, .int fi, k_8, k_9])), (t1, .inl (K 0, 56, .inl (u_967.2.1 0)))]) (va_runVN (As := [.ref q_973, .int 0]) (rest := [.int r_957, .int 0, .int 5, .int v_862, .ref t0]) ⟨hx, hb, hml, hown, hts⟩ (w_told l D K g L G a0 q_973 0 m0 w0 m1 v_863 f_864 (u_960.2.1 0) H.size hr_970 (by first | omega | decide) (by first | omega | decide)) ⟨va_cnB 2 hts gX10_burnDown_X0_told_n36 rfl rfl rfl (nst_at hN 54 rfl) (hts _ mm_X10_burnDown_151) (by decide +kernel) ⟨Nat.le_of_ble_eq_true rfl, Nat.le_of_ble_eq_true rfl⟩, (hts _ mm_X10_burnDown_411), (hts _ mm_X10_burnDown_13)⟩ (mkVY hK hN (hP.sub [5, 1, 2, 6] rfl) (hD.sub [5, 1, 2, 6] (by decide +kernel) rfl) (ci := 0) (q0 := 0) rfl rfl (fun U hU hW => ⟨Gl.at hG hS hW hU (fun q h => va_free hD hS hA [5, 1, 2, 6] rfl q h), Pool.at hPl hS hU (fun q h => va_free hD hS hA [5, 1, 2, 6] rfl q h), Ro.heap hU (Ro.nil)⟩)) rfl rfl hl.1 rfl (lv_room (Nat.le_of_ble_eq_true rfl)) dX10_burnDown_64 ⟨Nat.le_of_ble_eq_true rfl, Nat.le_of_ble_eq_true rfl⟩) hP hD hS hA [5, 1, 2, 6] [0, 3, 4, 7, 8, 9] rfl rfl (by decide +kernel) (by decide +kernel) (fun r_985 u_986 H locs hw hP0 hD0 hS0 => ?_)
          clear hP hD hS
          have hP := hP0
          have hD := hD0
          have hS := hS0
          clear hP0 hD0 hS0
          replace hP : va_P D vwCl [(r0, .inr (10, [.ref a0])), (t3, .inl (K 0, 24, .inl f3)), (l0, .inl (K 4, 6, .inr (.inr (.inr (.inr fl))))), (t2, .inl (K 0, 6, .inl f2)), (t0, .inr (9, [.ref t1, .ref t3, .ref t2, .ref l0, .int n, .int lt, .int nf, .int fi, k_8, k_9])), (t1, .inl (K 0, 56, .inl (u_967.2.1 0))), (a0, .inr (0, [.ref m0, .ref w0])), (m0, .inr (3, [.ref m1, .int (u_986.2.2.2.1 0)])), (m1, .inl (K 0, 64, .inl (u_986.2.1 0))), (w0, .inl (K 0, 9, .inl (u_960.2.1 0)))] H := hP
          replace hD : va_D A [(r0, .inr (10, [.ref a0])), (t3, .inl (K 0, 24, .inl f3)), (l0, .inl (K 4, 6, .inr (.inr (.inr (.inr fl))))), (t2, .inl (K 0, 6, .inl f2)), (t0, .inr (9, [.ref t1, .ref t3, .ref t2, .ref l0, .int n, .int lt, .int nf, .int fi, k_8, k_9])), (t1, .inl (K 0, 56, .inl (u_967.2.1 0))), (a0, .inr (0, [.ref m0, .ref w0])), (m0, .inr (3, [.ref m1, .int (u_986.2.2.2.1 0)])), (m1, .inl (K 0, 64, .inl (u_986.2.1 0))), (w0, .inl (K 0, 9, .inl (u_960.2.1 0)))] := hD
          obtain ⟨h_989, k_987, k_988, -⟩ := hw
          replace hE := (hE.trans (Lt2_in k_988)).trans (Lt2_in rfl)
          refine lv_isub hx hb dX10_burnDown_67 ?_
          refine lv_topi (fun x_990 ex_990 => ?_)
          replace hE := hE.trans (Lt_in ex_990)
          refine va_mmax hx hb (hml.trans hl.1.symm) hown (hts _ mm_X10_burnDown_603) (hts _ mm_X10_burnDown_418) (hts _ mm_X10_burnDown_157) (hts _ mm_X10_burnDown_419) (Nat.le_of_ble_eq_true rfl) (Nat.le_of_ble_eq_true rfl) (Nat.le_of_ble_eq_true rfl) (Nat.le_of_ble_eq_true rfl) dX10_burnDown_68 ?_
          refine lv_topi (fun x_991 ex_991 => ?_)
          replace hE := hE.trans (Lt_in ex_991)
          have hx_991 : (x_990.toInt ≤ 0 ∧ x_991.toInt = 0) ∨ (0 < x_990.toInt ∧ x_991.toInt = x_990.toInt) := by rw [ex_991]; exact i_max (show (0 : Int32).toInt = 0 from rfl) rfl
          replace hx_991 : x_990.toInt ≤ x_991.toInt ∧ 0 ≤ x_991.toInt := by omega
          refine kcv (S := Su) (wr := [(r0, .inr (10, [.ref a0])), (t3, .inl (K 0, 24, .inl f3)), (l0, .inl (K 4, 6, .inr (.inr (.inr (.inr fl))))), (t2, .inl (K 0, 6, .inl f2)), (a0, .inr (0, [.ref m0, .ref w0])), (m0, .inr (3, [.ref m1, .int (u_986.2.2.2.1 0)])), (m1, .inl (K 0, 64, .inl (u_986.2.1 0))), (w0, .inl (K 0, 9, .inl (u_960.2.1 0)))]) (va_runVN (As := [.int v_862, .int 5, .int x_991]) (rest := []) ⟨hx, hb, hml, hown, hts⟩ (w_put_5 l D K t0 v_862 x_991 t1 (.ref t3) (.ref t2) (.ref l0) (.int n) (.int lt) (.int nf) (.int fi) k_8 k_9 (u_967.2.1 0) gt H.size k_968) ⟨va_cnB 3 hts gX10_burnDown_X9_put_n45 rfl rfl rfl (nst_at hN 55 rfl) (hts _ mm_X10_burnDown_145) (by decide +kernel) ⟨Nat.le_of_ble_eq_true rfl, Nat.le_of_ble_eq_true rfl⟩, (hts _ mm_X10_burnDown_388), (hts _ mm_X10_burnDown_5)⟩ (mkV hK hN (hP.sub [4, 5] rfl) (hD.sub [4, 5] (by decide +kernel) rfl) (ci := 9) (q0 := 0) rfl rfl) rfl rfl hl.1 rfl (lv_room (Nat.le_of_ble_eq_true rfl)) dX10_burnDown_71 ⟨Nat.le_of_ble_eq_true rfl, Nat.le_of_ble_eq_true rfl⟩) hP hD hS hA [4, 5] [0, 1, 2, 3, 6, 7, 8, 9] rfl rfl (by decide +kernel) (by decide +kernel) (fun u_993 H locs hw hP0 hD0 hS0 => ?_)
          clear hP hD hS
          have hP := hP0
          have hD := hD0
          have hS := hS0
          clear hP0 hD0 hS0
          replace hP : va_P D vwCl [(r0, .inr (10, [.ref a0])), (t3, .inl (K 0, 24, .inl f3)), (l0, .inl (K 4, 6, .inr (.inr (.inr (.inr fl))))), (t2, .inl (K 0, 6, .inl f2)), (a0, .inr (0, [.ref m0, .ref w0])), (m0, .inr (3, [.ref m1, .int (u_986.2.2.2.1 0)])), (m1, .inl (K 0, 64, .inl (u_986.2.1 0))), (w0, .inl (K 0, 9, .inl (u_960.2.1 0))), (t0, .inr (9, [.ref t1, .ref t3, .ref t2, .ref l0, .int n, .int lt, .int nf, .int fi, k_8, k_9])), (t1, .inl (K 0, 56, .inl (u_993.2.1 0)))] H := hP
          replace hD : va_D A [(r0, .inr (10, [.ref a0])), (t3, .inl (K 0, 24, .inl f3)), (l0, .inl (K 4, 6, .inr (.inr (.inr (.inr fl))))), (t2, .inl (K 0, 6, .inl f2)), (a0, .inr (0, [.ref m0, .ref w0])), (m0, .inr (3, [.ref m1, .int (u_986.2.2.2.1 0)])), (m1, .inl (K 0, 64, .inl (u_986.2.1 0))), (w0, .inl (K 0, 9, .inl (u_960.2.1 0))), (t0, .inr (9, [.ref t1, .ref t3, .ref t2, .ref l0, .int n, .int lt, .int nf, .int fi, k_8, k_9])), (t1, .inl (K 0, 56, .inl (u_993.2.1 0)))] := hD
          obtain ⟨k_994, k_995, -⟩ := hw
          replace hE := hE.trans (Lt_in k_995)
          obtain ⟨x_996, ex_996⟩ : ∃ y : Int32, y = v_862 + Int32.ofInt 1 := ⟨_, rfl⟩
          replace hE := hE.trans (Lt_in ex_996)
          have hx_996 : x_996.toInt = (v_862.toInt + 1) := by rw [ex_996]; exact i_add rfl (show (Int32.ofInt 1).toInt = 1 from rfl) (by omega)
          refine lv_iinc (v := x_996) (lv' := [(2, .int x_996), (3, .int r_957), (0, .ref r0), (1, .ref t0)]) hx hb dX10_burnDown_74 hl (k := 1) rfl (by rw [ex_996]) (by decide +kernel) rfl (fun ls hl => ?_)
          refine lv_goto (tgt := 2) hx hb dX10_burnDown_77 (by decide +kernel) ?_
          exact ih_955 x_996 (u_986.2.2.2.1 0) (u_986.2.1 0) (u_960.2.1 0) (u_993.2.1 0) (by rw [hx_996]; omega) (by omega) k_994 (by omega) (hE.trans (by rw [hrec_954])) _ _ (hP.sub [0, 4, 5, 6, 7, 8, 9, 3, 1, 2] rfl) (hD.sub [0, 4, 5, 6, 7, 8, 9, 3, 1, 2] (by decide +kernel) rfl) hS ls (lv_sub hl [0, 2, 3] rfl)
  exact lp_954 ((9 - (0 : Int32).toInt : Int).toNat + 1) 0 br fs fw f1 (by decide +kernel) (by omega) zgt (Nat.lt_succ_self _) hE _ _ hP hD hS ls (lv_sub hl [0, 1, 2] rfl)
