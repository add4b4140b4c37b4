theorem BX4_favourite_0 : bsegs (ByteArray.data cX4_favourite |>.toList.drop 0) 0 [(0, [28]), (1, [54, 4]), (3, [16, 64]), (5, [54, 5]), (7, [3]), (8, [54, 6]), (10, [21, 6]), (12, [43]), (13, [180, 0, 27]), (16, [162, 0, 63]), (19, [43]), (20, [21, 6]), (22, [6]), (23, [182, 0, 45]), (26, [54, 7]), (28, [21, 7]), (30, [43]), (31, [28]), (32, [7]), (33, [182, 0, 45]), (36, [100]), (37, [184, 0, 49]), (40, [16, 8]), (42, [104])] = true := by decide +kernel
theorem dX4_favourite_0 : decode cX4_favourite 0 = .ok (.iload_n 2, 1) := dk_28 (bs_at BX4_favourite_0 0 rfl)
theorem dX4_favourite_1 : decode cX4_favourite 1 = .ok (.istore 4, 2) := dk_54 4 (bs_at BX4_favourite_0 1 rfl)
theorem dX4_favourite_3 : decode cX4_favourite 3 = .ok (.bipush 64, 2) := dk_16 64 (bs_at BX4_favourite_0 2 rfl) rfl
theorem dX4_favourite_5 : decode cX4_favourite 5 = .ok (.istore 5, 2) := dk_54 5 (bs_at BX4_favourite_0 3 rfl)
theorem dX4_favourite_7 : decode cX4_favourite 7 = .ok (.iconst 0, 1) := dk_3 (bs_at BX4_favourite_0 4 rfl)
theorem dX4_favourite_8 : decode cX4_favourite 8 = .ok (.istore 6, 2) := dk_54 6 (bs_at BX4_favourite_0 5 rfl)
theorem dX4_favourite_10 : decode cX4_favourite 10 = .ok (.iload 6, 2) := dk_21 6 (bs_at BX4_favourite_0 6 rfl)
theorem dX4_favourite_12 : decode cX4_favourite 12 = .ok (.aload_n 1, 1) := dk_43 (bs_at BX4_favourite_0 7 rfl)
theorem dX4_favourite_13 : decode cX4_favourite 13 = .ok (.getfield 27, 3) := dk_180 0 27 (bs_at BX4_favourite_0 8 rfl) rfl
theorem dX4_favourite_16 : decode cX4_favourite 16 = .ok (.if_icmp .ge 63, 3) := dk_162 0 63 (bs_at BX4_favourite_0 9 rfl) rfl
theorem dX4_favourite_19 : decode cX4_favourite 19 = .ok (.aload_n 1, 1) := dk_43 (bs_at BX4_favourite_0 10 rfl)
theorem dX4_favourite_20 : decode cX4_favourite 20 = .ok (.iload 6, 2) := dk_21 6 (bs_at BX4_favourite_0 11 rfl)
theorem dX4_favourite_22 : decode cX4_favourite 22 = .ok (.iconst 3, 1) := dk_6 (bs_at BX4_favourite_0 12 rfl)
theorem dX4_favourite_23 : decode cX4_favourite 23 = .ok (.invokevirtual 45, 3) := dk_182 0 45 (bs_at BX4_favourite_0 13 rfl) rfl
theorem dX4_favourite_26 : decode cX4_favourite 26 = .ok (.istore 7, 2) := dk_54 7 (bs_at BX4_favourite_0 14 rfl)
theorem dX4_favourite_28 : decode cX4_favourite 28 = .ok (.iload 7, 2) := dk_21 7 (bs_at BX4_favourite_0 15 rfl)
theorem dX4_favourite_30 : decode cX4_favourite 30 = .ok (.aload_n 1, 1) := dk_43 (bs_at BX4_favourite_0 16 rfl)
theorem dX4_favourite_31 : decode cX4_favourite 31 = .ok (.iload_n 2, 1) := dk_28 (bs_at BX4_favourite_0 17 rfl)
theorem dX4_favourite_32 : decode cX4_favourite 32 = .ok (.iconst 4, 1) := dk_7 (bs_at BX4_favourite_0 18 rfl)
theorem dX4_favourite_33 : decode cX4_favourite 33 = .ok (.invokevirtual 45, 3) := dk_182 0 45 (bs_at BX4_favourite_0 19 rfl) rfl
theorem dX4_favourite_36 : decode cX4_favourite 36 = .ok (.isub, 1) := dk_100 (bs_at BX4_favourite_0 20 rfl)
theorem dX4_favourite_37 : decode cX4_favourite 37 = .ok (.invokestatic 49, 3) := dk_184 0 49 (bs_at BX4_favourite_0 21 rfl) rfl
theorem dX4_favourite_40 : decode cX4_favourite 40 = .ok (.bipush 8, 2) := dk_16 8 (bs_at BX4_favourite_0 22 rfl) rfl
theorem dX4_favourite_42 : decode cX4_favourite 42 = .ok (.imul, 1) := dk_104 (bs_at BX4_favourite_0 23 rfl)
theorem BX4_favourite_43 : bsegs (ByteArray.data cX4_favourite |>.toList.drop 43) 43 [(43, [21, 7]), (45, [96]), (46, [54, 8]), (48, [29]), (49, [21, 6]), (51, [122]), (52, [4]), (53, [126]), (54, [4]), (55, [160, 0, 18]), (58, [21, 8]), (60, [21, 5]), (62, [162, 0, 11]), (65, [21, 8]), (67, [54, 5]), (69, [21, 6]), (71, [54, 4]), (73, [132, 6, 1]), (76, [167, 255, 190]), (79, [21, 4]), (81, [172])] = true := by decide +kernel
theorem dX4_favourite_43 : decode cX4_favourite 43 = .ok (.iload 7, 2) := dk_21 7 (bs_at BX4_favourite_43 0 rfl)
theorem dX4_favourite_45 : decode cX4_favourite 45 = .ok (.iadd, 1) := dk_96 (bs_at BX4_favourite_43 1 rfl)
theorem dX4_favourite_46 : decode cX4_favourite 46 = .ok (.istore 8, 2) := dk_54 8 (bs_at BX4_favourite_43 2 rfl)
theorem dX4_favourite_48 : decode cX4_favourite 48 = .ok (.iload_n 3, 1) := dk_29 (bs_at BX4_favourite_43 3 rfl)
theorem dX4_favourite_49 : decode cX4_favourite 49 = .ok (.iload 6, 2) := dk_21 6 (bs_at BX4_favourite_43 4 rfl)
theorem dX4_favourite_51 : decode cX4_favourite 51 = .ok (.ishr, 1) := dk_122 (bs_at BX4_favourite_43 5 rfl)
theorem dX4_favourite_52 : decode cX4_favourite 52 = .ok (.iconst 1, 1) := dk_4 (bs_at BX4_favourite_43 6 rfl)
theorem dX4_favourite_53 : decode cX4_favourite 53 = .ok (.iand, 1) := dk_126 (bs_at BX4_favourite_43 7 rfl)
theorem dX4_favourite_54 : decode cX4_favourite 54 = .ok (.iconst 1, 1) := dk_4 (bs_at BX4_favourite_43 8 rfl)
theorem dX4_favourite_55 : decode cX4_favourite 55 = .ok (.if_icmp .ne 18, 3) := dk_160 0 18 (bs_at BX4_favourite_43 9 rfl) rfl
theorem dX4_favourite_58 : decode cX4_favourite 58 = .ok (.iload 8, 2) := dk_21 8 (bs_at BX4_favourite_43 10 rfl)
theorem dX4_favourite_60 : decode cX4_favourite 60 = .ok (.iload 5, 2) := dk_21 5 (bs_at BX4_favourite_43 11 rfl)
theorem dX4_favourite_62 : decode cX4_favourite 62 = .ok (.if_icmp .ge 11, 3) := dk_162 0 11 (bs_at BX4_favourite_43 12 rfl) rfl
theorem dX4_favourite_65 : decode cX4_favourite 65 = .ok (.iload 8, 2) := dk_21 8 (bs_at BX4_favourite_43 13 rfl)
theorem dX4_favourite_67 : decode cX4_favourite 67 = .ok (.istore 5, 2) := dk_54 5 (bs_at BX4_favourite_43 14 rfl)
theorem dX4_favourite_69 : decode cX4_favourite 69 = .ok (.iload 6, 2) := dk_21 6 (bs_at BX4_favourite_43 15 rfl)
theorem dX4_favourite_71 : decode cX4_favourite 71 = .ok (.istore 4, 2) := dk_54 4 (bs_at BX4_favourite_43 16 rfl)
theorem dX4_favourite_73 : decode cX4_favourite 73 = .ok (.iinc 6 1, 3) := dk_132 6 1 (bs_at BX4_favourite_43 17 rfl) rfl
theorem dX4_favourite_76 : decode cX4_favourite 76 = .ok (.goto (-66), 3) := dk_167 255 190 (bs_at BX4_favourite_43 18 rfl) rfl
theorem dX4_favourite_79 : decode cX4_favourite 79 = .ok (.iload 4, 2) := dk_21 4 (bs_at BX4_favourite_43 19 rfl)
theorem dX4_favourite_81 : decode cX4_favourite 81 = .ok (.ireturn, 1) := dk_172 (bs_at BX4_favourite_43 20 rfl)
theorem BX4_ring_0 : bsegs (ByteArray.data cX4_ring |>.toList.drop 0) 0 [(0, [3]), (1, [62]), (2, [29]), (3, [43]), (4, [180, 0, 27]), (7, [4]), (8, [100]), (9, [162, 0, 17]), (12, [28]), (13, [29]), (14, [122]), (15, [4]), (16, [126]), (17, [154, 0, 9]), (20, [132, 3, 1]), (23, [167, 255, 235]), (26, [3]), (27, [54, 4]), (29, [21, 4]), (31, [16, 8]), (33, [162, 0, 16]), (36, [42]), (37, [180, 0, 15]), (40, [29])] = true := by decide +kernel
theorem dX4_ring_0 : decode cX4_ring 0 = .ok (.iconst 0, 1) := dk_3 (bs_at BX4_ring_0 0 rfl)
theorem dX4_ring_1 : decode cX4_ring 1 = .ok (.istore_n 3, 1) := dk_62 (bs_at BX4_ring_0 1 rfl)
theorem dX4_ring_2 : decode cX4_ring 2 = .ok (.iload_n 3, 1) := dk_29 (bs_at BX4_ring_0 2 rfl)
theorem dX4_ring_3 : decode cX4_ring 3 = .ok (.aload_n 1, 1) := dk_43 (bs_at BX4_ring_0 3 rfl)
theorem dX4_ring_4 : decode cX4_ring 4 = .ok (.getfield 27, 3) := dk_180 0 27 (bs_at BX4_ring_0 4 rfl) rfl
theorem dX4_ring_7 : decode cX4_ring 7 = .ok (.iconst 1, 1) := dk_4 (bs_at BX4_ring_0 5 rfl)
theorem dX4_ring_8 : decode cX4_ring 8 = .ok (.isub, 1) := dk_100 (bs_at BX4_ring_0 6 rfl)
theorem dX4_ring_9 : decode cX4_ring 9 = .ok (.if_icmp .ge 17, 3) := dk_162 0 17 (bs_at BX4_ring_0 7 rfl) rfl
theorem dX4_ring_12 : decode cX4_ring 12 = .ok (.iload_n 2, 1) := dk_28 (bs_at BX4_ring_0 8 rfl)
theorem dX4_ring_13 : decode cX4_ring 13 = .ok (.iload_n 3, 1) := dk_29 (bs_at BX4_ring_0 9 rfl)
theorem dX4_ring_14 : decode cX4_ring 14 = .ok (.ishr, 1) := dk_122 (bs_at BX4_ring_0 10 rfl)
theorem dX4_ring_15 : decode cX4_ring 15 = .ok (.iconst 1, 1) := dk_4 (bs_at BX4_ring_0 11 rfl)
theorem dX4_ring_16 : decode cX4_ring 16 = .ok (.iand, 1) := dk_126 (bs_at BX4_ring_0 12 rfl)
theorem dX4_ring_17 : decode cX4_ring 17 = .ok (.ifCond .ne 9, 3) := dk_154 0 9 (bs_at BX4_ring_0 13 rfl) rfl
theorem dX4_ring_20 : decode cX4_ring 20 = .ok (.iinc 3 1, 3) := dk_132 3 1 (bs_at BX4_ring_0 14 rfl) rfl
theorem dX4_ring_23 : decode cX4_ring 23 = .ok (.goto (-21), 3) := dk_167 255 235 (bs_at BX4_ring_0 15 rfl) rfl
theorem dX4_ring_26 : decode cX4_ring 26 = .ok (.iconst 0, 1) := dk_3 (bs_at BX4_ring_0 16 rfl)
theorem dX4_ring_27 : decode cX4_ring 27 = .ok (.istore 4, 2) := dk_54 4 (bs_at BX4_ring_0 17 rfl)
theorem dX4_ring_29 : decode cX4_ring 29 = .ok (.iload 4, 2) := dk_21 4 (bs_at BX4_ring_0 18 rfl)
theorem dX4_ring_31 : decode cX4_ring 31 = .ok (.bipush 8, 2) := dk_16 8 (bs_at BX4_ring_0 19 rfl) rfl
theorem dX4_ring_33 : decode cX4_ring 33 = .ok (.if_icmp .ge 16, 3) := dk_162 0 16 (bs_at BX4_ring_0 20 rfl) rfl
theorem dX4_ring_36 : decode cX4_ring 36 = .ok (.aload_n 0, 1) := dk_42 (bs_at BX4_ring_0 21 rfl)
theorem dX4_ring_37 : decode cX4_ring 37 = .ok (.getfield 15, 3) := dk_180 0 15 (bs_at BX4_ring_0 22 rfl) rfl
theorem dX4_ring_40 : decode cX4_ring 40 = .ok (.iload_n 3, 1) := dk_29 (bs_at BX4_ring_0 23 rfl)
theorem BX4_ring_41 : bsegs (ByteArray.data cX4_ring |>.toList.drop 41) 41 [(41, [46]), (42, [62]), (43, [132, 4, 1]), (46, [167, 255, 239]), (49, [3]), (50, [54, 4]), (52, [3]), (53, [54, 5]), (55, [21, 5]), (57, [16, 8]), (59, [162, 0, 50]), (62, [21, 4]), (64, [29]), (65, [122]), (66, [4]), (67, [126]), (68, [154, 0, 41]), (71, [21, 4]), (73, [4]), (74, [29]), (75, [120]), (76, [128]), (77, [54, 4]), (79, [42])] = true := by decide +kernel
theorem dX4_ring_41 : decode cX4_ring 41 = .ok (.iaload, 1) := dk_46 (bs_at BX4_ring_41 0 rfl)
theorem dX4_ring_42 : decode cX4_ring 42 = .ok (.istore_n 3, 1) := dk_62 (bs_at BX4_ring_41 1 rfl)
theorem dX4_ring_43 : decode cX4_ring 43 = .ok (.iinc 4 1, 3) := dk_132 4 1 (bs_at BX4_ring_41 2 rfl) rfl
theorem dX4_ring_46 : decode cX4_ring 46 = .ok (.goto (-17), 3) := dk_167 255 239 (bs_at BX4_ring_41 3 rfl) rfl
theorem dX4_ring_49 : decode cX4_ring 49 = .ok (.iconst 0, 1) := dk_3 (bs_at BX4_ring_41 4 rfl)
theorem dX4_ring_50 : decode cX4_ring 50 = .ok (.istore 4, 2) := dk_54 4 (bs_at BX4_ring_41 5 rfl)
theorem dX4_ring_52 : decode cX4_ring 52 = .ok (.iconst 0, 1) := dk_3 (bs_at BX4_ring_41 6 rfl)
theorem dX4_ring_53 : decode cX4_ring 53 = .ok (.istore 5, 2) := dk_54 5 (bs_at BX4_ring_41 7 rfl)
theorem dX4_ring_55 : decode cX4_ring 55 = .ok (.iload 5, 2) := dk_21 5 (bs_at BX4_ring_41 8 rfl)
theorem dX4_ring_57 : decode cX4_ring 57 = .ok (.bipush 8, 2) := dk_16 8 (bs_at BX4_ring_41 9 rfl) rfl
theorem dX4_ring_59 : decode cX4_ring 59 = .ok (.if_icmp .ge 50, 3) := dk_162 0 50 (bs_at BX4_ring_41 10 rfl) rfl
theorem dX4_ring_62 : decode cX4_ring 62 = .ok (.iload 4, 2) := dk_21 4 (bs_at BX4_ring_41 11 rfl)
theorem dX4_ring_64 : decode cX4_ring 64 = .ok (.iload_n 3, 1) := dk_29 (bs_at BX4_ring_41 12 rfl)
theorem dX4_ring_65 : decode cX4_ring 65 = .ok (.ishr, 1) := dk_122 (bs_at BX4_ring_41 13 rfl)
theorem dX4_ring_66 : decode cX4_ring 66 = .ok (.iconst 1, 1) := dk_4 (bs_at BX4_ring_41 14 rfl)
theorem dX4_ring_67 : decode cX4_ring 67 = .ok (.iand, 1) := dk_126 (bs_at BX4_ring_41 15 rfl)
theorem dX4_ring_68 : decode cX4_ring 68 = .ok (.ifCond .ne 41, 3) := dk_154 0 41 (bs_at BX4_ring_41 16 rfl) rfl
theorem dX4_ring_71 : decode cX4_ring 71 = .ok (.iload 4, 2) := dk_21 4 (bs_at BX4_ring_41 17 rfl)
theorem dX4_ring_73 : decode cX4_ring 73 = .ok (.iconst 1, 1) := dk_4 (bs_at BX4_ring_41 18 rfl)
theorem dX4_ring_74 : decode cX4_ring 74 = .ok (.iload_n 3, 1) := dk_29 (bs_at BX4_ring_41 19 rfl)
theorem dX4_ring_75 : decode cX4_ring 75 = .ok (.ishl, 1) := dk_120 (bs_at BX4_ring_41 20 rfl)
theorem dX4_ring_76 : decode cX4_ring 76 = .ok (.ior, 1) := dk_128 (bs_at BX4_ring_41 21 rfl)
theorem dX4_ring_77 : decode cX4_ring 77 = .ok (.istore 4, 2) := dk_54 4 (bs_at BX4_ring_41 22 rfl)
theorem dX4_ring_79 : decode cX4_ring 79 = .ok (.aload_n 0, 1) := dk_42 (bs_at BX4_ring_41 23 rfl)
theorem BX4_ring_80 : bsegs (ByteArray.data cX4_ring |>.toList.drop 80) 80 [(80, [180, 0, 9]), (83, [29]), (84, [43]), (85, [42]), (86, [180, 0, 15]), (89, [29]), (90, [46]), (91, [6]), (92, [182, 0, 45]), (95, [79]), (96, [42]), (97, [180, 0, 15]), (100, [29]), (101, [46]), (102, [62]), (103, [132, 5, 1]), (106, [167, 255, 205]), (109, [21, 4]), (111, [172])] = true := by decide +kernel
theorem dX4_ring_80 : decode cX4_ring 80 = .ok (.getfield 9, 3) := dk_180 0 9 (bs_at BX4_ring_80 0 rfl) rfl
theorem dX4_ring_83 : decode cX4_ring 83 = .ok (.iload_n 3, 1) := dk_29 (bs_at BX4_ring_80 1 rfl)
theorem dX4_ring_84 : decode cX4_ring 84 = .ok (.aload_n 1, 1) := dk_43 (bs_at BX4_ring_80 2 rfl)
theorem dX4_ring_85 : decode cX4_ring 85 = .ok (.aload_n 0, 1) := dk_42 (bs_at BX4_ring_80 3 rfl)
theorem dX4_ring_86 : decode cX4_ring 86 = .ok (.getfield 15, 3) := dk_180 0 15 (bs_at BX4_ring_80 4 rfl) rfl
theorem dX4_ring_89 : decode cX4_ring 89 = .ok (.iload_n 3, 1) := dk_29 (bs_at BX4_ring_80 5 rfl)
theorem dX4_ring_90 : decode cX4_ring 90 = .ok (.iaload, 1) := dk_46 (bs_at BX4_ring_80 6 rfl)
theorem dX4_ring_91 : decode cX4_ring 91 = .ok (.iconst 3, 1) := dk_6 (bs_at BX4_ring_80 7 rfl)
theorem dX4_ring_92 : decode cX4_ring 92 = .ok (.invokevirtual 45, 3) := dk_182 0 45 (bs_at BX4_ring_80 8 rfl) rfl
theorem dX4_ring_95 : decode cX4_ring 95 = .ok (.iastore, 1) := dk_79 (bs_at BX4_ring_80 9 rfl)
theorem dX4_ring_96 : decode cX4_ring 96 = .ok (.aload_n 0, 1) := dk_42 (bs_at BX4_ring_80 10 rfl)
theorem dX4_ring_97 : decode cX4_ring 97 = .ok (.getfield 15, 3) := dk_180 0 15 (bs_at BX4_ring_80 11 rfl) rfl
theorem dX4_ring_100 : decode cX4_ring 100 = .ok (.iload_n 3, 1) := dk_29 (bs_at BX4_ring_80 12 rfl)
theorem dX4_ring_101 : decode cX4_ring 101 = .ok (.iaload, 1) := dk_46 (bs_at BX4_ring_80 13 rfl)
theorem dX4_ring_102 : decode cX4_ring 102 = .ok (.istore_n 3, 1) := dk_62 (bs_at BX4_ring_80 14 rfl)
theorem dX4_ring_103 : decode cX4_ring 103 = .ok (.iinc 5 1, 3) := dk_132 5 1 (bs_at BX4_ring_80 15 rfl) rfl
theorem dX4_ring_106 : decode cX4_ring 106 = .ok (.goto (-51), 3) := dk_167 255 205 (bs_at BX4_ring_80 16 rfl) rfl
theorem dX4_ring_109 : decode cX4_ring 109 = .ok (.iload 4, 2) := dk_21 4 (bs_at BX4_ring_80 17 rfl)
theorem dX4_ring_111 : decode cX4_ring 111 = .ok (.ireturn, 1) := dk_172 (bs_at BX4_ring_80 18 rfl)
theorem BX4_swapped_0 : bsegs (ByteArray.data cX4_swapped |>.toList.drop 0) 0 [(0, [4]), (1, [43]), (2, [180, 0, 27]), (5, [120]), (6, [4]), (7, [100]), (8, [62]), (9, [3]), (10, [54, 4]), (12, [21, 4]), (14, [16, 8]), (16, [162, 0, 57]), (19, [29]), (20, [153, 0, 53]), (23, [3]), (24, [54, 5]), (26, [21, 5]), (28, [43]), (29, [180, 0, 27]), (32, [162, 0, 24]), (35, [42]), (36, [180, 0, 15]), (39, [21, 5]), (41, [42])] = true := by decide +kernel
theorem dX4_swapped_0 : decode cX4_swapped 0 = .ok (.iconst 1, 1) := dk_4 (bs_at BX4_swapped_0 0 rfl)
theorem dX4_swapped_1 : decode cX4_swapped 1 = .ok (.aload_n 1, 1) := dk_43 (bs_at BX4_swapped_0 1 rfl)
theorem dX4_swapped_2 : decode cX4_swapped 2 = .ok (.getfield 27, 3) := dk_180 0 27 (bs_at BX4_swapped_0 2 rfl) rfl
theorem dX4_swapped_5 : decode cX4_swapped 5 = .ok (.ishl, 1) := dk_120 (bs_at BX4_swapped_0 3 rfl)
theorem dX4_swapped_6 : decode cX4_swapped 6 = .ok (.iconst 1, 1) := dk_4 (bs_at BX4_swapped_0 4 rfl)
theorem dX4_swapped_7 : decode cX4_swapped 7 = .ok (.isub, 1) := dk_100 (bs_at BX4_swapped_0 5 rfl)
theorem dX4_swapped_8 : decode cX4_swapped 8 = .ok (.istore_n 3, 1) := dk_62 (bs_at BX4_swapped_0 6 rfl)
theorem dX4_swapped_9 : decode cX4_swapped 9 = .ok (.iconst 0, 1) := dk_3 (bs_at BX4_swapped_0 7 rfl)
theorem dX4_swapped_10 : decode cX4_swapped 10 = .ok (.istore 4, 2) := dk_54 4 (bs_at BX4_swapped_0 8 rfl)
theorem dX4_swapped_12 : decode cX4_swapped 12 = .ok (.iload 4, 2) := dk_21 4 (bs_at BX4_swapped_0 9 rfl)
theorem dX4_swapped_14 : decode cX4_swapped 14 = .ok (.bipush 8, 2) := dk_16 8 (bs_at BX4_swapped_0 10 rfl) rfl
theorem dX4_swapped_16 : decode cX4_swapped 16 = .ok (.if_icmp .ge 57, 3) := dk_162 0 57 (bs_at BX4_swapped_0 11 rfl) rfl
theorem dX4_swapped_19 : decode cX4_swapped 19 = .ok (.iload_n 3, 1) := dk_29 (bs_at BX4_swapped_0 12 rfl)
theorem dX4_swapped_20 : decode cX4_swapped 20 = .ok (.ifCond .eq 53, 3) := dk_153 0 53 (bs_at BX4_swapped_0 13 rfl) rfl
theorem dX4_swapped_23 : decode cX4_swapped 23 = .ok (.iconst 0, 1) := dk_3 (bs_at BX4_swapped_0 14 rfl)
theorem dX4_swapped_24 : decode cX4_swapped 24 = .ok (.istore 5, 2) := dk_54 5 (bs_at BX4_swapped_0 15 rfl)
theorem dX4_swapped_26 : decode cX4_swapped 26 = .ok (.iload 5, 2) := dk_21 5 (bs_at BX4_swapped_0 16 rfl)
theorem dX4_swapped_28 : decode cX4_swapped 28 = .ok (.aload_n 1, 1) := dk_43 (bs_at BX4_swapped_0 17 rfl)
theorem dX4_swapped_29 : decode cX4_swapped 29 = .ok (.getfield 27, 3) := dk_180 0 27 (bs_at BX4_swapped_0 18 rfl) rfl
theorem dX4_swapped_32 : decode cX4_swapped 32 = .ok (.if_icmp .ge 24, 3) := dk_162 0 24 (bs_at BX4_swapped_0 19 rfl) rfl
theorem dX4_swapped_35 : decode cX4_swapped 35 = .ok (.aload_n 0, 1) := dk_42 (bs_at BX4_swapped_0 20 rfl)
theorem dX4_swapped_36 : decode cX4_swapped 36 = .ok (.getfield 15, 3) := dk_180 0 15 (bs_at BX4_swapped_0 21 rfl) rfl
theorem dX4_swapped_39 : decode cX4_swapped 39 = .ok (.iload 5, 2) := dk_21 5 (bs_at BX4_swapped_0 22 rfl)
theorem dX4_swapped_41 : decode cX4_swapped 41 = .ok (.aload_n 0, 1) := dk_42 (bs_at BX4_swapped_0 23 rfl)
theorem BX4_swapped_42 : bsegs (ByteArray.data cX4_swapped |>.toList.drop 42) 42 [(42, [43]), (43, [21, 5]), (45, [29]), (46, [182, 0, 33]), (49, [79]), (50, [132, 5, 1]), (53, [167, 255, 229]), (56, [29]), (57, [42]), (58, [43]), (59, [29]), (60, [182, 0, 37]), (63, [2]), (64, [130]), (65, [126]), (66, [62]), (67, [132, 4, 1]), (70, [167, 255, 198]), (73, [28]), (74, [3]), (75, [16, 7]), (77, [184, 0, 41]), (80, [153, 0, 12]), (83, [42])] = true := by decide +kernel
theorem dX4_swapped_42 : decode cX4_swapped 42 = .ok (.aload_n 1, 1) := dk_43 (bs_at BX4_swapped_42 0 rfl)
theorem dX4_swapped_43 : decode cX4_swapped 43 = .ok (.iload 5, 2) := dk_21 5 (bs_at BX4_swapped_42 1 rfl)
theorem dX4_swapped_45 : decode cX4_swapped 45 = .ok (.iload_n 3, 1) := dk_29 (bs_at BX4_swapped_42 2 rfl)
theorem dX4_swapped_46 : decode cX4_swapped 46 = .ok (.invokevirtual 33, 3) := dk_182 0 33 (bs_at BX4_swapped_42 3 rfl) rfl
theorem dX4_swapped_49 : decode cX4_swapped 49 = .ok (.iastore, 1) := dk_79 (bs_at BX4_swapped_42 4 rfl)
theorem dX4_swapped_50 : decode cX4_swapped 50 = .ok (.iinc 5 1, 3) := dk_132 5 1 (bs_at BX4_swapped_42 5 rfl) rfl
theorem dX4_swapped_53 : decode cX4_swapped 53 = .ok (.goto (-27), 3) := dk_167 255 229 (bs_at BX4_swapped_42 6 rfl) rfl
theorem dX4_swapped_56 : decode cX4_swapped 56 = .ok (.iload_n 3, 1) := dk_29 (bs_at BX4_swapped_42 7 rfl)
theorem dX4_swapped_57 : decode cX4_swapped 57 = .ok (.aload_n 0, 1) := dk_42 (bs_at BX4_swapped_42 8 rfl)
theorem dX4_swapped_58 : decode cX4_swapped 58 = .ok (.aload_n 1, 1) := dk_43 (bs_at BX4_swapped_42 9 rfl)
theorem dX4_swapped_59 : decode cX4_swapped 59 = .ok (.iload_n 3, 1) := dk_29 (bs_at BX4_swapped_42 10 rfl)
theorem dX4_swapped_60 : decode cX4_swapped 60 = .ok (.invokevirtual 37, 3) := dk_182 0 37 (bs_at BX4_swapped_42 11 rfl) rfl
theorem dX4_swapped_63 : decode cX4_swapped 63 = .ok (.iconst (-1), 1) := dk_2 (bs_at BX4_swapped_42 12 rfl)
theorem dX4_swapped_64 : decode cX4_swapped 64 = .ok (.ixor, 1) := dk_130 (bs_at BX4_swapped_42 13 rfl)
theorem dX4_swapped_65 : decode cX4_swapped 65 = .ok (.iand, 1) := dk_126 (bs_at BX4_swapped_42 14 rfl)
theorem dX4_swapped_66 : decode cX4_swapped 66 = .ok (.istore_n 3, 1) := dk_62 (bs_at BX4_swapped_42 15 rfl)
theorem dX4_swapped_67 : decode cX4_swapped 67 = .ok (.iinc 4 1, 3) := dk_132 4 1 (bs_at BX4_swapped_42 16 rfl) rfl
theorem dX4_swapped_70 : decode cX4_swapped 70 = .ok (.goto (-58), 3) := dk_167 255 198 (bs_at BX4_swapped_42 17 rfl) rfl
theorem dX4_swapped_73 : decode cX4_swapped 73 = .ok (.iload_n 2, 1) := dk_28 (bs_at BX4_swapped_42 18 rfl)
theorem dX4_swapped_74 : decode cX4_swapped 74 = .ok (.iconst 0, 1) := dk_3 (bs_at BX4_swapped_42 19 rfl)
theorem dX4_swapped_75 : decode cX4_swapped 75 = .ok (.bipush 7, 2) := dk_16 7 (bs_at BX4_swapped_42 20 rfl) rfl
theorem dX4_swapped_77 : decode cX4_swapped 77 = .ok (.invokestatic 41, 3) := dk_184 0 41 (bs_at BX4_swapped_42 21 rfl) rfl
theorem dX4_swapped_80 : decode cX4_swapped 80 = .ok (.ifCond .eq 12, 3) := dk_153 0 12 (bs_at BX4_swapped_42 22 rfl) rfl
theorem dX4_swapped_83 : decode cX4_swapped 83 = .ok (.aload_n 0, 1) := dk_42 (bs_at BX4_swapped_42 23 rfl)
theorem BX4_swapped_84 : bsegs (ByteArray.data cX4_swapped |>.toList.drop 84) 84 [(84, [180, 0, 9]), (87, [28]), (88, [46]), (89, [167, 0, 4]), (92, [2]), (93, [172])] = true := by decide +kernel
theorem dX4_swapped_84 : decode cX4_swapped 84 = .ok (.getfield 9, 3) := dk_180 0 9 (bs_at BX4_swapped_84 0 rfl) rfl
theorem dX4_swapped_87 : decode cX4_swapped 87 = .ok (.iload_n 2, 1) := dk_28 (bs_at BX4_swapped_84 1 rfl)
theorem dX4_swapped_88 : decode cX4_swapped 88 = .ok (.iaload, 1) := dk_46 (bs_at BX4_swapped_84 2 rfl)
theorem dX4_swapped_89 : decode cX4_swapped 89 = .ok (.goto 4, 3) := dk_167 0 4 (bs_at BX4_swapped_84 3 rfl) rfl
theorem dX4_swapped_92 : decode cX4_swapped 92 = .ok (.iconst (-1), 1) := dk_2 (bs_at BX4_swapped_84 4 rfl)
theorem dX4_swapped_93 : decode cX4_swapped 93 = .ok (.ireturn, 1) := dk_172 (bs_at BX4_swapped_84 5 rfl)
theorem BX4_apart_0 : bsegs (ByteArray.data cX4_apart |>.toList.drop 0) 0 [(0, [26]), (1, [27]), (2, [100]), (3, [184, 0, 49]), (6, [61]), (7, [28]), (8, [16, 7]), (10, [28]), (11, [100]), (12, [184, 0, 74]), (15, [172])] = true := by decide +kernel
theorem dX4_apart_0 : decode cX4_apart 0 = .ok (.iload_n 0, 1) := dk_26 (bs_at BX4_apart_0 0 rfl)
theorem dX4_apart_1 : decode cX4_apart 1 = .ok (.iload_n 1, 1) := dk_27 (bs_at BX4_apart_0 1 rfl)
theorem dX4_apart_2 : decode cX4_apart 2 = .ok (.isub, 1) := dk_100 (bs_at BX4_apart_0 2 rfl)
theorem dX4_apart_3 : decode cX4_apart 3 = .ok (.invokestatic 49, 3) := dk_184 0 49 (bs_at BX4_apart_0 3 rfl) rfl
theorem dX4_apart_6 : decode cX4_apart 6 = .ok (.istore_n 2, 1) := dk_61 (bs_at BX4_apart_0 4 rfl)
theorem dX4_apart_7 : decode cX4_apart 7 = .ok (.iload_n 2, 1) := dk_28 (bs_at BX4_apart_0 5 rfl)
theorem dX4_apart_8 : decode cX4_apart 8 = .ok (.bipush 7, 2) := dk_16 7 (bs_at BX4_apart_0 6 rfl) rfl
theorem dX4_apart_10 : decode cX4_apart 10 = .ok (.iload_n 2, 1) := dk_28 (bs_at BX4_apart_0 7 rfl)
theorem dX4_apart_11 : decode cX4_apart 11 = .ok (.isub, 1) := dk_100 (bs_at BX4_apart_0 8 rfl)
theorem dX4_apart_12 : decode cX4_apart 12 = .ok (.invokestatic 74, 3) := dk_184 0 74 (bs_at BX4_apart_0 9 rfl) rfl
theorem dX4_apart_15 : decode cX4_apart 15 = .ok (.ireturn, 1) := dk_172 (bs_at BX4_apart_0 10 rfl)
theorem BX4_nearest_0 : bsegs (ByteArray.data cX4_nearest |>.toList.drop 0) 0 [(0, [26]), (1, [61]), (2, [16, 7]), (4, [62]), (5, [3]), (6, [54, 4]), (8, [21, 4]), (10, [16, 7]), (12, [162, 0, 39]), (15, [27]), (16, [21, 4]), (18, [122]), (19, [4]), (20, [126]), (21, [4]), (22, [160, 0, 23]), (25, [21, 4]), (27, [26]), (28, [184, 0, 71]), (31, [29]), (32, [162, 0, 13]), (35, [21, 4]), (37, [26]), (38, [184, 0, 71])] = true := by decide +kernel
theorem dX4_nearest_0 : decode cX4_nearest 0 = .ok (.iload_n 0, 1) := dk_26 (bs_at BX4_nearest_0 0 rfl)
theorem dX4_nearest_1 : decode cX4_nearest 1 = .ok (.istore_n 2, 1) := dk_61 (bs_at BX4_nearest_0 1 rfl)
theorem dX4_nearest_2 : decode cX4_nearest 2 = .ok (.bipush 7, 2) := dk_16 7 (bs_at BX4_nearest_0 2 rfl) rfl
theorem dX4_nearest_4 : decode cX4_nearest 4 = .ok (.istore_n 3, 1) := dk_62 (bs_at BX4_nearest_0 3 rfl)
theorem dX4_nearest_5 : decode cX4_nearest 5 = .ok (.iconst 0, 1) := dk_3 (bs_at BX4_nearest_0 4 rfl)
theorem dX4_nearest_6 : decode cX4_nearest 6 = .ok (.istore 4, 2) := dk_54 4 (bs_at BX4_nearest_0 5 rfl)
theorem dX4_nearest_8 : decode cX4_nearest 8 = .ok (.iload 4, 2) := dk_21 4 (bs_at BX4_nearest_0 6 rfl)
theorem dX4_nearest_10 : decode cX4_nearest 10 = .ok (.bipush 7, 2) := dk_16 7 (bs_at BX4_nearest_0 7 rfl) rfl
theorem dX4_nearest_12 : decode cX4_nearest 12 = .ok (.if_icmp .ge 39, 3) := dk_162 0 39 (bs_at BX4_nearest_0 8 rfl) rfl
theorem dX4_nearest_15 : decode cX4_nearest 15 = .ok (.iload_n 1, 1) := dk_27 (bs_at BX4_nearest_0 9 rfl)
theorem dX4_nearest_16 : decode cX4_nearest 16 = .ok (.iload 4, 2) := dk_21 4 (bs_at BX4_nearest_0 10 rfl)
theorem dX4_nearest_18 : decode cX4_nearest 18 = .ok (.ishr, 1) := dk_122 (bs_at BX4_nearest_0 11 rfl)
theorem dX4_nearest_19 : decode cX4_nearest 19 = .ok (.iconst 1, 1) := dk_4 (bs_at BX4_nearest_0 12 rfl)
theorem dX4_nearest_20 : decode cX4_nearest 20 = .ok (.iand, 1) := dk_126 (bs_at BX4_nearest_0 13 rfl)
theorem dX4_nearest_21 : decode cX4_nearest 21 = .ok (.iconst 1, 1) := dk_4 (bs_at BX4_nearest_0 14 rfl)
theorem dX4_nearest_22 : decode cX4_nearest 22 = .ok (.if_icmp .ne 23, 3) := dk_160 0 23 (bs_at BX4_nearest_0 15 rfl) rfl
theorem dX4_nearest_25 : decode cX4_nearest 25 = .ok (.iload 4, 2) := dk_21 4 (bs_at BX4_nearest_0 16 rfl)
theorem dX4_nearest_27 : decode cX4_nearest 27 = .ok (.iload_n 0, 1) := dk_26 (bs_at BX4_nearest_0 17 rfl)
theorem dX4_nearest_28 : decode cX4_nearest 28 = .ok (.invokestatic 71, 3) := dk_184 0 71 (bs_at BX4_nearest_0 18 rfl) rfl
theorem dX4_nearest_31 : decode cX4_nearest 31 = .ok (.iload_n 3, 1) := dk_29 (bs_at BX4_nearest_0 19 rfl)
theorem dX4_nearest_32 : decode cX4_nearest 32 = .ok (.if_icmp .ge 13, 3) := dk_162 0 13 (bs_at BX4_nearest_0 20 rfl) rfl
theorem dX4_nearest_35 : decode cX4_nearest 35 = .ok (.iload 4, 2) := dk_21 4 (bs_at BX4_nearest_0 21 rfl)
theorem dX4_nearest_37 : decode cX4_nearest 37 = .ok (.iload_n 0, 1) := dk_26 (bs_at BX4_nearest_0 22 rfl)
theorem dX4_nearest_38 : decode cX4_nearest 38 = .ok (.invokestatic 71, 3) := dk_184 0 71 (bs_at BX4_nearest_0 23 rfl) rfl
theorem BX4_nearest_41 : bsegs (ByteArray.data cX4_nearest |>.toList.drop 41) 41 [(41, [62]), (42, [21, 4]), (44, [61]), (45, [132, 4, 1]), (48, [167, 255, 216]), (51, [28]), (52, [172])] = true := by decide +kernel
theorem dX4_nearest_41 : decode cX4_nearest 41 = .ok (.istore_n 3, 1) := dk_62 (bs_at BX4_nearest_41 0 rfl)
theorem dX4_nearest_42 : decode cX4_nearest 42 = .ok (.iload 4, 2) := dk_21 4 (bs_at BX4_nearest_41 1 rfl)
theorem dX4_nearest_44 : decode cX4_nearest 44 = .ok (.istore_n 2, 1) := dk_61 (bs_at BX4_nearest_41 2 rfl)
theorem dX4_nearest_45 : decode cX4_nearest 45 = .ok (.iinc 4 1, 3) := dk_132 4 1 (bs_at BX4_nearest_41 3 rfl) rfl
theorem dX4_nearest_48 : decode cX4_nearest 48 = .ok (.goto (-40), 3) := dk_167 255 216 (bs_at BX4_nearest_41 4 rfl) rfl
theorem dX4_nearest_51 : decode cX4_nearest 51 = .ok (.iload_n 2, 1) := dk_28 (bs_at BX4_nearest_41 5 rfl)
theorem dX4_nearest_52 : decode cX4_nearest 52 = .ok (.ireturn, 1) := dk_172 (bs_at BX4_nearest_41 6 rfl)
theorem ggX4_favourite_X9_fact : GoodIn wsX4_favourite wsX9_fact := gi_ch ch_X4_favourite ch_X9_fact (by decide +kernel)
set_option maxRecDepth 20000 in
theorem gX4_favourite_X9_fact_n45 : GoodIn wsX4_favourite (wsX9_fact) := ggX4_favourite_X9_fact
theorem ggX4_ring_X9_fact : GoodIn wsX4_ring wsX9_fact := gi_ch ch_X4_ring ch_X9_fact (by decide +kernel)
set_option maxRecDepth 20000 in
theorem gX4_ring_X9_fact_n45 : GoodIn wsX4_ring (wsX9_fact) := ggX4_ring_X9_fact
theorem ggX4_swapped_X11_within : GoodIn wsX4_swapped wsX11_within := gi_ch ch_X4_swapped ch_X11_within (by decide +kernel)
set_option maxRecDepth 20000 in
theorem gX4_swapped_X11_within_n41 : GoodIn wsX4_swapped (wsX11_within) := ggX4_swapped_X11_within
theorem ggX4_swapped_X4_ring : GoodIn wsX4_swapped wsX4_ring := gi_ch ch_X4_swapped ch_X4_ring (by decide +kernel)
theorem gX4_swapped_X4_ring : GoodIn wsX4_swapped (wsV RX4 37 RX4 yX4_ring wsX4_ring) := gi_ch ch_X4_swapped (ch_v [703, 704, 61, 155] rfl ch_X4_ring) (by decide +kernel)
theorem ggX4_swapped_X4_favourite : GoodIn wsX4_swapped wsX4_favourite := gi_ch ch_X4_swapped ch_X4_favourite (by decide +kernel)
theorem gX4_swapped_X4_favourite : GoodIn wsX4_swapped (wsV RX4 33 RX4 yX4_favourite wsX4_favourite) := gi_ch ch_X4_swapped (ch_v [699, 700, 60, 155] rfl ch_X4_favourite) (by decide +kernel)
theorem ggX4_nearest_X4_apart : GoodIn wsX4_nearest wsX4_apart := gi_ch ch_X4_nearest ch_X4_apart (by decide +kernel)
theorem gX4_nearest_X4_apart : GoodIn wsX4_nearest (va_wsS RX4 71 yX4_apart wsX4_apart) := gi_ch ch_X4_nearest (ch_s [718, 719, 155] rfl ch_X4_apart) (by decide +kernel)
set_option maxRecDepth 100000 in
noncomputable def E_w_favourite_j73 (v_458 : Int32) (rec_504 : Int32 → Int32 → Int32 → (Int32)) (v_519 : Int32) (v_520 : Int32) : Int32 :=
  Lt (v_458 + Int32.ofInt 1 : Int32) (fun x_523 => rec_504 x_523 v_519 v_520)
set_option maxRecDepth 100000 in
noncomputable def E_w_favourite_l10 (x : Int32) (y : Int32) (n : Int32) (f1 : Nat → Int32) (rec_504 : Int32 → Int32 → Int32 → (Int32)) (v_458 : Int32) (v_459 : Int32) (v_460 : Int32) : Int32 :=
  if n ≤ v_458 then ((v_460 : Int32)) else (Lt (E_w_fact v_458 3 f1) (fun r_507 => Lt (E_w_fact x 4 f1) (fun r_509 => Lt (r_507 - r_509 : Int32) (fun x_511 => Lt (if 0 ≤ (x_511 : Int32) then (x_511 : Int32) else 0 - (x_511 : Int32) : Int32) (fun x_512 => Lt (x_512 * 8 : Int32) (fun x_513 => Lt (x_513 + r_507 : Int32) (fun x_514 => Lt (y >>> (v_458 &&& 31) : Int32) (fun x_515 => Lt (x_515 &&& 1 : Int32) (fun x_516 => if x_516 = 1 then (if v_459 ≤ x_514 then (E_w_favourite_j73 v_458 rec_504 v_459 v_460) else (E_w_favourite_j73 v_458 rec_504 x_514 v_458)) else (E_w_favourite_j73 v_458 rec_504 v_459 v_460))))))))))
set_option maxRecDepth 100000 in
noncomputable def E_w_favourite (x : Int32) (y : Int32) (n : Int32) (ho : Int32) (f1 : Nat → Int32) (f2 : Nat → Int32) : Int32 :=
  Lp (α := Int32 → Int32 → Int32 → (Int32)) (E_w_favourite_l10 x y n f1) (fun _ _ _ => ((0) : Int32)) ((9 - (0 : Int32).toInt : Int).toNat + 1) 0 64 x
set_option maxHeartbeats 4000000 in
set_option maxRecDepth 100000 in
theorem w_favourite (l : Launch) (D : va_G) (K : Nat → ClassId) (p0 : Nat) (t0 : Nat) (x : Int32) (y : Int32) (p1 : Nat) (p2 : Nat) (p3 : Nat) (p4 : Nat) (p5 : Nat) (t1 : Nat) (k_1 : Value) (t2 : Nat) (k_3 : Value) (n : Int32) (k_5 : Value) (k_6 : Value) (k_7 : Value) (k_8 : Value) (ho : Int32) (f1 : Nat → Int32) (f2 : Nat → Int32) (sz : Nat) (zn : 0 ≤ n.toInt ∧ n.toInt ≤ 8) (zx : 0 ≤ x.toInt ∧ x.toInt ≤ 7) : Met l yX4_favourite wsX4_favourite ({ frames := 1, cells := 0, slots := 0, locals := 23 }) (va_Pc [.ref p0, .ref t0, .int x, .int y] (Pre D K [(p0, .inr (4, [.ref p1, .ref p2, .ref p3, .ref p4, .ref p5])), (t0, .inr (9, [.ref t1, k_1, .ref t2, k_3, .int n, k_5, k_6, k_7, k_8, .int ho])), (t1, .inl (K 0, 56, .inl f1)), (t2, .inl (K 0, 6, .inl f2))] sz)) (vp_Si (fun r : Int32 => (0 ≤ r.toInt ∧ r.toInt ≤ 7) ∧ (r = E_w_favourite x y n ho f1 f2) ∧ True)) 0 0 (fun _ => False) := by
  refine Met.ofW (cc := cX4_favourite) (maxL := 9) (ret := (some .int)) (by decide +kernel) rfl ?_
  intro p e s m args below meth c s₁ B hml hv
  obtain ⟨rfl, hsz, hP, hK, hD0, hN⟩ := hv
  have hx := B.exec
  have hb := B.bytes
  have hr := B.returns
  have hts := atoms_spec (ws := wsX4_favourite) B.pre
  have hown : s.vm.findClass RX4 = some m.cls := findClass_of_methodNamed B.named
  have hlocks := B.notSynchronized
  subst hsz
  have hD := hD0
  replace hP : va_P D vwCl [(p0, .inr (4, [.ref p1, .ref p2, .ref p3, .ref p4, .ref p5])), (t0, .inr (9, [.ref t1, k_1, .ref t2, k_3, .int n, k_5, k_6, k_7, k_8, .int ho])), (t1, .inl (K 0, 56, .inl f1)), (t2, .inl (K 0, 6, .inl f2))] s.heap := hP
  have hl := lv_entry [.ref p0, .ref t0, .int x, .int y] (n := 9) (Nat.le_of_ble_eq_true rfl)
  rw [lg_entry_eq]
  generalize (lg_sl [.ref p0, .ref t0, .int x, .int y] ++ List.replicate (9 - (lg_sl [.ref p0, .ref t0, .int x, .int y]).length) Slot.unset).toArray = ls at hl ⊢
  have hl : lv_has ls 9 [(0, .ref p0), (1, .ref t0), (2, .int x), (3, .int y)] := hl
  have hw9 : ∀ w ∈ wsX90, w ∈ wsX4_favourite := fun w h => (List.mem_cons_of_mem _ (List.mem_append_right _ h))
  generalize hQ : MQ below _ _ s _ _ _ = Q
  have hE := E_w_favourite.eq_def x y n ho f1 f2
  refine lv_iload_n hx hb dX4_favourite_0 rfl (lv_at hl 2 rfl) ?_
  refine lv_istore (lv' := [(4, .int x), (0, .ref p0), (1, .ref t0), (2, .int x), (3, .int y)]) hx hb dX4_favourite_1 hl (by decide +kernel) rfl (fun ls hl => ?_)
  refine lv_bipush (v := 64) hx hb dX4_favourite_3 (by decide +kernel) ?_
  refine lv_istore (lv' := [(5, .int 64), (4, .int x), (0, .ref p0), (1, .ref t0), (2, .int x), (3, .int y)]) hx hb dX4_favourite_5 hl (by decide +kernel) rfl (fun ls hl => ?_)
  refine lv_iconst (v := 0) hx hb dX4_favourite_7 (by decide +kernel) ?_
  refine lv_istore (lv' := [(6, .int 0), (5, .int 64), (4, .int x), (0, .ref p0), (1, .ref t0), (2, .int x), (3, .int y)]) hx hb dX4_favourite_8 hl (by decide +kernel) rfl (fun ls hl => ?_)
  have lp_504 : ∀ (nn_ : Nat) (v_458 : Int32) (v_459 : Int32) (v_460 : Int32) (hv_458 : 0 ≤ v_458.toInt ∧ v_458.toInt ≤ 8) (hv_459 : v_459.toInt ≤ 64) (hv_460 : 0 ≤ v_460.toInt ∧ v_460.toInt ≤ 7) (hn : (9 - v_458.toInt : Int).toNat < nn_) (hE : E_w_favourite x y n ho f1 f2 = Lp (α := Int32 → Int32 → Int32 → (Int32)) (E_w_favourite_l10 x y n f1) (fun _ _ _ => ((0) : Int32)) nn_ v_458 v_459 v_460) (ls : Array Slot) (hl : lv_has ls 9 [(6, .int v_458), (5, .int v_459), (4, .int v_460), (1, .ref t0), (2, .int x), (3, .int y)]), W p l e ({ frames := 1, cells := 0, slots := 0, locals := 23 }) s m (([.ref p0, .ref t0, .int x, .int y] : List Value).toArray) below meth c s.heap [] 0 0 Q (F0 m 10 ls []) := by
    clear hE hl
    intro nn_
    induction nn_ with
    | zero =>
      intro v_458 v_459 v_460 hv_458 hv_459 hv_460 hn hE ls hl
      exact absurd hn (Nat.not_lt_zero _)
    | succ nn_ ih_505 =>
      intro v_458 v_459 v_460 hv_458 hv_459 hv_460 hn hE ls hl
      replace hE : E_w_favourite x y n ho f1 f2 = E_w_favourite_l10 x y n f1 (Lp (α := Int32 → Int32 → Int32 → (Int32)) (E_w_favourite_l10 x y n f1) (fun _ _ _ => ((0) : Int32)) nn_) v_458 v_459 v_460 := hE
      obtain ⟨rec_504, hrec_504⟩ : ∃ z9, z9 = Lp (α := Int32 → Int32 → Int32 → (Int32)) (E_w_favourite_l10 x y n f1) (fun _ _ _ => ((0) : Int32)) nn_ := ⟨_, rfl⟩
      rw [← hrec_504] at hE
      replace hE := hE.trans (E_w_favourite_l10.eq_def _ _ _ _ _ _ _ _)
      refine lv_iload hx hb dX4_favourite_10 (lv_at hl 0 rfl) ?_
      refine lv_aload_n hx hb dX4_favourite_12 rfl (lv_at hl 3 rfl) ?_
      refine va_getN (ci := 9) (v := .int n) (C := RX9) (T := TX9) (N := 10) hx hb hts hw9 hown hK hP 1 rfl rfl 4 (by decide +kernel) (nst_use hN 106 rfl) (fun _ h9 => h9) rfl dX4_favourite_13 ?_
      refine lv_icmp_ge (tgt := 79) hx hb dX4_favourite_16 (by decide +kernel) (fun c_506 => ?_) (fun c_506 => ?_)
      · have c_506i := i_le (x := n.toInt) (y := v_458.toInt) rfl rfl c_506
        replace hE := hE.trans (if_pos c_506)
        refine lv_iload hx hb dX4_favourite_79 (lv_at hl 2 rfl) ?_
        rw [← hQ]
        exact W.iret (v := v_460) hx hb hr (fun t ht hW => ⟨_, rfl, ⟨(show 0 ≤ v_460.toInt ∧ v_460.toInt ≤ 7 by omega), hE.symm, trivial⟩, ht⟩) (fun q hq => by cases hq) dX4_favourite_81
      · have c_506i := i_nle (x := n.toInt) (y := v_458.toInt) rfl rfl c_506
        replace hE := hE.trans (if_neg c_506)
        refine lv_aload_n hx hb dX4_favourite_19 rfl (lv_at hl 3 rfl) ?_
        refine lv_iload hx hb dX4_favourite_20 (lv_at hl 0 rfl) ?_
        refine lv_iconst (v := 3) hx hb dX4_favourite_22 (by decide +kernel) ?_
        refine pci (va_runVN (As := [.int v_458, .int 3]) (rest := []) ⟨hx, hb, hml, hown, hts⟩ (w_fact l D K t0 v_458 3 t1 k_1 (.ref t2) k_3 (.int n) k_5 k_6 k_7 k_8 (.int ho) f1 s.heap.size) ⟨va_cnB 2 hts gX4_favourite_X9_fact_n45 rfl rfl rfl (nst_at hN 84 rfl) (hts _ mm_X4_favourite_145) (by decide +kernel) ⟨Nat.le_of_ble_eq_true rfl, Nat.le_of_ble_eq_true rfl⟩, (hts _ mm_X4_favourite_381), (hts _ mm_X4_favourite_2)⟩ (mkV hK hN (hP.sub [1, 2] rfl) (hD.sub [1, 2] (by decide +kernel) rfl) (ci := 9) (q0 := 0) rfl rfl) rfl rfl hl.1 rfl (lv_room (Nat.le_of_ble_eq_true rfl)) dX4_favourite_23 ⟨Nat.le_of_ble_eq_true rfl, Nat.le_of_ble_eq_true rfl⟩) (fun r_507 hw => ?_)
        obtain ⟨k_508, -⟩ := hw
        replace hE := hE.trans (Lt_in k_508)
        refine lv_istore (lv' := [(7, .int r_507), (6, .int v_458), (5, .int v_459), (4, .int v_460), (1, .ref t0), (2, .int x), (3, .int y)]) hx hb dX4_favourite_26 hl (by decide +kernel) rfl (fun ls hl => ?_)
        refine lv_iload hx hb dX4_favourite_28 (lv_at hl 0 rfl) ?_
        refine lv_aload_n hx hb dX4_favourite_30 rfl (lv_at hl 4 rfl) ?_
        refine lv_iload_n hx hb dX4_favourite_31 rfl (lv_at hl 5 rfl) ?_
        refine lv_iconst (v := 4) hx hb dX4_favourite_32 (by decide +kernel) ?_
        refine pci (va_runVN (As := [.int x, .int 4]) (rest := [.int r_507]) ⟨hx, hb, hml, hown, hts⟩ (w_fact l D K t0 x 4 t1 k_1 (.ref t2) k_3 (.int n) k_5 k_6 k_7 k_8 (.int ho) f1 s.heap.size) ⟨va_cnB 2 hts gX4_favourite_X9_fact_n45 rfl rfl rfl (nst_at hN 84 rfl) (hts _ mm_X4_favourite_145) (by decide +kernel) ⟨Nat.le_of_ble_eq_true rfl, Nat.le_of_ble_eq_true rfl⟩, (hts _ mm_X4_favourite_381), (hts _ mm_X4_favourite_2)⟩ (mkV hK hN (hP.sub [1, 2] rfl) (hD.sub [1, 2] (by decide +kernel) rfl) (ci := 9) (q0 := 0) rfl rfl) rfl rfl hl.1 rfl (lv_room (Nat.le_of_ble_eq_true rfl)) dX4_favourite_33 ⟨Nat.le_of_ble_eq_true rfl, Nat.le_of_ble_eq_true rfl⟩) (fun r_509 hw => ?_)
        obtain ⟨k_510, -⟩ := hw
        replace hE := hE.trans (Lt_in k_510)
        refine lv_isub hx hb dX4_favourite_36 ?_
        refine lv_topi (fun x_511 ex_511 => ?_)
        replace hE := hE.trans (Lt_in ex_511)
        refine va_mabs hx hb (hml.trans hl.1.symm) hown (hts _ mm_X4_favourite_702) (hts _ mm_X4_favourite_622) (hts _ mm_X4_favourite_157) (hts _ mm_X4_favourite_623) (Nat.le_of_ble_eq_true rfl) (Nat.le_of_ble_eq_true rfl) (Nat.le_of_ble_eq_true rfl) (Nat.le_of_ble_eq_true rfl) dX4_favourite_37 ?_
        refine lv_topi (fun x_512 ex_512 => ?_)
        replace hE := hE.trans (Lt_in ex_512)
        refine lv_bipush (v := 8) hx hb dX4_favourite_40 (by decide +kernel) ?_
        refine lv_imul hx hb dX4_favourite_42 ?_
        refine lv_topi (fun x_513 ex_513 => ?_)
        replace hE := hE.trans (Lt_in ex_513)
        refine lv_iload hx hb dX4_favourite_43 (lv_at hl 0 rfl) ?_
        refine lv_iadd hx hb dX4_favourite_45 ?_
        refine lv_topi (fun x_514 ex_514 => ?_)
        replace hE := hE.trans (Lt_in ex_514)
        refine lv_istore (lv' := [(8, .int x_514), (7, .int r_507), (6, .int v_458), (5, .int v_459), (4, .int v_460), (1, .ref t0), (2, .int x), (3, .int y)]) hx hb dX4_favourite_46 hl (by decide +kernel) rfl (fun ls hl => ?_)
        refine lv_iload_n hx hb dX4_favourite_48 rfl (lv_at hl 7 rfl) ?_
        refine lv_iload hx hb dX4_favourite_49 (lv_at hl 2 rfl) ?_
        refine lv_ishr hx hb dX4_favourite_51 ?_
        refine lv_topi (fun x_515 ex_515 => ?_)
        replace hE := hE.trans (Lt_in ex_515)
        refine lv_iconst (v := 1) hx hb dX4_favourite_52 (by decide +kernel) ?_
        refine lv_iand hx hb dX4_favourite_53 ?_
        refine lv_topi (fun x_516 ex_516 => ?_)
        replace hE := hE.trans (Lt_in ex_516)
        have hx_516 : 0 ≤ x_516.toInt ∧ x_516.toInt ≤ 1 := by rw [ex_516]; exact i_mask x_515 1 rfl (by decide +kernel)
        refine lv_iconst (v := 1) hx hb dX4_favourite_54 (by decide +kernel) ?_
        have j_522 : ∀ (v_519 : Int32) (v_520 : Int32) (hv_519 : v_519.toInt ≤ 64) (hv_520 : 0 ≤ v_520.toInt ∧ v_520.toInt ≤ 7) (hE : E_w_favourite x y n ho f1 f2 = E_w_favourite_j73 v_458 rec_504 v_519 v_520) (ls : Array Slot) (hl : lv_has ls 9 [(6, .int v_458), (5, .int v_519), (4, .int v_520), (1, .ref t0), (2, .int x), (3, .int y)]), W p l e ({ frames := 1, cells := 0, slots := 0, locals := 23 }) s m (([.ref p0, .ref t0, .int x, .int y] : List Value).toArray) below meth c s.heap [] 0 0 Q (F0 m 73 ls []) := by
          clear hE hl
          intro v_519 v_520 hv_519 hv_520 hE ls hl
          replace hE := hE.trans (E_w_favourite_j73.eq_def _ _ _ _)
          obtain ⟨x_523, ex_523⟩ : ∃ y : Int32, y = v_458 + Int32.ofInt 1 := ⟨_, rfl⟩
          replace hE := hE.trans (Lt_in ex_523)
          have hx_523 : x_523.toInt = (v_458.toInt + 1) := by rw [ex_523]; exact i_add rfl (show (Int32.ofInt 1).toInt = 1 from rfl) (by omega)
          refine lv_iinc (v := x_523) (lv' := [(6, .int x_523), (5, .int v_519), (4, .int v_520), (1, .ref t0), (2, .int x), (3, .int y)]) hx hb dX4_favourite_73 hl (k := 0) rfl (by rw [ex_523]) (by decide +kernel) rfl (fun ls hl => ?_)
          refine lv_goto (tgt := 10) hx hb dX4_favourite_76 (by decide +kernel) ?_
          exact ih_505 x_523 v_519 v_520 (by rw [hx_523]; omega) (by omega) (by omega) (by omega) (hE.trans (by rw [hrec_504])) ls (lv_sub hl [0, 1, 2, 3, 4, 5] rfl)
        refine lv_icmp_ne (tgt := 73) hx hb dX4_favourite_55 (by decide +kernel) (fun c_524 => ?_) (fun c_524 => ?_)
        · have c_524i := i_ne (x := x_516.toInt) (y := 1) rfl rfl c_524
          replace hE := hE.trans (if_neg c_524)
          exact j_522 v_459 v_460 (by omega) (by omega) hE ls (lv_sub hl [2, 3, 4, 5, 6, 7] rfl)
        · have c_524i := i_eq (x := x_516.toInt) (y := 1) rfl rfl c_524
          replace hE := hE.trans (if_pos c_524)
          refine lv_iload hx hb dX4_favourite_58 (lv_at hl 0 rfl) ?_
          refine lv_iload hx hb dX4_favourite_60 (lv_at hl 3 rfl) ?_
          refine lv_icmp_ge (tgt := 73) hx hb dX4_favourite_62 (by decide +kernel) (fun c_525 => ?_) (fun c_525 => ?_)
          · have c_525i := i_le (x := v_459.toInt) (y := x_514.toInt) rfl rfl c_525
            replace hE := hE.trans (if_pos c_525)
            exact j_522 v_459 v_460 (by omega) (by omega) hE ls (lv_sub hl [2, 3, 4, 5, 6, 7] rfl)
          · have c_525i := i_nle (x := v_459.toInt) (y := x_514.toInt) rfl rfl c_525
            replace hE := hE.trans (if_neg c_525)
            refine lv_iload hx hb dX4_favourite_65 (lv_at hl 0 rfl) ?_
            refine lv_istore (lv' := [(5, .int x_514), (8, .int x_514), (7, .int r_507), (6, .int v_458), (4, .int v_460), (1, .ref t0), (2, .int x), (3, .int y)]) hx hb dX4_favourite_67 hl (by decide +kernel) rfl (fun ls hl => ?_)
            refine lv_iload hx hb dX4_favourite_69 (lv_at hl 3 rfl) ?_
            refine lv_istore (lv' := [(4, .int v_458), (5, .int x_514), (8, .int x_514), (7, .int r_507), (6, .int v_458), (1, .ref t0), (2, .int x), (3, .int y)]) hx hb dX4_favourite_71 hl (by decide +kernel) rfl (fun ls hl => ?_)
            exact j_522 x_514 v_458 (by omega) (by omega) hE ls (lv_sub hl [4, 1, 0, 5, 6, 7] rfl)
  exact lp_504 ((9 - (0 : Int32).toInt : Int).toNat + 1) 0 64 x (by decide +kernel) (by decide +kernel) (by omega) (Nat.lt_succ_self _) hE ls (lv_sub hl [0, 1, 2, 4, 5, 6] rfl)
set_option maxRecDepth 100000 in
noncomputable def E_w_ring_j109 (v_1587 : Int32) (f_1589 : Nat → Int32) : Int32 × (Nat → Int32) :=
  ((v_1587, f_1589) : Int32 × (Nat → Int32))
set_option maxRecDepth 100000 in
noncomputable def E_w_ring_l55 (fp : Nat → Int32) (f1 : Nat → Int32) (rec_1644 : Int32 → Int32 → Int32 → (Nat → Int32) → (Int32 × (Nat → Int32))) (v_1586 : Int32) (v_1587 : Int32) (v_1588 : Int32) (f_1589 : Nat → Int32) : Int32 × (Nat → Int32) :=
  if 8 ≤ v_1586 then (E_w_ring_j109 v_1587 f_1589) else (Lt (v_1587 >>> (v_1588 &&& 31) : Int32) (fun x_1660 => Lt (x_1660 &&& 1 : Int32) (fun x_1661 => if x_1661 = 0 then (Lt (1 <<< (v_1588 &&& 31) : Int32) (fun x_1663 => Lt (v_1587 ||| x_1663 : Int32) (fun x_1664 => Lt (fp (v_1588 : Int32).toNatClampNeg : Int32) (fun x_1665 => Lt (E_w_fact x_1665 3 f1) (fun r_1666 => Lt (upd f_1589 (v_1588 : Int32).toNatClampNeg r_1666 : Nat → Int32) (fun f_1668 => Lt (fp (v_1588 : Int32).toNatClampNeg : Int32) (fun x_1669 => Lt (v_1586 + Int32.ofInt 1 : Int32) (fun x_1670 => rec_1644 x_1670 x_1664 x_1669 f_1668)))))))) else (E_w_ring_j109 v_1587 f_1589))))
set_option maxRecDepth 100000 in
noncomputable def E_w_ring_l29 (fd : Nat → Int32) (fp : Nat → Int32) (f1 : Nat → Int32) (rec_1475 : Int32 → Int32 → (Int32 × (Nat → Int32))) (v_1465 : Int32) (v_1466 : Int32) : Int32 × (Nat → Int32) :=
  if 8 ≤ v_1465 then (Lp (α := Int32 → Int32 → Int32 → (Nat → Int32) → (Int32 × (Nat → Int32))) (E_w_ring_l55 fp f1) (fun _ _ _ _ => ((0, fun _ => 0) : Int32 × (Nat → Int32))) ((9 - (0 : Int32).toInt : Int).toNat + 1) 0 0 v_1466 fd) else (Lt (fp (v_1466 : Int32).toNatClampNeg : Int32) (fun x_1671 => Lt (v_1465 + Int32.ofInt 1 : Int32) (fun x_1672 => rec_1475 x_1672 x_1671)))
set_option maxRecDepth 100000 in
noncomputable def E_w_ring_j26 (fd : Nat → Int32) (fp : Nat → Int32) (f1 : Nat → Int32) (v_1188 : Int32) : Int32 × (Nat → Int32) :=
  Lp (α := Int32 → Int32 → (Int32 × (Nat → Int32))) (E_w_ring_l29 fd fp f1) (fun _ _ => ((0, fun _ => 0) : Int32 × (Nat → Int32))) ((9 - (0 : Int32).toInt : Int).toNat + 1) 0 v_1188
set_option maxRecDepth 100000 in
noncomputable def E_w_ring_l2 (x : Int32) (fd : Nat → Int32) (fp : Nat → Int32) (n : Int32) (f1 : Nat → Int32) (rec_1214 : Int32 → (Int32 × (Nat → Int32))) (v_1188 : Int32) : Int32 × (Nat → Int32) :=
  Lt (n - 1 : Int32) (fun x_1216 => if x_1216 ≤ v_1188 then (E_w_ring_j26 fd fp f1 v_1188) else (Lt (x >>> (v_1188 &&& 31) : Int32) (fun x_1674 => Lt (x_1674 &&& 1 : Int32) (fun x_1675 => if x_1675 = 0 then (Lt (v_1188 + Int32.ofInt 1 : Int32) (fun x_1677 => rec_1214 x_1677)) else (E_w_ring_j26 fd fp f1 v_1188)))))
set_option maxRecDepth 100000 in
noncomputable def E_w_ring (x : Int32) (fd : Nat → Int32) (fp : Nat → Int32) (n : Int32) (ho : Int32) (f1 : Nat → Int32) (f2 : Nat → Int32) : Int32 × (Nat → Int32) :=
  Lp (α := Int32 → (Int32 × (Nat → Int32))) (E_w_ring_l2 x fd fp n f1) (fun _ => ((0, fun _ => 0) : Int32 × (Nat → Int32))) ((8 - (0 : Int32).toInt : Int).toNat + 1) 0
set_option maxHeartbeats 4000000 in
set_option maxRecDepth 100000 in
theorem w_ring (l : Launch) (D : va_G) (K : Nat → ClassId) (p0 : Nat) (t0 : Nat) (x : Int32) (p1 : Nat) (p2 : Nat) (p3 : Nat) (p4 : Nat) (p5 : Nat) (fd : Nat → Int32) (fp : Nat → Int32) (t1 : Nat) (k_1 : Value) (t2 : Nat) (k_3 : Value) (n : Int32) (k_5 : Value) (k_6 : Value) (k_7 : Value) (k_8 : Value) (ho : Int32) (f1 : Nat → Int32) (f2 : Nat → Int32) (sz : Nat) (zn : 1 ≤ n.toInt ∧ n.toInt ≤ 8) (zfp : Rg 8 0 7 fp) : Met l yX4_ring wsX4_ring ({ frames := 1, cells := 0, slots := 0, locals := 23 }) (va_Pc [.ref p0, .ref t0, .int x] (Pre D K [(p0, .inr (4, [.ref p1, .ref p2, .ref p3, .ref p4, .ref p5])), (p1, .inl (K 0, 8, .inl fd)), (p2, .inl (K 0, 8, .inl fp)), (t0, .inr (9, [.ref t1, k_1, .ref t2, k_3, .int n, k_5, k_6, k_7, k_8, .int ho])), (t1, .inl (K 0, 56, .inl f1)), (t2, .inl (K 0, 6, .inl f2))] sz)) (va_Qi (S := Su) (fun (r : Int32) (u : Su) => (0 ≤ r.toInt ∧ r.toInt ≤ 255) ∧ ((r, (u.2.1 0)) = E_w_ring x fd fp n ho f1 f2) ∧ True) (fun u t => Wd D (va_A [(p0, .inr (4, [.ref p1, .ref p2, .ref p3, .ref p4, .ref p5])), (p1, .inl (K 0, 8, .inl fd)), (p2, .inl (K 0, 8, .inl fp)), (t0, .inr (9, [.ref t1, k_1, .ref t2, k_3, .int n, k_5, k_6, k_7, k_8, .int ho])), (t1, .inl (K 0, 56, .inl f1)), (t2, .inl (K 0, 6, .inl f2))] sz) ((fun u => [(p0, .inr (4, [.ref p1, .ref p2, .ref p3, .ref p4, .ref p5])), (p1, .inl (K 0, 8, .inl (u.2.1 0))), (p2, .inl (K 0, 8, .inl fp)), (t0, .inr (9, [.ref t1, k_1, .ref t2, k_3, .int n, k_5, k_6, k_7, k_8, .int ho])), (t1, .inl (K 0, 56, .inl f1)), (t2, .inl (K 0, 6, .inl f2))]) u) t) (va_A [(p0, .inr (4, [.ref p1, .ref p2, .ref p3, .ref p4, .ref p5])), (p1, .inl (K 0, 8, .inl fd)), (p2, .inl (K 0, 8, .inl fp)), (t0, .inr (9, [.ref t1, k_1, .ref t2, k_3, .int n, k_5, k_6, k_7, k_8, .int ho])), (t1, .inl (K 0, 56, .inl f1)), (t2, .inl (K 0, 6, .inl f2))] sz)) 0 0 (va_A [(p0, .inr (4, [.ref p1, .ref p2, .ref p3, .ref p4, .ref p5])), (p1, .inl (K 0, 8, .inl fd)), (p2, .inl (K 0, 8, .inl fp)), (t0, .inr (9, [.ref t1, k_1, .ref t2, k_3, .int n, k_5, k_6, k_7, k_8, .int ho])), (t1, .inl (K 0, 56, .inl f1)), (t2, .inl (K 0, 6, .inl f2))] sz) := by
  refine Met.ofW (cc := cX4_ring) (maxL := 6) (ret := (some .int)) (by decide +kernel) rfl ?_
  intro p e s m args below meth c s₁ B hml hv
  obtain ⟨rfl, hsz, hP, hK, hD0, hN⟩ := hv
  have hx := B.exec
  have hb := B.bytes
  have hr := B.returns
  have hts := atoms_spec (ws := wsX4_ring) B.pre
  have hown : s.vm.findClass RX4 = some m.cls := findClass_of_methodNamed B.named
  have hlocks := B.notSynchronized
  subst hsz
  have hD := hD0.self (sz := s.heap.size)
  generalize hAe : va_A [(p0, .inr (4, [.ref p1, .ref p2, .ref p3, .ref p4, .ref p5])), (p1, .inl (K 0, 8, .inl fd)), (p2, .inl (K 0, 8, .inl fp)), (t0, .inr (9, [.ref t1, k_1, .ref t2, k_3, .int n, k_5, k_6, k_7, k_8, .int ho])), (t1, .inl (K 0, 56, .inl f1)), (t2, .inl (K 0, 6, .inl f2))] s.heap.size = A at hD ⊢
  have hA : ∀ q : Nat, s.heap.size ≤ q → A q := fun q h => by rw [← hAe]; exact Or.inr h
  clear hAe
  have hS : va_S A s.heap s.heap [] := va_S.rf
  replace hP : va_P D vwCl [(p0, .inr (4, [.ref p1, .ref p2, .ref p3, .ref p4, .ref p5])), (p1, .inl (K 0, 8, .inl fd)), (p2, .inl (K 0, 8, .inl fp)), (t0, .inr (9, [.ref t1, k_1, .ref t2, k_3, .int n, k_5, k_6, k_7, k_8, .int ho])), (t1, .inl (K 0, 56, .inl f1)), (t2, .inl (K 0, 6, .inl f2))] s.heap := hP
  have hl := lv_entry [.ref p0, .ref t0, .int x] (n := 6) (Nat.le_of_ble_eq_true rfl)
  rw [lg_entry_eq]
  generalize (lg_sl [.ref p0, .ref t0, .int x] ++ List.replicate (6 - (lg_sl [.ref p0, .ref t0, .int x]).length) Slot.unset).toArray = ls at hl ⊢
  have hl : lv_has ls 6 [(0, .ref p0), (1, .ref t0), (2, .int x)] := hl
  have hw4 : ∀ w ∈ wsX40, w ∈ wsX4_ring := fun w h => (List.mem_cons_of_mem _ (List.mem_append_right _ h))
  have hw9 : ∀ w ∈ wsX90, w ∈ wsX4_ring := fun w h => (List.mem_cons_of_mem _ (List.mem_append_left _ (List.mem_append_right _ h)))
  generalize hQ : MQ below _ _ s _ _ _ = Q
  have hE := E_w_ring.eq_def x fd fp n ho f1 f2
  refine lv_iconst (v := 0) hx hb dX4_ring_0 (by decide +kernel) ?_
  refine lv_istore_n (lv' := [(3, .int 0), (0, .ref p0), (1, .ref t0), (2, .int x)]) hx hb dX4_ring_1 rfl hl (by decide +kernel) rfl (fun ls hl => ?_)
  have lp_1214 : ∀ (nn_ : Nat) (v_1188 : Int32) (hv_1188 : 0 ≤ v_1188.toInt ∧ v_1188.toInt ≤ 7) (hn : (8 - v_1188.toInt : Int).toNat < nn_) (hE : E_w_ring x fd fp n ho f1 f2 = Lp (α := Int32 → (Int32 × (Nat → Int32))) (E_w_ring_l2 x fd fp n f1) (fun _ => ((0, fun _ => 0) : Int32 × (Nat → Int32))) nn_ v_1188) (H : Heap) (locs : List Loc) (hP : va_P D vwCl [(p0, .inr (4, [.ref p1, .ref p2, .ref p3, .ref p4, .ref p5])), (p1, .inl (K 0, 8, .inl fd)), (p2, .inl (K 0, 8, .inl fp)), (t0, .inr (9, [.ref t1, k_1, .ref t2, k_3, .int n, k_5, k_6, k_7, k_8, .int ho])), (t1, .inl (K 0, 56, .inl f1)), (t2, .inl (K 0, 6, .inl f2))] H) (hD : va_D A [(p0, .inr (4, [.ref p1, .ref p2, .ref p3, .ref p4, .ref p5])), (p1, .inl (K 0, 8, .inl fd)), (p2, .inl (K 0, 8, .inl fp)), (t0, .inr (9, [.ref t1, k_1, .ref t2, k_3, .int n, k_5, k_6, k_7, k_8, .int ho])), (t1, .inl (K 0, 56, .inl f1)), (t2, .inl (K 0, 6, .inl f2))]) (hS : va_S A s.heap H locs) (ls : Array Slot) (hl : lv_has ls 6 [(3, .int v_1188), (0, .ref p0), (1, .ref t0), (2, .int x)]), W p l e ({ frames := 1, cells := 0, slots := 0, locals := 23 }) s m (([.ref p0, .ref t0, .int x] : List Value).toArray) below meth c H locs 0 0 Q (F0 m 2 ls []) := by
    clear hE hP hD hS hl
    intro nn_
    induction nn_ with
    | zero =>
      intro v_1188 hv_1188 hn hE H locs hP hD hS ls hl
      exact absurd hn (Nat.not_lt_zero _)
    | succ nn_ ih_1215 =>
      intro v_1188 hv_1188 hn hE H locs hP hD hS ls hl
      replace hE : E_w_ring x fd fp n ho f1 f2 = E_w_ring_l2 x fd fp n f1 (Lp (α := Int32 → (Int32 × (Nat → Int32))) (E_w_ring_l2 x fd fp n f1) (fun _ => ((0, fun _ => 0) : Int32 × (Nat → Int32))) nn_) v_1188 := hE
      obtain ⟨rec_1214, hrec_1214⟩ : ∃ z9, z9 = Lp (α := Int32 → (Int32 × (Nat → Int32))) (E_w_ring_l2 x fd fp n f1) (fun _ => ((0, fun _ => 0) : Int32 × (Nat → Int32))) nn_ := ⟨_, rfl⟩
      rw [← hrec_1214] at hE
      replace hE := hE.trans (E_w_ring_l2.eq_def _ _ _ _ _ _ _)
      refine lv_iload_n hx hb dX4_ring_2 rfl (lv_at hl 0 rfl) ?_
      refine lv_aload_n hx hb dX4_ring_3 rfl (lv_at hl 2 rfl) ?_
      refine va_getN (ci := 9) (v := .int n) (C := RX9) (T := TX9) (N := 10) hx hb hts hw9 hown hK hP 3 rfl rfl 4 (by decide +kernel) (nst_use hN 106 rfl) (fun _ h9 => h9) rfl dX4_ring_4 ?_
      refine lv_iconst (v := 1) hx hb dX4_ring_7 (by decide +kernel) ?_
      refine lv_isub hx hb dX4_ring_8 ?_
      refine lv_topi (fun x_1216 ex_1216 => ?_)
      replace hE := hE.trans (Lt_in ex_1216)
      have hx_1216 : x_1216.toInt = (n.toInt - 1) := by rw [ex_1216]; exact i_sub rfl (show (1 : Int32).toInt = 1 from rfl) (by omega)
      have j_1447 : ∀ (hE : E_w_ring x fd fp n ho f1 f2 = E_w_ring_j26 fd fp f1 v_1188) (H : Heap) (locs : List Loc) (hP : va_P D vwCl [(p0, .inr (4, [.ref p1, .ref p2, .ref p3, .ref p4, .ref p5])), (p1, .inl (K 0, 8, .inl fd)), (p2, .inl (K 0, 8, .inl fp)), (t0, .inr (9, [.ref t1, k_1, .ref t2, k_3, .int n, k_5, k_6, k_7, k_8, .int ho])), (t1, .inl (K 0, 56, .inl f1)), (t2, .inl (K 0, 6, .inl f2))] H) (hD : va_D A [(p0, .inr (4, [.ref p1, .ref p2, .ref p3, .ref p4, .ref p5])), (p1, .inl (K 0, 8, .inl fd)), (p2, .inl (K 0, 8, .inl fp)), (t0, .inr (9, [.ref t1, k_1, .ref t2, k_3, .int n, k_5, k_6, k_7, k_8, .int ho])), (t1, .inl (K 0, 56, .inl f1)), (t2, .inl (K 0, 6, .inl f2))]) (hS : va_S A s.heap H locs) (ls : Array Slot) (hl : lv_has ls 6 [(3, .int v_1188), (0, .ref p0), (1, .ref t0)]), W p l e ({ frames := 1, cells := 0, slots := 0, locals := 23 }) s m (([.ref p0, .ref t0, .int x] : List Value).toArray) below meth c H locs 0 0 Q (F0 m 26 ls []) := by
        clear hE hP hD hS hl
        intro hE H locs hP hD hS ls hl
        replace hE := hE.trans (E_w_ring_j26.eq_def _ _ _ _)
        refine lv_iconst (v := 0) hx hb dX4_ring_26 (by decide +kernel) ?_
        refine lv_istore (lv' := [(4, .int 0), (3, .int v_1188), (0, .ref p0), (1, .ref t0)]) hx hb dX4_ring_27 hl (by decide +kernel) rfl (fun ls hl => ?_)
        have lp_1475 : ∀ (nn_ : Nat) (v_1465 : Int32) (v_1466 : Int32) (hv_1465 : 0 ≤ v_1465.toInt ∧ v_1465.toInt ≤ 8) (hv_1466 : 0 ≤ v_1466.toInt ∧ v_1466.toInt ≤ 7) (hn : (9 - v_1465.toInt : Int).toNat < nn_) (hE : E_w_ring x fd fp n ho f1 f2 = Lp (α := Int32 → Int32 → (Int32 × (Nat → Int32))) (E_w_ring_l29 fd fp f1) (fun _ _ => ((0, fun _ => 0) : Int32 × (Nat → Int32))) nn_ v_1465 v_1466) (H : Heap) (locs : List Loc) (hP : va_P D vwCl [(p0, .inr (4, [.ref p1, .ref p2, .ref p3, .ref p4, .ref p5])), (p1, .inl (K 0, 8, .inl fd)), (p2, .inl (K 0, 8, .inl fp)), (t0, .inr (9, [.ref t1, k_1, .ref t2, k_3, .int n, k_5, k_6, k_7, k_8, .int ho])), (t1, .inl (K 0, 56, .inl f1)), (t2, .inl (K 0, 6, .inl f2))] H) (hD : va_D A [(p0, .inr (4, [.ref p1, .ref p2, .ref p3, .ref p4, .ref p5])), (p1, .inl (K 0, 8, .inl fd)), (p2, .inl (K 0, 8, .inl fp)), (t0, .inr (9, [.ref t1, k_1, .ref t2, k_3, .int n, k_5, k_6, k_7, k_8, .int ho])), (t1, .inl (K 0, 56, .inl f1)), (t2, .inl (K 0, 6, .inl f2))]) (hS : va_S A s.heap H locs) (ls : Array Slot) (hl : lv_has ls 6 [(4, .int v_1465), (3, .int v_1466), (0, .ref p0), (1, .ref t0)]), W p l e ({ frames := 1, cells := 0, slots := 0, locals := 23 }) s m (([.ref p0, .ref t0, .int x] : List Value).toArray) below meth c H locs 0 0 Q (F0 m 29 ls []) := by
          clear hE hP hD hS hl
          intro nn_
          induction nn_ with
          | zero =>
            intro v_1465 v_1466 hv_1465 hv_1466 hn hE H locs hP hD hS ls hl
            exact absurd hn (Nat.not_lt_zero _)
          | succ nn_ ih_1476 =>
            intro v_1465 v_1466 hv_1465 hv_1466 hn hE H locs hP hD hS ls hl
            replace hE : E_w_ring x fd fp n ho f1 f2 = E_w_ring_l29 fd fp f1 (Lp (α := Int32 → Int32 → (Int32 × (Nat → Int32))) (E_w_ring_l29 fd fp f1) (fun _ _ => ((0, fun _ => 0) : Int32 × (Nat → Int32))) nn_) v_1465 v_1466 := hE
            obtain ⟨rec_1475, hrec_1475⟩ : ∃ z9, z9 = Lp (α := Int32 → Int32 → (Int32 × (Nat → Int32))) (E_w_ring_l29 fd fp f1) (fun _ _ => ((0, fun _ => 0) : Int32 × (Nat → Int32))) nn_ := ⟨_, rfl⟩
            rw [← hrec_1475] at hE
            replace hE := hE.trans (E_w_ring_l29.eq_def _ _ _ _ _ _)
            refine lv_iload hx hb dX4_ring_29 (lv_at hl 0 rfl) ?_
            refine lv_bipush (v := 8) hx hb dX4_ring_31 (by decide +kernel) ?_
            refine lv_icmp_ge (tgt := 49) hx hb dX4_ring_33 (by decide +kernel) (fun c_1477 => ?_) (fun c_1477 => ?_)
            · have c_1477i := i_le (x := 8) (y := v_1465.toInt) rfl rfl c_1477
              replace hE := hE.trans (if_pos c_1477)
              refine lv_iconst (v := 0) hx hb dX4_ring_49 (by decide +kernel) ?_
              refine lv_istore (lv' := [(4, .int 0), (3, .int v_1466), (0, .ref p0), (1, .ref t0)]) hx hb dX4_ring_50 hl (by decide +kernel) rfl (fun ls hl => ?_)
              refine lv_iconst (v := 0) hx hb dX4_ring_52 (by decide +kernel) ?_
              refine lv_istore (lv' := [(5, .int 0), (4, .int 0), (3, .int v_1466), (0, .ref p0), (1, .ref t0)]) hx hb dX4_ring_53 hl (by decide +kernel) rfl (fun ls hl => ?_)
              have lp_1644 : ∀ (nn_ : Nat) (v_1586 : Int32) (v_1587 : Int32) (v_1588 : Int32) (f_1589 : Nat → Int32) (hv_1586 : 0 ≤ v_1586.toInt ∧ v_1586.toInt ≤ 8) (hv_1587 : 0 ≤ v_1587.toInt ∧ v_1587.toInt ≤ 255) (hv_1588 : 0 ≤ v_1588.toInt ∧ v_1588.toInt ≤ 7) (hn : (9 - v_1586.toInt : Int).toNat < nn_) (hE : E_w_ring x fd fp n ho f1 f2 = Lp (α := Int32 → Int32 → Int32 → (Nat → Int32) → (Int32 × (Nat → Int32))) (E_w_ring_l55 fp f1) (fun _ _ _ _ => ((0, fun _ => 0) : Int32 × (Nat → Int32))) nn_ v_1586 v_1587 v_1588 f_1589) (H : Heap) (locs : List Loc) (hP : va_P D vwCl [(p0, .inr (4, [.ref p1, .ref p2, .ref p3, .ref p4, .ref p5])), (p1, .inl (K 0, 8, .inl f_1589)), (p2, .inl (K 0, 8, .inl fp)), (t0, .inr (9, [.ref t1, k_1, .ref t2, k_3, .int n, k_5, k_6, k_7, k_8, .int ho])), (t1, .inl (K 0, 56, .inl f1)), (t2, .inl (K 0, 6, .inl f2))] H) (hD : va_D A [(p0, .inr (4, [.ref p1, .ref p2, .ref p3, .ref p4, .ref p5])), (p1, .inl (K 0, 8, .inl f_1589)), (p2, .inl (K 0, 8, .inl fp)), (t0, .inr (9, [.ref t1, k_1, .ref t2, k_3, .int n, k_5, k_6, k_7, k_8, .int ho])), (t1, .inl (K 0, 56, .inl f1)), (t2, .inl (K 0, 6, .inl f2))]) (hS : va_S A s.heap H locs) (ls : Array Slot) (hl : lv_has ls 6 [(5, .int v_1586), (4, .int v_1587), (3, .int v_1588), (0, .ref p0), (1, .ref t0)]), W p l e ({ frames := 1, cells := 0, slots := 0, locals := 23 }) s m (([.ref p0, .ref t0, .int x] : List Value).toArray) below meth c H locs 0 0 Q (F0 m 55 ls []) := by
                clear hE hP hD hS hl
                intro nn_
                induction nn_ with
                | zero =>
                  intro v_1586 v_1587 v_1588 f_1589 hv_1586 hv_1587 hv_1588 hn hE H locs hP hD hS ls hl
                  exact absurd hn (Nat.not_lt_zero _)
                | succ nn_ ih_1645 =>
                  intro v_1586 v_1587 v_1588 f_1589 hv_1586 hv_1587 hv_1588 hn hE H locs hP hD hS ls hl
                  replace hE : E_w_ring x fd fp n ho f1 f2 = E_w_ring_l55 fp f1 (Lp (α := Int32 → Int32 → Int32 → (Nat → Int32) → (Int32 × (Nat → Int32))) (E_w_ring_l55 fp f1) (fun _ _ _ _ => ((0, fun _ => 0) : Int32 × (Nat → Int32))) nn_) v_1586 v_1587 v_1588 f_1589 := hE
                  obtain ⟨rec_1644, hrec_1644⟩ : ∃ z9, z9 = Lp (α := Int32 → Int32 → Int32 → (Nat → Int32) → (Int32 × (Nat → Int32))) (E_w_ring_l55 fp f1) (fun _ _ _ _ => ((0, fun _ => 0) : Int32 × (Nat → Int32))) nn_ := ⟨_, rfl⟩
                  rw [← hrec_1644] at hE
                  replace hE := hE.trans (E_w_ring_l55.eq_def _ _ _ _ _ _ _)
                  refine lv_iload hx hb dX4_ring_55 (lv_at hl 0 rfl) ?_
                  refine lv_bipush (v := 8) hx hb dX4_ring_57 (by decide +kernel) ?_
                  have j_1658 : ∀ (hE : E_w_ring x fd fp n ho f1 f2 = E_w_ring_j109 v_1587 f_1589) (H : Heap) (locs : List Loc) (hP : va_P D vwCl [(p0, .inr (4, [.ref p1, .ref p2, .ref p3, .ref p4, .ref p5])), (p1, .inl (K 0, 8, .inl f_1589)), (p2, .inl (K 0, 8, .inl fp)), (t0, .inr (9, [.ref t1, k_1, .ref t2, k_3, .int n, k_5, k_6, k_7, k_8, .int ho])), (t1, .inl (K 0, 56, .inl f1)), (t2, .inl (K 0, 6, .inl f2))] H) (hD : va_D A [(p0, .inr (4, [.ref p1, .ref p2, .ref p3, .ref p4, .ref p5])), (p1, .inl (K 0, 8, .inl f_1589)), (p2, .inl (K 0, 8, .inl fp)), (t0, .inr (9, [.ref t1, k_1, .ref t2, k_3, .int n, k_5, k_6, k_7, k_8, .int ho])), (t1, .inl (K 0, 56, .inl f1)), (t2, .inl (K 0, 6, .inl f2))]) (hS : va_S A s.heap H locs) (ls : Array Slot) (hl : lv_has ls 6 [(4, .int v_1587)]), W p l e ({ frames := 1, cells := 0, slots := 0, locals := 23 }) s m (([.ref p0, .ref t0, .int x] : List Value).toArray) below meth c H locs 0 0 Q (F0 m 109 ls []) := by
                    clear hE hP hD hS hl
                    intro hE H locs hP hD hS ls hl
                    replace hE := hE.trans (E_w_ring_j109.eq_def _ _)
                    refine lv_iload hx hb dX4_ring_109 (lv_at hl 0 rfl) ?_
                    rw [← hQ]
                    have hP9 := hP.sub (ws' := [(p0, .inr (4, [.ref p1, .ref p2, .ref p3, .ref p4, .ref p5])), (p1, .inl (K 0, 8, .inl f_1589)), (p2, .inl (K 0, 8, .inl fp)), (t0, .inr (9, [.ref t1, k_1, .ref t2, k_3, .int n, k_5, k_6, k_7, k_8, .int ho])), (t1, .inl (K 0, 56, .inl f1)), (t2, .inl (K 0, 6, .inl f2))]) [0, 1, 2, 3, 4, 5] rfl
                    have hD9 := hD.sub (ws' := [(p0, .inr (4, [.ref p1, .ref p2, .ref p3, .ref p4, .ref p5])), (p1, .inl (K 0, 8, .inl f_1589)), (p2, .inl (K 0, 8, .inl fp)), (t0, .inr (9, [.ref t1, k_1, .ref t2, k_3, .int n, k_5, k_6, k_7, k_8, .int ho])), (t1, .inl (K 0, 56, .inl f1)), (t2, .inl (K 0, 6, .inl f2))]) [0, 1, 2, 3, 4, 5] (by decide +kernel) rfl
                    exact W.iret (v := v_1587) hx hb hr (fun t ht hW => ⟨⟨v_1587, ((fun _ => 0, fun i => match i with | _ => f_1589, fun _ => fun _ => 0, fun _ => 0, fun _ => 0, fun _ => fun _ => none) : Su), rfl, ⟨(show 0 ≤ v_1587.toInt ∧ v_1587.toInt ≤ 255 by omega), hE.symm, trivial⟩, (⟨by rw [ht]; exact hP9, hD9⟩ : Wd D A _ t)⟩, hS.F ht⟩) hS.2.2 dX4_ring_111
                  refine lv_icmp_ge (tgt := 109) hx hb dX4_ring_59 (by decide +kernel) (fun c_1659 => ?_) (fun c_1659 => ?_)
                  · have c_1659i := i_le (x := 8) (y := v_1586.toInt) rfl rfl c_1659
                    replace hE := hE.trans (if_pos c_1659)
                    exact j_1658   hE _ _ hP hD hS ls (lv_sub hl [1] rfl)
                  · have c_1659i := i_nle (x := 8) (y := v_1586.toInt) rfl rfl c_1659
                    replace hE := hE.trans (if_neg c_1659)
                    refine lv_iload hx hb dX4_ring_62 (lv_at hl 1 rfl) ?_
                    refine lv_iload_n hx hb dX4_ring_64 rfl (lv_at hl 2 rfl) ?_
                    refine lv_ishr hx hb dX4_ring_65 ?_
                    refine lv_topi (fun x_1660 ex_1660 => ?_)
                    replace hE := hE.trans (Lt_in ex_1660)
                    have hx_1660 : 0 ≤ x_1660.toInt ∧ x_1660.toInt ≤ v_1587.toInt := by rw [ex_1660]; exact i_shr rfl (by omega)
                    refine lv_iconst (v := 1) hx hb dX4_ring_66 (by decide +kernel) ?_
                    refine lv_iand hx hb dX4_ring_67 ?_
                    refine lv_topi (fun x_1661 ex_1661 => ?_)
                    replace hE := hE.trans (Lt_in ex_1661)
                    have hx_1661 : 0 ≤ x_1661.toInt ∧ x_1661.toInt ≤ 1 := by rw [ex_1661]; exact i_mask x_1660 1 rfl (by decide +kernel)
                    refine lv_if_ne (tgt := 109) hx hb dX4_ring_68 (by decide +kernel) (fun c_1662 => ?_) (fun c_1662 => ?_)
                    · have c_1662i := i_ne (x := x_1661.toInt) (y := 0) rfl rfl c_1662
                      replace hE := hE.trans (if_neg c_1662)
                      exact j_1658   hE _ _ hP hD hS ls (lv_sub hl [1] rfl)
                    · have c_1662i := i_eq (x := x_1661.toInt) (y := 0) rfl rfl c_1662
                      replace hE := hE.trans (if_pos c_1662)
                      refine lv_iload hx hb dX4_ring_71 (lv_at hl 1 rfl) ?_
                      refine lv_iconst (v := 1) hx hb dX4_ring_73 (by decide +kernel) ?_
                      refine lv_iload_n hx hb dX4_ring_74 rfl (lv_at hl 2 rfl) ?_
                      refine lv_ishl hx hb dX4_ring_75 ?_
                      refine lv_topi (fun x_1663 ex_1663 => ?_)
                      replace hE := hE.trans (Lt_in ex_1663)
                      have hx_1663 : 1 ≤ x_1663.toInt ∧ x_1663.toInt ≤ 128 := by rw [ex_1663]; exact i_shl1 rfl (n := 7) (by decide +kernel) (by omega)
                      refine lv_ior hx hb dX4_ring_76 ?_
                      refine lv_topi (fun x_1664 ex_1664 => ?_)
                      replace hE := hE.trans (Lt_in ex_1664)
                      have hx_1664 : 0 ≤ x_1664.toInt ∧ x_1664.toInt < 256 := by rw [ex_1664]; exact i_or (k := 8) rfl rfl (by decide +kernel) (by omega) (by omega)
                      refine lv_istore (lv' := [(4, .int x_1664), (5, .int v_1586), (3, .int v_1588), (0, .ref p0), (1, .ref t0)]) hx hb dX4_ring_77 hl (by decide +kernel) rfl (fun ls hl => ?_)
                      refine lv_aload_n hx hb dX4_ring_79 rfl (lv_at hl 3 rfl) ?_
                      refine va_get (ci := 4) (v := .ref p1) (C := RX4) (T := TX4) (N := 5) hx hb hts hw4 hown hK hP 0 rfl rfl 0 (by decide +kernel) (hts _ mm_X4_ring_324) (fun _ h9 => h9) rfl dX4_ring_80 ?_
                      refine lv_iload_n hx hb dX4_ring_83 rfl (lv_at hl 2 rfl) ?_
                      refine lv_aload_n hx hb dX4_ring_84 rfl (lv_at hl 4 rfl) ?_
                      refine lv_aload_n hx hb dX4_ring_85 rfl (lv_at hl 3 rfl) ?_
                      refine va_get (ci := 4) (v := .ref p2) (C := RX4) (T := TX4) (N := 5) hx hb hts hw4 hown hK hP 0 rfl rfl 1 (by decide +kernel) (hts _ mm_X4_ring_325) (fun _ h9 => h9) rfl dX4_ring_86 ?_
                      refine lv_iload_n hx hb dX4_ring_89 rfl (lv_at hl 2 rfl) ?_
                      refine va_iald hx hb hK hP 2 0 rfl rfl (i_in rfl (by omega)) dX4_ring_90 ?_
                      refine lv_topi (fun x_1665 ex_1665 => ?_)
                      replace hE := hE.trans (Lt_in ex_1665)
                      have hx_1665 := Rg.at zfp rfl (show 0 ≤ v_1588.toInt ∧ v_1588.toInt < _ by omega)
                      rw [← ex_1665] at hx_1665
                      refine lv_iconst (v := 3) hx hb dX4_ring_91 (by decide +kernel) ?_
                      refine pci (va_runVN (As := [.int x_1665, .int 3]) (rest := [.int v_1588, .ref p1]) ⟨hx, hb, hml, hown, hts⟩ (w_fact l D K t0 x_1665 3 t1 k_1 (.ref t2) k_3 (.int n) k_5 k_6 k_7 k_8 (.int ho) f1 H.size) ⟨va_cnB 2 hts gX4_ring_X9_fact_n45 rfl rfl rfl (nst_at hN 84 rfl) (hts _ mm_X4_ring_145) (by decide +kernel) ⟨Nat.le_of_ble_eq_true rfl, Nat.le_of_ble_eq_true rfl⟩, (hts _ mm_X4_ring_381), (hts _ mm_X4_ring_2)⟩ (mkV hK hN (hP.sub [3, 4] rfl) (hD.sub [3, 4] (by decide +kernel) rfl) (ci := 9) (q0 := 0) rfl rfl) rfl rfl hl.1 rfl (lv_room (Nat.le_of_ble_eq_true rfl)) dX4_ring_92 ⟨Nat.le_of_ble_eq_true rfl, Nat.le_of_ble_eq_true rfl⟩) (fun r_1666 hw => ?_)
                      obtain ⟨k_1667, -⟩ := hw
                      replace hE := hE.trans (Lt_in k_1667)
                      refine va_iast hx hb hK hP hD hS 1 0 rfl rfl (i_in rfl (by omega)) dX4_ring_95 (fun H locs hP0 hD0 hS0 => ?_)
                      clear hP hD hS
                      have hP := hP0
                      have hD := hD0
                      have hS := hS0
                      clear hP0 hD0 hS0
                      generalize hf_1668 : (upd f_1589 (v_1588 : Int32).toNatClampNeg r_1666) = f_1668 at hP hD
                      replace hE := hE.trans (Lt_in hf_1668.symm)
                      replace hP : va_P D vwCl [(p0, .inr (4, [.ref p1, .ref p2, .ref p3, .ref p4, .ref p5])), (p1, .inl (K 0, 8, .inl f_1668)), (p2, .inl (K 0, 8, .inl fp)), (t0, .inr (9, [.ref t1, k_1, .ref t2, k_3, .int n, k_5, k_6, k_7, k_8, .int ho])), (t1, .inl (K 0, 56, .inl f1)), (t2, .inl (K 0, 6, .inl f2))] H := hP
                      replace hD : va_D A [(p0, .inr (4, [.ref p1, .ref p2, .ref p3, .ref p4, .ref p5])), (p1, .inl (K 0, 8, .inl f_1668)), (p2, .inl (K 0, 8, .inl fp)), (t0, .inr (9, [.ref t1, k_1, .ref t2, k_3, .int n, k_5, k_6, k_7, k_8, .int ho])), (t1, .inl (K 0, 56, .inl f1)), (t2, .inl (K 0, 6, .inl f2))] := hD
                      refine lv_aload_n hx hb dX4_ring_96 rfl (lv_at hl 3 rfl) ?_
                      refine va_get (ci := 4) (v := .ref p2) (C := RX4) (T := TX4) (N := 5) hx hb hts hw4 hown hK hP 0 rfl rfl 1 (by decide +kernel) (hts _ mm_X4_ring_325) (fun _ h9 => h9) rfl dX4_ring_97 ?_
                      refine lv_iload_n hx hb dX4_ring_100 rfl (lv_at hl 2 rfl) ?_
                      refine va_iald hx hb hK hP 2 0 rfl rfl (i_in rfl (by omega)) dX4_ring_101 ?_
                      refine lv_topi (fun x_1669 ex_1669 => ?_)
                      replace hE := hE.trans (Lt_in ex_1669)
                      have hx_1669 := Rg.at zfp rfl (show 0 ≤ v_1588.toInt ∧ v_1588.toInt < _ by omega)
                      rw [← ex_1669] at hx_1669
                      refine lv_istore_n (lv' := [(3, .int x_1669), (4, .int x_1664), (5, .int v_1586), (0, .ref p0), (1, .ref t0)]) hx hb dX4_ring_102 rfl hl (by decide +kernel) rfl (fun ls hl => ?_)
                      obtain ⟨x_1670, ex_1670⟩ : ∃ y : Int32, y = v_1586 + Int32.ofInt 1 := ⟨_, rfl⟩
                      replace hE := hE.trans (Lt_in ex_1670)
                      have hx_1670 : x_1670.toInt = (v_1586.toInt + 1) := by rw [ex_1670]; exact i_add rfl (show (Int32.ofInt 1).toInt = 1 from rfl) (by omega)
                      refine lv_iinc (v := x_1670) (lv' := [(5, .int x_1670), (3, .int x_1669), (4, .int x_1664), (0, .ref p0), (1, .ref t0)]) hx hb dX4_ring_103 hl (k := 2) rfl (by rw [ex_1670]) (by decide +kernel) rfl (fun ls hl => ?_)
                      refine lv_goto (tgt := 55) hx hb dX4_ring_106 (by decide +kernel) ?_
                      exact ih_1645 x_1670 x_1664 x_1669 f_1668 (by rw [hx_1670]; omega) (by omega) (by omega) (by omega) (hE.trans (by rw [hrec_1644])) _ _ hP hD hS ls (lv_sub hl [0, 2, 1, 3, 4] rfl)
              exact lp_1644 ((9 - (0 : Int32).toInt : Int).toNat + 1) 0 0 v_1466 fd (by decide +kernel) (by decide +kernel) (by omega) (Nat.lt_succ_self _) hE _ _ hP hD hS ls (lv_sub hl [0, 1, 2, 3, 4] rfl)
            · have c_1477i := i_nle (x := 8) (y := v_1465.toInt) rfl rfl c_1477
              replace hE := hE.trans (if_neg c_1477)
              refine lv_aload_n hx hb dX4_ring_36 rfl (lv_at hl 2 rfl) ?_
              refine va_get (ci := 4) (v := .ref p2) (C := RX4) (T := TX4) (N := 5) hx hb hts hw4 hown hK hP 0 rfl rfl 1 (by decide +kernel) (hts _ mm_X4_ring_325) (fun _ h9 => h9) rfl dX4_ring_37 ?_
              refine lv_iload_n hx hb dX4_ring_40 rfl (lv_at hl 1 rfl) ?_
              refine va_iald hx hb hK hP 2 0 rfl rfl (i_in rfl (by omega)) dX4_ring_41 ?_
              refine lv_topi (fun x_1671 ex_1671 => ?_)
              replace hE := hE.trans (Lt_in ex_1671)
              have hx_1671 := Rg.at zfp rfl (show 0 ≤ v_1466.toInt ∧ v_1466.toInt < _ by omega)
              rw [← ex_1671] at hx_1671
              refine lv_istore_n (lv' := [(3, .int x_1671), (4, .int v_1465), (0, .ref p0), (1, .ref t0)]) hx hb dX4_ring_42 rfl hl (by decide +kernel) rfl (fun ls hl => ?_)
              obtain ⟨x_1672, ex_1672⟩ : ∃ y : Int32, y = v_1465 + Int32.ofInt 1 := ⟨_, rfl⟩
              replace hE := hE.trans (Lt_in ex_1672)
              have hx_1672 : x_1672.toInt = (v_1465.toInt + 1) := by rw [ex_1672]; exact i_add rfl (show (Int32.ofInt 1).toInt = 1 from rfl) (by omega)
              refine lv_iinc (v := x_1672) (lv' := [(4, .int x_1672), (3, .int x_1671), (0, .ref p0), (1, .ref t0)]) hx hb dX4_ring_43 hl (k := 1) rfl (by rw [ex_1672]) (by decide +kernel) rfl (fun ls hl => ?_)
              refine lv_goto (tgt := 29) hx hb dX4_ring_46 (by decide +kernel) ?_
              exact ih_1476 x_1672 x_1671 (by rw [hx_1672]; omega) (by omega) (by omega) (hE.trans (by rw [hrec_1475])) _ _ hP hD hS ls (lv_sub hl [0, 1, 2, 3] rfl)
        exact lp_1475 ((9 - (0 : Int32).toInt : Int).toNat + 1) 0 v_1188 (by decide +kernel) (by omega) (Nat.lt_succ_self _) hE _ _ hP hD hS ls (lv_sub hl [0, 1, 2, 3] rfl)
      refine lv_icmp_ge (tgt := 26) hx hb dX4_ring_9 (by decide +kernel) (fun c_1673 => ?_) (fun c_1673 => ?_)
      · have c_1673i := i_le (x := (n.toInt - 1)) (y := v_1188.toInt) hx_1216 rfl c_1673
        replace hE := hE.trans (if_pos c_1673)
        exact j_1447   hE _ _ hP hD hS ls (lv_sub hl [0, 1, 2] rfl)
      · have c_1673i := i_nle (x := (n.toInt - 1)) (y := v_1188.toInt) hx_1216 rfl c_1673
        replace hE := hE.trans (if_neg c_1673)
        refine lv_iload_n hx hb dX4_ring_12 rfl (lv_at hl 3 rfl) ?_
        refine lv_iload_n hx hb dX4_ring_13 rfl (lv_at hl 0 rfl) ?_
        refine lv_ishr hx hb dX4_ring_14 ?_
        refine lv_topi (fun x_1674 ex_1674 => ?_)
        replace hE := hE.trans (Lt_in ex_1674)
        refine lv_iconst (v := 1) hx hb dX4_ring_15 (by decide +kernel) ?_
        refine lv_iand hx hb dX4_ring_16 ?_
        refine lv_topi (fun x_1675 ex_1675 => ?_)
        replace hE := hE.trans (Lt_in ex_1675)
        have hx_1675 : 0 ≤ x_1675.toInt ∧ x_1675.toInt ≤ 1 := by rw [ex_1675]; exact i_mask x_1674 1 rfl (by decide +kernel)
        refine lv_if_ne (tgt := 26) hx hb dX4_ring_17 (by decide +kernel) (fun c_1676 => ?_) (fun c_1676 => ?_)
        · have c_1676i := i_ne (x := x_1675.toInt) (y := 0) rfl rfl c_1676
          replace hE := hE.trans (if_neg c_1676)
          exact j_1447   hE _ _ hP hD hS ls (lv_sub hl [0, 1, 2] rfl)
        · have c_1676i := i_eq (x := x_1675.toInt) (y := 0) rfl rfl c_1676
          replace hE := hE.trans (if_pos c_1676)
          obtain ⟨x_1677, ex_1677⟩ : ∃ y : Int32, y = v_1188 + Int32.ofInt 1 := ⟨_, rfl⟩
          replace hE := hE.trans (Lt_in ex_1677)
          have hx_1677 : x_1677.toInt = (v_1188.toInt + 1) := by rw [ex_1677]; exact i_add rfl (show (Int32.ofInt 1).toInt = 1 from rfl) (by omega)
          refine lv_iinc (v := x_1677) (lv' := [(3, .int x_1677), (0, .ref p0), (1, .ref t0), (2, .int x)]) hx hb dX4_ring_20 hl (k := 0) rfl (by rw [ex_1677]) (by decide +kernel) rfl (fun ls hl => ?_)
          refine lv_goto (tgt := 2) hx hb dX4_ring_23 (by decide +kernel) ?_
          exact ih_1215 x_1677 (by rw [hx_1677]; omega) (by omega) (hE.trans (by rw [hrec_1214])) _ _ hP hD hS ls (lv_sub hl [0, 1, 2, 3] rfl)
  exact lp_1214 ((8 - (0 : Int32).toInt : Int).toNat + 1) 0 (by decide +kernel) (Nat.lt_succ_self _) hE _ _ hP hD hS ls (lv_sub hl [0, 1, 2, 3] rfl)
set_option maxRecDepth 100000 in
noncomputable def E_w_swapped_j73 (x : Int32) (f_2395 : Nat → Int32) (f_2396 : Nat → Int32) : Int32 × (Nat → Int32) × (Nat → Int32) :=
  Lt (E_w_within x 0 7) (fun r_2724 => if r_2724 = 1 then (Lt (f_2395 (x : Int32).toNatClampNeg : Int32) (fun x_2730 => ((x_2730, f_2395, f_2396) : Int32 × (Nat → Int32) × (Nat → Int32)))) else ((((-1), f_2395, f_2396) : Int32 × (Nat → Int32) × (Nat → Int32))))
set_option maxRecDepth 100000 in
noncomputable def E_w_swapped_l26 (n : Int32) (ho : Int32) (f1 : Nat → Int32) (f2 : Nat → Int32) (v_2393 : Int32) (v_2394 : Int32) (f_2395 : Nat → Int32) (rec_2651 : Int32 → Int32 → (Nat → Int32) → (Nat → Int32) → (Int32 × (Nat → Int32) × (Nat → Int32))) (rec_2779 : Int32 → (Nat → Int32) → (Int32 × (Nat → Int32) × (Nat → Int32))) (v_2763 : Int32) (f_2764 : Nat → Int32) : Int32 × (Nat → Int32) × (Nat → Int32) :=
  if n ≤ v_2763 then (Lt2 (E_w_ring v_2394 f_2395 f_2764 n ho f1 f2) (fun r_2782 u_2783_2_1_0 => Lt (r_2782 ^^^ (-1) : Int32) (fun x_2786 => Lt (v_2394 &&& x_2786 : Int32) (fun x_2787 => Lt (v_2393 + Int32.ofInt 1 : Int32) (fun x_2788 => rec_2651 x_2788 x_2787 u_2783_2_1_0 f_2764))))) else (Lt (E_w_favourite v_2763 v_2394 n ho f1 f2) (fun r_2789 => Lt (upd f_2764 (v_2763 : Int32).toNatClampNeg r_2789 : Nat → Int32) (fun f_2792 => Lt (v_2763 + Int32.ofInt 1 : Int32) (fun x_2793 => rec_2779 x_2793 f_2792))))
set_option maxRecDepth 100000 in
noncomputable def E_w_swapped_l12 (x : Int32) (n : Int32) (ho : Int32) (f1 : Nat → Int32) (f2 : Nat → Int32) (rec_2651 : Int32 → Int32 → (Nat → Int32) → (Nat → Int32) → (Int32 × (Nat → Int32) × (Nat → Int32))) (v_2393 : Int32) (v_2394 : Int32) (f_2395 : Nat → Int32) (f_2396 : Nat → Int32) : Int32 × (Nat → Int32) × (Nat → Int32) :=
  if 8 ≤ v_2393 then (E_w_swapped_j73 x f_2395 f_2396) else (if v_2394 = 0 then (E_w_swapped_j73 x f_2395 f_2396) else (Lp (α := Int32 → (Nat → Int32) → (Int32 × (Nat → Int32) × (Nat → Int32))) (E_w_swapped_l26 n ho f1 f2 v_2393 v_2394 f_2395 rec_2651) (fun _ _ => ((0, fun _ => 0, fun _ => 0) : Int32 × (Nat → Int32) × (Nat → Int32))) ((9 - (0 : Int32).toInt : Int).toNat + 1) 0 f_2396))
set_option maxRecDepth 100000 in
noncomputable def E_w_swapped (x : Int32) (fd : Nat → Int32) (fp : Nat → Int32) (n : Int32) (ho : Int32) (f1 : Nat → Int32) (f2 : Nat → Int32) : Int32 × (Nat → Int32) × (Nat → Int32) :=
  Lt (1 <<< (n &&& 31) : Int32) (fun x_1883 => Lt (x_1883 - 1 : Int32) (fun x_1884 => Lp (α := Int32 → Int32 → (Nat → Int32) → (Nat → Int32) → (Int32 × (Nat → Int32) × (Nat → Int32))) (E_w_swapped_l12 x n ho f1 f2) (fun _ _ _ _ => ((0, fun _ => 0, fun _ => 0) : Int32 × (Nat → Int32) × (Nat → Int32))) ((9 - (0 : Int32).toInt : Int).toNat + 1) 0 x_1884 fd fp))
set_option maxHeartbeats 4000000 in
set_option maxRecDepth 100000 in
theorem w_swapped (l : Launch) (D : va_G) (K : Nat → ClassId) (p0 : Nat) (t0 : Nat) (x : Int32) (p1 : Nat) (p2 : Nat) (p3 : Nat) (p4 : Nat) (p5 : Nat) (fd : Nat → Int32) (fp : Nat → Int32) (t1 : Nat) (k_1 : Value) (t2 : Nat) (k_3 : Value) (n : Int32) (k_5 : Value) (k_6 : Value) (k_7 : Value) (k_8 : Value) (ho : Int32) (f1 : Nat → Int32) (f2 : Nat → Int32) (sz : Nat) (zn : 1 ≤ n.toInt ∧ n.toInt ≤ 8) (zfp : Rg 8 0 7 fp) : Met l yX4_swapped wsX4_swapped ({ frames := 2, cells := 0, slots := 0, locals := 51 }) (va_Pc [.ref p0, .ref t0, .int x] (Pre D K [(p0, .inr (4, [.ref p1, .ref p2, .ref p3, .ref p4, .ref p5])), (p1, .inl (K 0, 8, .inl fd)), (p2, .inl (K 0, 8, .inl fp)), (t0, .inr (9, [.ref t1, k_1, .ref t2, k_3, .int n, k_5, k_6, k_7, k_8, .int ho])), (t1, .inl (K 0, 56, .inl f1)), (t2, .inl (K 0, 6, .inl f2))] sz)) (va_Qi (S := Su) (fun (r : Int32) (u : Su) => (Rg 8 0 7 (u.2.1 1)) ∧ ((r, (u.2.1 0), (u.2.1 1)) = E_w_swapped x fd fp n ho f1 f2) ∧ True) (fun u t => Wd D (va_A [(p0, .inr (4, [.ref p1, .ref p2, .ref p3, .ref p4, .ref p5])), (p1, .inl (K 0, 8, .inl fd)), (p2, .inl (K 0, 8, .inl fp)), (t0, .inr (9, [.ref t1, k_1, .ref t2, k_3, .int n, k_5, k_6, k_7, k_8, .int ho])), (t1, .inl (K 0, 56, .inl f1)), (t2, .inl (K 0, 6, .inl f2))] sz) ((fun u => [(p0, .inr (4, [.ref p1, .ref p2, .ref p3, .ref p4, .ref p5])), (p1, .inl (K 0, 8, .inl (u.2.1 0))), (p2, .inl (K 0, 8, .inl (u.2.1 1))), (t0, .inr (9, [.ref t1, k_1, .ref t2, k_3, .int n, k_5, k_6, k_7, k_8, .int ho])), (t1, .inl (K 0, 56, .inl f1)), (t2, .inl (K 0, 6, .inl f2))]) u) t) (va_A [(p0, .inr (4, [.ref p1, .ref p2, .ref p3, .ref p4, .ref p5])), (p1, .inl (K 0, 8, .inl fd)), (p2, .inl (K 0, 8, .inl fp)), (t0, .inr (9, [.ref t1, k_1, .ref t2, k_3, .int n, k_5, k_6, k_7, k_8, .int ho])), (t1, .inl (K 0, 56, .inl f1)), (t2, .inl (K 0, 6, .inl f2))] sz)) 0 0 (va_A [(p0, .inr (4, [.ref p1, .ref p2, .ref p3, .ref p4, .ref p5])), (p1, .inl (K 0, 8, .inl fd)), (p2, .inl (K 0, 8, .inl fp)), (t0, .inr (9, [.ref t1, k_1, .ref t2, k_3, .int n, k_5, k_6, k_7, k_8, .int ho])), (t1, .inl (K 0, 56, .inl f1)), (t2, .inl (K 0, 6, .inl f2))] sz) := by
  refine Met.ofW (cc := cX4_swapped) (maxL := 6) (ret := (some .int)) (by decide +kernel) rfl ?_
  intro p e s m args below meth c s₁ B hml hv
  obtain ⟨rfl, hsz, hP, hK, hD0, hN⟩ := hv
  have hx := B.exec
  have hb := B.bytes
  have hr := B.returns
  have hts := atoms_spec (ws := wsX4_swapped) B.pre
  have hown : s.vm.findClass RX4 = some m.cls := findClass_of_methodNamed B.named
  have hlocks := B.notSynchronized
  subst hsz
  have hD := hD0.self (sz := s.heap.size)
  generalize hAe : va_A [(p0, .inr (4, [.ref p1, .ref p2, .ref p3, .ref p4, .ref p5])), (p1, .inl (K 0, 8, .inl fd)), (p2, .inl (K 0, 8, .inl fp)), (t0, .inr (9, [.ref t1, k_1, .ref t2, k_3, .int n, k_5, k_6, k_7, k_8, .int ho])), (t1, .inl (K 0, 56, .inl f1)), (t2, .inl (K 0, 6, .inl f2))] s.heap.size = A at hD ⊢
  have hA : ∀ q : Nat, s.heap.size ≤ q → A q := fun q h => by rw [← hAe]; exact Or.inr h
  clear hAe
  have hS : va_S A s.heap s.heap [] := va_S.rf
  replace hP : va_P D vwCl [(p0, .inr (4, [.ref p1, .ref p2, .ref p3, .ref p4, .ref p5])), (p1, .inl (K 0, 8, .inl fd)), (p2, .inl (K 0, 8, .inl fp)), (t0, .inr (9, [.ref t1, k_1, .ref t2, k_3, .int n, k_5, k_6, k_7, k_8, .int ho])), (t1, .inl (K 0, 56, .inl f1)), (t2, .inl (K 0, 6, .inl f2))] s.heap := hP
  have hl := lv_entry [.ref p0, .ref t0, .int x] (n := 6) (Nat.le_of_ble_eq_true rfl)
  rw [lg_entry_eq]
  generalize (lg_sl [.ref p0, .ref t0, .int x] ++ List.replicate (6 - (lg_sl [.ref p0, .ref t0, .int x]).length) Slot.unset).toArray = ls at hl ⊢
  have hl : lv_has ls 6 [(0, .ref p0), (1, .ref t0), (2, .int x)] := hl
  have hw4 : ∀ w ∈ wsX40, w ∈ wsX4_swapped := fun w h => (List.mem_cons_of_mem _ (List.mem_append_right _ h))
  have hw9 : ∀ w ∈ wsX90, w ∈ wsX4_swapped := fun w h => (List.mem_cons_of_mem _ (List.mem_append_left _ (List.mem_append_right _ h)))
  generalize hQ : MQ below _ _ s _ _ _ = Q
  have hE := E_w_swapped.eq_def x fd fp n ho f1 f2
  refine lv_iconst (v := 1) hx hb dX4_swapped_0 (by decide +kernel) ?_
  refine lv_aload_n hx hb dX4_swapped_1 rfl (lv_at hl 1 rfl) ?_
  refine va_getN (ci := 9) (v := .int n) (C := RX9) (T := TX9) (N := 10) hx hb hts hw9 hown hK hP 3 rfl rfl 4 (by decide +kernel) (nst_use hN 106 rfl) (fun _ h9 => h9) rfl dX4_swapped_2 ?_
  refine lv_ishl hx hb dX4_swapped_5 ?_
  refine lv_topi (fun x_1883 ex_1883 => ?_)
  replace hE := hE.trans (Lt_in ex_1883)
  have hx_1883 : 1 ≤ x_1883.toInt ∧ x_1883.toInt ≤ 256 := by rw [ex_1883]; exact i_shl1 rfl (n := 8) (by decide +kernel) (by omega)
  refine lv_iconst (v := 1) hx hb dX4_swapped_6 (by decide +kernel) ?_
  refine lv_isub hx hb dX4_swapped_7 ?_
  refine lv_topi (fun x_1884 ex_1884 => ?_)
  replace hE := hE.trans (Lt_in ex_1884)
  have hx_1884 : x_1884.toInt = (x_1883.toInt - 1) := by rw [ex_1884]; exact i_sub rfl (show (1 : Int32).toInt = 1 from rfl) (by omega)
  refine lv_istore_n (lv' := [(3, .int x_1884), (0, .ref p0), (1, .ref t0), (2, .int x)]) hx hb dX4_swapped_8 rfl hl (by decide +kernel) rfl (fun ls hl => ?_)
  refine lv_iconst (v := 0) hx hb dX4_swapped_9 (by decide +kernel) ?_
  refine lv_istore (lv' := [(4, .int 0), (3, .int x_1884), (0, .ref p0), (1, .ref t0), (2, .int x)]) hx hb dX4_swapped_10 hl (by decide +kernel) rfl (fun ls hl => ?_)
  have lp_2651 : ∀ (nn_ : Nat) (v_2393 : Int32) (v_2394 : Int32) (f_2395 : Nat → Int32) (f_2396 : Nat → Int32) (hv_2393 : 0 ≤ v_2393.toInt ∧ v_2393.toInt ≤ 8) (hv_2394 : 0 ≤ v_2394.toInt ∧ v_2394.toInt ≤ 255) (hf_2396_0 : Rg 8 0 7 f_2396) (hn : (9 - v_2393.toInt : Int).toNat < nn_) (hE : E_w_swapped x fd fp n ho f1 f2 = Lp (α := Int32 → Int32 → (Nat → Int32) → (Nat → Int32) → (Int32 × (Nat → Int32) × (Nat → Int32))) (E_w_swapped_l12 x n ho f1 f2) (fun _ _ _ _ => ((0, fun _ => 0, fun _ => 0) : Int32 × (Nat → Int32) × (Nat → Int32))) nn_ v_2393 v_2394 f_2395 f_2396) (H : Heap) (locs : List Loc) (hP : va_P D vwCl [(p0, .inr (4, [.ref p1, .ref p2, .ref p3, .ref p4, .ref p5])), (p1, .inl (K 0, 8, .inl f_2395)), (p2, .inl (K 0, 8, .inl f_2396)), (t0, .inr (9, [.ref t1, k_1, .ref t2, k_3, .int n, k_5, k_6, k_7, k_8, .int ho])), (t1, .inl (K 0, 56, .inl f1)), (t2, .inl (K 0, 6, .inl f2))] H) (hD : va_D A [(p0, .inr (4, [.ref p1, .ref p2, .ref p3, .ref p4, .ref p5])), (p1, .inl (K 0, 8, .inl f_2395)), (p2, .inl (K 0, 8, .inl f_2396)), (t0, .inr (9, [.ref t1, k_1, .ref t2, k_3, .int n, k_5, k_6, k_7, k_8, .int ho])), (t1, .inl (K 0, 56, .inl f1)), (t2, .inl (K 0, 6, .inl f2))]) (hS : va_S A s.heap H locs) (ls : Array Slot) (hl : lv_has ls 6 [(4, .int v_2393), (3, .int v_2394), (0, .ref p0), (1, .ref t0), (2, .int x)]), W p l e ({ frames := 2, cells := 0, slots := 0, locals := 51 }) s m (([.ref p0, .ref t0, .int x] : List Value).toArray) below meth c H locs 0 0 Q (F0 m 12 ls []) := by
    clear hE hP hD hS hl
    intro nn_
    induction nn_ with
    | zero =>
      intro v_2393 v_2394 f_2395 f_2396 hv_2393 hv_2394 hf_2396_0 hn hE H locs hP hD hS ls hl
      exact absurd hn (Nat.not_lt_zero _)
    | succ nn_ ih_2652 =>
      intro v_2393 v_2394 f_2395 f_2396 hv_2393 hv_2394 hf_2396_0 hn hE H locs hP hD hS ls hl
      replace hE : E_w_swapped x fd fp n ho f1 f2 = E_w_swapped_l12 x n ho f1 f2 (Lp (α := Int32 → Int32 → (Nat → Int32) → (Nat → Int32) → (Int32 × (Nat → Int32) × (Nat → Int32))) (E_w_swapped_l12 x n ho f1 f2) (fun _ _ _ _ => ((0, fun _ => 0, fun _ => 0) : Int32 × (Nat → Int32) × (Nat → Int32))) nn_) v_2393 v_2394 f_2395 f_2396 := hE
      obtain ⟨rec_2651, hrec_2651⟩ : ∃ z9, z9 = Lp (α := Int32 → Int32 → (Nat → Int32) → (Nat → Int32) → (Int32 × (Nat → Int32) × (Nat → Int32))) (E_w_swapped_l12 x n ho f1 f2) (fun _ _ _ _ => ((0, fun _ => 0, fun _ => 0) : Int32 × (Nat → Int32) × (Nat → Int32))) nn_ := ⟨_, rfl⟩
      rw [← hrec_2651] at hE
      replace hE := hE.trans (E_w_swapped_l12.eq_def _ _ _ _ _ _ _ _ _ _)
      refine lv_iload hx hb dX4_swapped_12 (lv_at hl 0 rfl) ?_
      refine lv_bipush (v := 8) hx hb dX4_swapped_14 (by decide +kernel) ?_
      have j_2723 : ∀ (hE : E_w_swapped x fd fp n ho f1 f2 = E_w_swapped_j73 x f_2395 f_2396) (H : Heap) (locs : List Loc) (hP : va_P D vwCl [(p0, .inr (4, [.ref p1, .ref p2, .ref p3, .ref p4, .ref p5])), (p1, .inl (K 0, 8, .inl f_2395)), (p2, .inl (K 0, 8, .inl f_2396)), (t0, .inr (9, [.ref t1, k_1, .ref t2, k_3, .int n, k_5, k_6, k_7, k_8, .int ho])), (t1, .inl (K 0, 56, .inl f1)), (t2, .inl (K 0, 6, .inl f2))] H) (hD : va_D A [(p0, .inr (4, [.ref p1, .ref p2, .ref p3, .ref p4, .ref p5])), (p1, .inl (K 0, 8, .inl f_2395)), (p2, .inl (K 0, 8, .inl f_2396)), (t0, .inr (9, [.ref t1, k_1, .ref t2, k_3, .int n, k_5, k_6, k_7, k_8, .int ho])), (t1, .inl (K 0, 56, .inl f1)), (t2, .inl (K 0, 6, .inl f2))]) (hS : va_S A s.heap H locs) (ls : Array Slot) (hl : lv_has ls 6 [(0, .ref p0), (2, .int x)]), W p l e ({ frames := 2, cells := 0, slots := 0, locals := 51 }) s m (([.ref p0, .ref t0, .int x] : List Value).toArray) below meth c H locs 0 0 Q (F0 m 73 ls []) := by
        clear hE hP hD hS hl
        intro hE H locs hP hD hS ls hl
        replace hE := hE.trans (E_w_swapped_j73.eq_def _ _ _)
        refine lv_iload_n hx hb dX4_swapped_73 rfl (lv_at hl 1 rfl) ?_
        refine lv_iconst (v := 0) hx hb dX4_swapped_74 (by decide +kernel) ?_
        refine lv_bipush (v := 7) hx hb dX4_swapped_75 (by decide +kernel) ?_
        refine pci (va_runSN (As := [.int x, .int 0, .int 7]) (rest := []) ⟨hx, hb, hml, hown, hts⟩ (w_within l D K x.toInt 0 7 x 0 7 H.size rfl (show (0 : Int32).toInt = 0 from rfl) (show (7 : Int32).toInt = 7 from rfl)) ⟨va_cnB 3 hts gX4_swapped_X11_within_n41 rfl rfl rfl (nst_at hN 85 rfl) (hts _ mm_X4_swapped_144) (by decide +kernel) ⟨Nat.le_of_ble_eq_true rfl, Nat.le_of_ble_eq_true rfl⟩, (hts _ mm_X4_swapped_373), trivial⟩ (mkS hK hN (va_P.nil) (va_D.nil (A := fun _ => True))) rfl rfl hl.1 rfl (lv_room (Nat.le_of_ble_eq_true rfl)) dX4_swapped_77 ⟨Nat.le_of_ble_eq_true rfl, Nat.le_of_ble_eq_true rfl⟩) (fun r_2724 hw => ?_)
        obtain ⟨hw, k_2725, -⟩ := hw
        replace hE := hE.trans (Lt_in k_2725)
        rcases hw with ⟨rfl, h_2726, h_2727⟩ | ⟨rfl, h_2728⟩
        · replace hE := (hE).trans (if_pos rfl)
          refine lv_if_eq (tgt := 92) hx hb dX4_swapped_80 (by decide +kernel) (fun c_2729 => absurd c_2729 (by decide +kernel)) (fun c_2729 => ?_)
          refine lv_aload_n hx hb dX4_swapped_83 rfl (lv_at hl 0 rfl) ?_
          refine va_get (ci := 4) (v := .ref p1) (C := RX4) (T := TX4) (N := 5) hx hb hts hw4 hown hK hP 0 rfl rfl 0 (by decide +kernel) (hts _ mm_X4_swapped_324) (fun _ h9 => h9) rfl dX4_swapped_84 ?_
          refine lv_iload_n hx hb dX4_swapped_87 rfl (lv_at hl 1 rfl) ?_
          refine va_iald hx hb hK hP 1 0 rfl rfl (i_in rfl (by omega)) dX4_swapped_88 ?_
          refine lv_topi (fun x_2730 ex_2730 => ?_)
          replace hE := hE.trans (Lt_in ex_2730)
          refine lv_goto (tgt := 93) hx hb dX4_swapped_89 (by decide +kernel) ?_
          rw [← hQ]
          have hP9 := hP.sub (ws' := [(p0, .inr (4, [.ref p1, .ref p2, .ref p3, .ref p4, .ref p5])), (p1, .inl (K 0, 8, .inl f_2395)), (p2, .inl (K 0, 8, .inl f_2396)), (t0, .inr (9, [.ref t1, k_1, .ref t2, k_3, .int n, k_5, k_6, k_7, k_8, .int ho])), (t1, .inl (K 0, 56, .inl f1)), (t2, .inl (K 0, 6, .inl f2))]) [0, 1, 2, 3, 4, 5] rfl
          have hD9 := hD.sub (ws' := [(p0, .inr (4, [.ref p1, .ref p2, .ref p3, .ref p4, .ref p5])), (p1, .inl (K 0, 8, .inl f_2395)), (p2, .inl (K 0, 8, .inl f_2396)), (t0, .inr (9, [.ref t1, k_1, .ref t2, k_3, .int n, k_5, k_6, k_7, k_8, .int ho])), (t1, .inl (K 0, 56, .inl f1)), (t2, .inl (K 0, 6, .inl f2))]) [0, 1, 2, 3, 4, 5] (by decide +kernel) rfl
          exact W.iret (v := x_2730) hx hb hr (fun t ht hW => ⟨⟨x_2730, ((fun _ => 0, fun i => match i with | 0 => f_2395 | _ => f_2396, fun _ => fun _ => 0, fun _ => 0, fun _ => 0, fun _ => fun _ => none) : Su), rfl, ⟨hf_2396_0, hE.symm, trivial⟩, (⟨by rw [ht]; exact hP9, hD9⟩ : Wd D A _ t)⟩, hS.F ht⟩) hS.2.2 dX4_swapped_93
        · replace hE := (hE).trans (if_neg (by first | decide | (intro h9; have h8 := congrArg Int32.toInt h9; omega)))
          refine lv_if_eq (tgt := 92) hx hb dX4_swapped_80 (by decide +kernel) (fun c_2731 => ?_) (fun c_2731 => absurd (by decide +kernel) c_2731)
          refine lv_iconst (v := (-1)) hx hb dX4_swapped_92 (by decide +kernel) ?_
          rw [← hQ]
          have hP9 := hP.sub (ws' := [(p0, .inr (4, [.ref p1, .ref p2, .ref p3, .ref p4, .ref p5])), (p1, .inl (K 0, 8, .inl f_2395)), (p2, .inl (K 0, 8, .inl f_2396)), (t0, .inr (9, [.ref t1, k_1, .ref t2, k_3, .int n, k_5, k_6, k_7, k_8, .int ho])), (t1, .inl (K 0, 56, .inl f1)), (t2, .inl (K 0, 6, .inl f2))]) [0, 1, 2, 3, 4, 5] rfl
          have hD9 := hD.sub (ws' := [(p0, .inr (4, [.ref p1, .ref p2, .ref p3, .ref p4, .ref p5])), (p1, .inl (K 0, 8, .inl f_2395)), (p2, .inl (K 0, 8, .inl f_2396)), (t0, .inr (9, [.ref t1, k_1, .ref t2, k_3, .int n, k_5, k_6, k_7, k_8, .int ho])), (t1, .inl (K 0, 56, .inl f1)), (t2, .inl (K 0, 6, .inl f2))]) [0, 1, 2, 3, 4, 5] (by decide +kernel) rfl
          exact W.iret (v := (-1)) hx hb hr (fun t ht hW => ⟨⟨(-1), ((fun _ => 0, fun i => match i with | 0 => f_2395 | _ => f_2396, fun _ => fun _ => 0, fun _ => 0, fun _ => 0, fun _ => fun _ => none) : Su), rfl, ⟨hf_2396_0, hE.symm, trivial⟩, (⟨by rw [ht]; exact hP9, hD9⟩ : Wd D A _ t)⟩, hS.F ht⟩) hS.2.2 dX4_swapped_93
      refine lv_icmp_ge (tgt := 73) hx hb dX4_swapped_16 (by decide +kernel) (fun c_2732 => ?_) (fun c_2732 => ?_)
      · have c_2732i := i_le (x := 8) (y := v_2393.toInt) rfl rfl c_2732
        replace hE := hE.trans (if_pos c_2732)
        exact j_2723   hE _ _ hP hD hS ls (lv_sub hl [2, 4] rfl)
      · have c_2732i := i_nle (x := 8) (y := v_2393.toInt) rfl rfl c_2732
        replace hE := hE.trans (if_neg c_2732)
        refine lv_iload_n hx hb dX4_swapped_19 rfl (lv_at hl 1 rfl) ?_
        refine lv_if_eq (tgt := 73) hx hb dX4_swapped_20 (by decide +kernel) (fun c_2733 => ?_) (fun c_2733 => ?_)
        · have c_2733i := i_eq (x := v_2394.toInt) (y := 0) rfl rfl c_2733
          replace hE := hE.trans (if_pos c_2733)
          exact j_2723   hE _ _ hP hD hS ls (lv_sub hl [2, 4] rfl)
        · have c_2733i := i_ne (x := v_2394.toInt) (y := 0) rfl rfl c_2733
          replace hE := hE.trans (if_neg c_2733)
          refine lv_iconst (v := 0) hx hb dX4_swapped_23 (by decide +kernel) ?_
          refine lv_istore (lv' := [(5, .int 0), (4, .int v_2393), (3, .int v_2394), (0, .ref p0), (1, .ref t0), (2, .int x)]) hx hb dX4_swapped_24 hl (by decide +kernel) rfl (fun ls hl => ?_)
          have lp_2779 : ∀ (nn_ : Nat) (v_2763 : Int32) (f_2764 : Nat → Int32) (hv_2763 : 0 ≤ v_2763.toInt ∧ v_2763.toInt ≤ 8) (hf_2764_0 : Rg 8 0 7 f_2764) (hn : (9 - v_2763.toInt : Int).toNat < nn_) (hE : E_w_swapped x fd fp n ho f1 f2 = Lp (α := Int32 → (Nat → Int32) → (Int32 × (Nat → Int32) × (Nat → Int32))) (E_w_swapped_l26 n ho f1 f2 v_2393 v_2394 f_2395 rec_2651) (fun _ _ => ((0, fun _ => 0, fun _ => 0) : Int32 × (Nat → Int32) × (Nat → Int32))) nn_ v_2763 f_2764) (H : Heap) (locs : List Loc) (hP : va_P D vwCl [(p0, .inr (4, [.ref p1, .ref p2, .ref p3, .ref p4, .ref p5])), (p1, .inl (K 0, 8, .inl f_2395)), (p2, .inl (K 0, 8, .inl f_2764)), (t0, .inr (9, [.ref t1, k_1, .ref t2, k_3, .int n, k_5, k_6, k_7, k_8, .int ho])), (t1, .inl (K 0, 56, .inl f1)), (t2, .inl (K 0, 6, .inl f2))] H) (hD : va_D A [(p0, .inr (4, [.ref p1, .ref p2, .ref p3, .ref p4, .ref p5])), (p1, .inl (K 0, 8, .inl f_2395)), (p2, .inl (K 0, 8, .inl f_2764)), (t0, .inr (9, [.ref t1, k_1, .ref t2, k_3, .int n, k_5, k_6, k_7, k_8, .int ho])), (t1, .inl (K 0, 56, .inl f1)), (t2, .inl (K 0, 6, .inl f2))]) (hS : va_S A s.heap H locs) (ls : Array Slot) (hl : lv_has ls 6 [(5, .int v_2763), (4, .int v_2393), (3, .int v_2394), (0, .ref p0), (1, .ref t0), (2, .int x)]), W p l e ({ frames := 2, cells := 0, slots := 0, locals := 51 }) s m (([.ref p0, .ref t0, .int x] : List Value).toArray) below meth c H locs 0 0 Q (F0 m 26 ls []) := by
            clear hE hP hD hS hl
            intro nn_
            induction nn_ with
            | zero =>
              intro v_2763 f_2764 hv_2763 hf_2764_0 hn hE H locs hP hD hS ls hl
              exact absurd hn (Nat.not_lt_zero _)
            | succ nn_ ih_2780 =>
              intro v_2763 f_2764 hv_2763 hf_2764_0 hn hE H locs hP hD hS ls hl
              replace hE : E_w_swapped x fd fp n ho f1 f2 = E_w_swapped_l26 n ho f1 f2 v_2393 v_2394 f_2395 rec_2651 (Lp (α := Int32 → (Nat → Int32) → (Int32 × (Nat → Int32) × (Nat → Int32))) (E_w_swapped_l26 n ho f1 f2 v_2393 v_2394 f_2395 rec_2651) (fun _ _ => ((0, fun _ => 0, fun _ => 0) : Int32 × (Nat → Int32) × (Nat → Int32))) nn_) v_2763 f_2764 := hE
              obtain ⟨rec_2779, hrec_2779⟩ : ∃ z9, z9 = Lp (α := Int32 → (Nat → Int32) → (Int32 × (Nat → Int32) × (Nat → Int32))) (E_w_swapped_l26 n ho f1 f2 v_2393 v_2394 f_2395 rec_2651) (fun _ _ => ((0, fun _ => 0, fun _ => 0) : Int32 × (Nat → Int32) × (Nat → Int32))) nn_ := ⟨_, rfl⟩
              rw [← hrec_2779] at hE
              replace hE := hE.trans (E_w_swapped_l26.eq_def _ _ _ _ _ _ _ _ _ _ _)
              refine lv_iload hx hb dX4_swapped_26 (lv_at hl 0 rfl) ?_
              refine lv_aload_n hx hb dX4_swapped_28 rfl (lv_at hl 4 rfl) ?_
              refine va_getN (ci := 9) (v := .int n) (C := RX9) (T := TX9) (N := 10) hx hb hts hw9 hown hK hP 3 rfl rfl 4 (by decide +kernel) (nst_use hN 106 rfl) (fun _ h9 => h9) rfl dX4_swapped_29 ?_
              refine lv_icmp_ge (tgt := 56) hx hb dX4_swapped_32 (by decide +kernel) (fun c_2781 => ?_) (fun c_2781 => ?_)
              · have c_2781i := i_le (x := n.toInt) (y := v_2763.toInt) rfl rfl c_2781
                replace hE := hE.trans (if_pos c_2781)
                refine lv_iload_n hx hb dX4_swapped_56 rfl (lv_at hl 2 rfl) ?_
                refine lv_aload_n hx hb dX4_swapped_57 rfl (lv_at hl 3 rfl) ?_
                refine lv_aload_n hx hb dX4_swapped_58 rfl (lv_at hl 4 rfl) ?_
                refine lv_iload_n hx hb dX4_swapped_59 rfl (lv_at hl 2 rfl) ?_
                refine kci (S := Su) (wr := []) (va_runV (As := [.ref t0, .int v_2394]) (rest := [.int v_2394]) ⟨hx, hb, hml, hown, hts⟩ (w_ring l D K p0 t0 v_2394 p1 p2 p3 p4 p5 f_2395 f_2764 t1 k_1 t2 k_3 n k_5 k_6 k_7 k_8 ho f1 f2 H.size (by first | omega | decide) hf_2764_0) (cwV 2 hts gX4_swapped_X4_ring rfl rfl rfl (by decide +kernel) ⟨Nat.le_of_ble_eq_true rfl, Nat.le_of_ble_eq_true rfl⟩) (mkV hK hN (hP.sub [0, 1, 2, 3, 4, 5] rfl) (hD.sub [0, 1, 2, 3, 4, 5] (by decide +kernel) rfl) (ci := 4) (q0 := 0) rfl rfl) rfl rfl hl.1 rfl (lv_room (Nat.le_of_ble_eq_true rfl)) dX4_swapped_60 ⟨Nat.le_of_ble_eq_true rfl, Nat.le_of_ble_eq_true rfl⟩) hP hD hS hA [0, 1, 2, 3, 4, 5] [] rfl rfl (by decide +kernel) (by decide +kernel) (fun r_2782 u_2783 H locs hw hP0 hD0 hS0 => ?_)
                clear hP hD hS
                have hP := hP0
                have hD := hD0
                have hS := hS0
                clear hP0 hD0 hS0
                replace hP : va_P D vwCl [(p0, .inr (4, [.ref p1, .ref p2, .ref p3, .ref p4, .ref p5])), (p1, .inl (K 0, 8, .inl (u_2783.2.1 0))), (p2, .inl (K 0, 8, .inl f_2764)), (t0, .inr (9, [.ref t1, k_1, .ref t2, k_3, .int n, k_5, k_6, k_7, k_8, .int ho])), (t1, .inl (K 0, 56, .inl f1)), (t2, .inl (K 0, 6, .inl f2))] H := hP
                replace hD : va_D A [(p0, .inr (4, [.ref p1, .ref p2, .ref p3, .ref p4, .ref p5])), (p1, .inl (K 0, 8, .inl (u_2783.2.1 0))), (p2, .inl (K 0, 8, .inl f_2764)), (t0, .inr (9, [.ref t1, k_1, .ref t2, k_3, .int n, k_5, k_6, k_7, k_8, .int ho])), (t1, .inl (K 0, 56, .inl f1)), (t2, .inl (K 0, 6, .inl f2))] := hD
                obtain ⟨h_2785, k_2784, -⟩ := hw
                replace hE := hE.trans (Lt2_in k_2784)
                refine lv_iconst (v := (-1)) hx hb dX4_swapped_63 (by decide +kernel) ?_
                refine lv_ixor hx hb dX4_swapped_64 ?_
                refine lv_topi (fun x_2786 ex_2786 => ?_)
                replace hE := hE.trans (Lt_in ex_2786)
                refine lv_iand hx hb dX4_swapped_65 ?_
                refine lv_topi (fun x_2787 ex_2787 => ?_)
                replace hE := hE.trans (Lt_in ex_2787)
                have hx_2787 : 0 ≤ x_2787.toInt ∧ x_2787.toInt ≤ v_2394.toInt := by rw [ex_2787]; exact i_andl rfl (by omega)
                refine lv_istore_n (lv' := [(3, .int x_2787), (5, .int v_2763), (4, .int v_2393), (0, .ref p0), (1, .ref t0), (2, .int x)]) hx hb dX4_swapped_66 rfl hl (by decide +kernel) rfl (fun ls hl => ?_)
                obtain ⟨x_2788, ex_2788⟩ : ∃ y : Int32, y = v_2393 + Int32.ofInt 1 := ⟨_, rfl⟩
                replace hE := hE.trans (Lt_in ex_2788)
                have hx_2788 : x_2788.toInt = (v_2393.toInt + 1) := by rw [ex_2788]; exact i_add rfl (show (Int32.ofInt 1).toInt = 1 from rfl) (by omega)
                refine lv_iinc (v := x_2788) (lv' := [(4, .int x_2788), (3, .int x_2787), (5, .int v_2763), (0, .ref p0), (1, .ref t0), (2, .int x)]) hx hb dX4_swapped_67 hl (k := 2) rfl (by rw [ex_2788]) (by decide +kernel) rfl (fun ls hl => ?_)
                refine lv_goto (tgt := 12) hx hb dX4_swapped_70 (by decide +kernel) ?_
                exact ih_2652 x_2788 x_2787 (u_2783.2.1 0) f_2764 (by rw [hx_2788]; omega) (by omega) hf_2764_0 (by omega) (hE.trans (by rw [hrec_2651])) _ _ hP hD hS ls (lv_sub hl [0, 1, 3, 4, 5] rfl)
              · have c_2781i := i_nle (x := n.toInt) (y := v_2763.toInt) rfl rfl c_2781
                replace hE := hE.trans (if_neg c_2781)
                refine lv_aload_n hx hb dX4_swapped_35 rfl (lv_at hl 3 rfl) ?_
                refine va_get (ci := 4) (v := .ref p2) (C := RX4) (T := TX4) (N := 5) hx hb hts hw4 hown hK hP 0 rfl rfl 1 (by decide +kernel) (hts _ mm_X4_swapped_325) (fun _ h9 => h9) rfl dX4_swapped_36 ?_
                refine lv_iload hx hb dX4_swapped_39 (lv_at hl 0 rfl) ?_
                refine lv_aload_n hx hb dX4_swapped_41 rfl (lv_at hl 3 rfl) ?_
                refine lv_aload_n hx hb dX4_swapped_42 rfl (lv_at hl 4 rfl) ?_
                refine lv_iload hx hb dX4_swapped_43 (lv_at hl 0 rfl) ?_
                refine lv_iload_n hx hb dX4_swapped_45 rfl (lv_at hl 2 rfl) ?_
                refine pci (va_runV (As := [.ref t0, .int v_2763, .int v_2394]) (rest := [.int v_2763, .ref p2]) ⟨hx, hb, hml, hown, hts⟩ (w_favourite l D K p0 t0 v_2763 v_2394 p1 p2 p3 p4 p5 t1 k_1 t2 k_3 n k_5 k_6 k_7 k_8 ho f1 f2 H.size (by first | omega | decide) (by first | omega | decide)) (cwV 3 hts gX4_swapped_X4_favourite rfl rfl rfl (by decide +kernel) ⟨Nat.le_of_ble_eq_true rfl, Nat.le_of_ble_eq_true rfl⟩) (mkV hK hN (hP.sub [0, 3, 4, 5] rfl) (hD.sub [0, 3, 4, 5] (by decide +kernel) rfl) (ci := 4) (q0 := 0) rfl rfl) rfl rfl hl.1 rfl (lv_room (Nat.le_of_ble_eq_true rfl)) dX4_swapped_46 ⟨Nat.le_of_ble_eq_true rfl, Nat.le_of_ble_eq_true rfl⟩) (fun r_2789 hw => ?_)
                obtain ⟨h_2791, k_2790, -⟩ := hw
                replace hE := hE.trans (Lt_in k_2790)
                refine va_iast hx hb hK hP hD hS 2 0 rfl rfl (i_in rfl (by omega)) dX4_swapped_49 (fun H locs hP0 hD0 hS0 => ?_)
                clear hP hD hS
                have hP := hP0
                have hD := hD0
                have hS := hS0
                clear hP0 hD0 hS0
                generalize hf_2792 : (upd f_2764 (v_2763 : Int32).toNatClampNeg r_2789) = f_2792 at hP hD
                replace hE := hE.trans (Lt_in hf_2792.symm)
                have hf_2792_0 : Rg 8 0 7 f_2792 := by rw [← hf_2792]; exact Rg.upd hf_2764_0 rfl (by omega)
                replace hP : va_P D vwCl [(p0, .inr (4, [.ref p1, .ref p2, .ref p3, .ref p4, .ref p5])), (p1, .inl (K 0, 8, .inl f_2395)), (p2, .inl (K 0, 8, .inl f_2792)), (t0, .inr (9, [.ref t1, k_1, .ref t2, k_3, .int n, k_5, k_6, k_7, k_8, .int ho])), (t1, .inl (K 0, 56, .inl f1)), (t2, .inl (K 0, 6, .inl f2))] H := hP
                replace hD : va_D A [(p0, .inr (4, [.ref p1, .ref p2, .ref p3, .ref p4, .ref p5])), (p1, .inl (K 0, 8, .inl f_2395)), (p2, .inl (K 0, 8, .inl f_2792)), (t0, .inr (9, [.ref t1, k_1, .ref t2, k_3, .int n, k_5, k_6, k_7, k_8, .int ho])), (t1, .inl (K 0, 56, .inl f1)), (t2, .inl (K 0, 6, .inl f2))] := hD
                obtain ⟨x_2793, ex_2793⟩ : ∃ y : Int32, y = v_2763 + Int32.ofInt 1 := ⟨_, rfl⟩
                replace hE := hE.trans (Lt_in ex_2793)
                have hx_2793 : x_2793.toInt = (v_2763.toInt + 1) := by rw [ex_2793]; exact i_add rfl (show (Int32.ofInt 1).toInt = 1 from rfl) (by omega)
                refine lv_iinc (v := x_2793) (lv' := [(5, .int x_2793), (4, .int v_2393), (3, .int v_2394), (0, .ref p0), (1, .ref t0), (2, .int x)]) hx hb dX4_swapped_50 hl (k := 0) rfl (by rw [ex_2793]) (by decide +kernel) rfl (fun ls hl => ?_)
                refine lv_goto (tgt := 26) hx hb dX4_swapped_53 (by decide +kernel) ?_
                exact ih_2780 x_2793 f_2792 (by rw [hx_2793]; omega) hf_2792_0 (by omega) (hE.trans (by rw [hrec_2779])) _ _ hP hD hS ls (lv_sub hl [0, 1, 2, 3, 4, 5] rfl)
          exact lp_2779 ((9 - (0 : Int32).toInt : Int).toNat + 1) 0 f_2396 (by decide +kernel) hf_2396_0 (Nat.lt_succ_self _) hE _ _ hP hD hS ls (lv_sub hl [0, 1, 2, 3, 4, 5] rfl)
  exact lp_2651 ((9 - (0 : Int32).toInt : Int).toNat + 1) 0 x_1884 fd fp (by decide +kernel) (by rw [hx_1884]; omega) zfp (Nat.lt_succ_self _) hE _ _ hP hD hS ls (lv_sub hl [0, 1, 2, 3, 4] rfl)
set_option maxRecDepth 100000 in
noncomputable def E_w_apart (x : Int32) (y : Int32) : Int32 :=
  Lt (x - y : Int32) (fun x_69 => Lt (if 0 ≤ (x_69 : Int32) then (x_69 : Int32) else 0 - (x_69 : Int32) : Int32) (fun x_70 => Lt (7 - x_70 : Int32) (fun x_71 => Lt (if (x_71 : Int32) < (x_70 : Int32) then (x_71 : Int32) else (x_70 : Int32) : Int32) (fun x_72 => (x_72 : Int32)))))
set_option maxHeartbeats 4000000 in
set_option maxRecDepth 100000 in
theorem w_apart (l : Launch) (D : va_G) (K : Nat → ClassId) (x : Int32) (y : Int32) (sz : Nat) : Met l yX4_apart wsX4_apart ({ frames := 1, cells := 0, slots := 0, locals := 13 }) (va_Pc [.int x, .int y] (Pre D K [] sz)) (vp_Si (fun r : Int32 => (r = E_w_apart x y) ∧ True)) 0 0 (fun _ => False) := by
  refine Met.ofW (cc := cX4_apart) (maxL := 3) (ret := (some .int)) (by decide +kernel) rfl ?_
  intro p e s m args below meth c s₁ B hml hv
  obtain ⟨rfl, hsz, hP, hK, hD0, hN⟩ := hv
  have hx := B.exec
  have hb := B.bytes
  have hr := B.returns
  have hts := atoms_spec (ws := wsX4_apart) B.pre
  have hown : s.vm.findClass RX4 = some m.cls := findClass_of_methodNamed B.named
  have hlocks := B.notSynchronized
  subst hsz
  have hD := hD0
  replace hP : va_P D vwCl [] s.heap := hP
  have hl := lv_entry [.int x, .int y] (n := 3) (Nat.le_of_ble_eq_true rfl)
  rw [lg_entry_eq]
  generalize (lg_sl [.int x, .int y] ++ List.replicate (3 - (lg_sl [.int x, .int y]).length) Slot.unset).toArray = ls at hl ⊢
  have hl : lv_has ls 3 [(0, .int x), (1, .int y)] := hl
  generalize hQ : MQ below _ _ s _ _ _ = Q
  have hE := E_w_apart.eq_def x y
  refine lv_iload_n hx hb dX4_apart_0 rfl (lv_at hl 0 rfl) ?_
  refine lv_iload_n hx hb dX4_apart_1 rfl (lv_at hl 1 rfl) ?_
  refine lv_isub hx hb dX4_apart_2 ?_
  refine lv_topi (fun x_69 ex_69 => ?_)
  replace hE := hE.trans (Lt_in ex_69)
  refine va_mabs hx hb (hml.trans hl.1.symm) hown (hts _ mm_X4_apart_702) (hts _ mm_X4_apart_622) (hts _ mm_X4_apart_157) (hts _ mm_X4_apart_623) (Nat.le_of_ble_eq_true rfl) (Nat.le_of_ble_eq_true rfl) (Nat.le_of_ble_eq_true rfl) (Nat.le_of_ble_eq_true rfl) dX4_apart_3 ?_
  refine lv_topi (fun x_70 ex_70 => ?_)
  replace hE := hE.trans (Lt_in ex_70)
  refine lv_istore_n (lv' := [(2, .int x_70), (0, .int x), (1, .int y)]) hx hb dX4_apart_6 rfl hl (by decide +kernel) rfl (fun ls hl => ?_)
  refine lv_iload_n hx hb dX4_apart_7 rfl (lv_at hl 0 rfl) ?_
  refine lv_bipush (v := 7) hx hb dX4_apart_8 (by decide +kernel) ?_
  refine lv_iload_n hx hb dX4_apart_10 rfl (lv_at hl 0 rfl) ?_
  refine lv_isub hx hb dX4_apart_11 ?_
  refine lv_topi (fun x_71 ex_71 => ?_)
  replace hE := hE.trans (Lt_in ex_71)
  refine va_mmin hx hb (hml.trans hl.1.symm) hown (hts _ mm_X4_apart_721) (hts _ mm_X4_apart_426) (hts _ mm_X4_apart_157) (hts _ mm_X4_apart_427) (Nat.le_of_ble_eq_true rfl) (Nat.le_of_ble_eq_true rfl) (Nat.le_of_ble_eq_true rfl) (Nat.le_of_ble_eq_true rfl) dX4_apart_12 ?_
  refine lv_topi (fun x_72 ex_72 => ?_)
  replace hE := hE.trans (Lt_in ex_72)
  have hx_72 : (x_70.toInt ≤ x_71.toInt ∧ x_72.toInt = x_70.toInt) ∨ (x_71.toInt < x_70.toInt ∧ x_72.toInt = x_71.toInt) := by rw [ex_72]; exact i_min rfl rfl
  replace hx_72 : x_72.toInt ≤ x_70.toInt ∧ x_72.toInt ≤ x_71.toInt := by omega
  rw [← hQ]
  exact W.iret (v := x_72) hx hb hr (fun t ht hW => ⟨_, rfl, ⟨hE.symm, trivial⟩, ht⟩) (fun q hq => by cases hq) dX4_apart_15
set_option maxRecDepth 100000 in
noncomputable def E_w_nearest_j45 (v_458 : Int32) (rec_504 : Int32 → Int32 → Int32 → (Int32)) (v_515 : Int32) (v_516 : Int32) : Int32 :=
  Lt (v_458 + Int32.ofInt 1 : Int32) (fun x_519 => rec_504 x_519 v_515 v_516)
set_option maxRecDepth 100000 in
noncomputable def E_w_nearest_l8 (x : Int32) (y : Int32) (rec_504 : Int32 → Int32 → Int32 → (Int32)) (v_458 : Int32) (v_459 : Int32) (v_460 : Int32) : Int32 :=
  if 7 ≤ v_458 then ((v_460 : Int32)) else (Lt (y >>> (v_458 &&& 31) : Int32) (fun x_507 => Lt (x_507 &&& 1 : Int32) (fun x_508 => if x_508 = 1 then (Lt (E_w_apart v_458 x) (fun r_521 => if v_459 ≤ r_521 then (E_w_nearest_j45 v_458 rec_504 v_459 v_460) else (Lt (E_w_apart v_458 x) (fun r_524 => E_w_nearest_j45 v_458 rec_504 r_524 v_458)))) else (E_w_nearest_j45 v_458 rec_504 v_459 v_460))))
set_option maxRecDepth 100000 in
noncomputable def E_w_nearest (x : Int32) (y : Int32) : Int32 :=
  Lp (α := Int32 → Int32 → Int32 → (Int32)) (E_w_nearest_l8 x y) (fun _ _ _ => ((0) : Int32)) ((8 - (0 : Int32).toInt : Int).toNat + 1) 0 7 x
set_option maxHeartbeats 4000000 in
set_option maxRecDepth 100000 in
theorem w_nearest (l : Launch) (D : va_G) (K : Nat → ClassId) (x : Int32) (y : Int32) (sz : Nat) : Met l yX4_nearest wsX4_nearest ({ frames := 2, cells := 0, slots := 0, locals := 35 }) (va_Pc [.int x, .int y] (Pre D K [] sz)) (vp_Si (fun r : Int32 => (r = E_w_nearest x y) ∧ True)) 0 0 (fun _ => False) := by
  refine Met.ofW (cc := cX4_nearest) (maxL := 5) (ret := (some .int)) (by decide +kernel) rfl ?_
  intro p e s m args below meth c s₁ B hml hv
  obtain ⟨rfl, hsz, hP, hK, hD0, hN⟩ := hv
  have hx := B.exec
  have hb := B.bytes
  have hr := B.returns
  have hts := atoms_spec (ws := wsX4_nearest) B.pre
  have hown : s.vm.findClass RX4 = some m.cls := findClass_of_methodNamed B.named
  have hlocks := B.notSynchronized
  subst hsz
  have hD := hD0
  replace hP : va_P D vwCl [] s.heap := hP
  have hl := lv_entry [.int x, .int y] (n := 5) (Nat.le_of_ble_eq_true rfl)
  rw [lg_entry_eq]
  generalize (lg_sl [.int x, .int y] ++ List.replicate (5 - (lg_sl [.int x, .int y]).length) Slot.unset).toArray = ls at hl ⊢
  have hl : lv_has ls 5 [(0, .int x), (1, .int y)] := hl
  generalize hQ : MQ below _ _ s _ _ _ = Q
  have hE := E_w_nearest.eq_def x y
  refine lv_iload_n hx hb dX4_nearest_0 rfl (lv_at hl 0 rfl) ?_
  refine lv_istore_n (lv' := [(2, .int x), (0, .int x), (1, .int y)]) hx hb dX4_nearest_1 rfl hl (by decide +kernel) rfl (fun ls hl => ?_)
  refine lv_bipush (v := 7) hx hb dX4_nearest_2 (by decide +kernel) ?_
  refine lv_istore_n (lv' := [(3, .int 7), (2, .int x), (0, .int x), (1, .int y)]) hx hb dX4_nearest_4 rfl hl (by decide +kernel) rfl (fun ls hl => ?_)
  refine lv_iconst (v := 0) hx hb dX4_nearest_5 (by decide +kernel) ?_
  refine lv_istore (lv' := [(4, .int 0), (3, .int 7), (2, .int x), (0, .int x), (1, .int y)]) hx hb dX4_nearest_6 hl (by decide +kernel) rfl (fun ls hl => ?_)
  have lp_504 : ∀ (nn_ : Nat) (v_458 : Int32) (v_459 : Int32) (v_460 : Int32) (hv_458 : 0 ≤ v_458.toInt ∧ v_458.toInt ≤ 7) (hn : (8 - v_458.toInt : Int).toNat < nn_) (hE : E_w_nearest x y = Lp (α := Int32 → Int32 → Int32 → (Int32)) (E_w_nearest_l8 x y) (fun _ _ _ => ((0) : Int32)) nn_ v_458 v_459 v_460) (ls : Array Slot) (hl : lv_has ls 5 [(4, .int v_458), (3, .int v_459), (2, .int v_460), (0, .int x), (1, .int y)]), W p l e ({ frames := 2, cells := 0, slots := 0, locals := 35 }) s m (([.int x, .int y] : List Value).toArray) below meth c s.heap [] 0 0 Q (F0 m 8 ls []) := by
    clear hE hl
    intro nn_
    induction nn_ with
    | zero =>
      intro v_458 v_459 v_460 hv_458 hn hE ls hl
      exact absurd hn (Nat.not_lt_zero _)
    | succ nn_ ih_505 =>
      intro v_458 v_459 v_460 hv_458 hn hE ls hl
      replace hE : E_w_nearest x y = E_w_nearest_l8 x y (Lp (α := Int32 → Int32 → Int32 → (Int32)) (E_w_nearest_l8 x y) (fun _ _ _ => ((0) : Int32)) nn_) v_458 v_459 v_460 := hE
      obtain ⟨rec_504, hrec_504⟩ : ∃ z9, z9 = Lp (α := Int32 → Int32 → Int32 → (Int32)) (E_w_nearest_l8 x y) (fun _ _ _ => ((0) : Int32)) nn_ := ⟨_, rfl⟩
      rw [← hrec_504] at hE
      replace hE := hE.trans (E_w_nearest_l8.eq_def _ _ _ _ _ _)
      refine lv_iload hx hb dX4_nearest_8 (lv_at hl 0 rfl) ?_
      refine lv_bipush (v := 7) hx hb dX4_nearest_10 (by decide +kernel) ?_
      refine lv_icmp_ge (tgt := 51) hx hb dX4_nearest_12 (by decide +kernel) (fun c_506 => ?_) (fun c_506 => ?_)
      · have c_506i := i_le (x := 7) (y := v_458.toInt) rfl rfl c_506
        replace hE := hE.trans (if_pos c_506)
        refine lv_iload_n hx hb dX4_nearest_51 rfl (lv_at hl 2 rfl) ?_
        rw [← hQ]
        exact W.iret (v := v_460) hx hb hr (fun t ht hW => ⟨_, rfl, ⟨hE.symm, trivial⟩, ht⟩) (fun q hq => by cases hq) dX4_nearest_52
      · have c_506i := i_nle (x := 7) (y := v_458.toInt) rfl rfl c_506
        replace hE := hE.trans (if_neg c_506)
        refine lv_iload_n hx hb dX4_nearest_15 rfl (lv_at hl 4 rfl) ?_
        refine lv_iload hx hb dX4_nearest_16 (lv_at hl 0 rfl) ?_
        refine lv_ishr hx hb dX4_nearest_18 ?_
        refine lv_topi (fun x_507 ex_507 => ?_)
        replace hE := hE.trans (Lt_in ex_507)
        refine lv_iconst (v := 1) hx hb dX4_nearest_19 (by decide +kernel) ?_
        refine lv_iand hx hb dX4_nearest_20 ?_
        refine lv_topi (fun x_508 ex_508 => ?_)
        replace hE := hE.trans (Lt_in ex_508)
        have hx_508 : 0 ≤ x_508.toInt ∧ x_508.toInt ≤ 1 := by rw [ex_508]; exact i_mask x_507 1 rfl (by decide +kernel)
        refine lv_iconst (v := 1) hx hb dX4_nearest_21 (by decide +kernel) ?_
        have j_518 : ∀ (v_515 : Int32) (v_516 : Int32) (hE : E_w_nearest x y = E_w_nearest_j45 v_458 rec_504 v_515 v_516) (ls : Array Slot) (hl : lv_has ls 5 [(4, .int v_458), (3, .int v_515), (2, .int v_516), (0, .int x), (1, .int y)]), W p l e ({ frames := 2, cells := 0, slots := 0, locals := 35 }) s m (([.int x, .int y] : List Value).toArray) below meth c s.heap [] 0 0 Q (F0 m 45 ls []) := by
          clear hE hl
          intro v_515 v_516 hE ls hl
          replace hE := hE.trans (E_w_nearest_j45.eq_def _ _ _ _)
          obtain ⟨x_519, ex_519⟩ : ∃ y : Int32, y = v_458 + Int32.ofInt 1 := ⟨_, rfl⟩
          replace hE := hE.trans (Lt_in ex_519)
          have hx_519 : x_519.toInt = (v_458.toInt + 1) := by rw [ex_519]; exact i_add rfl (show (Int32.ofInt 1).toInt = 1 from rfl) (by omega)
          refine lv_iinc (v := x_519) (lv' := [(4, .int x_519), (3, .int v_515), (2, .int v_516), (0, .int x), (1, .int y)]) hx hb dX4_nearest_45 hl (k := 0) rfl (by rw [ex_519]) (by decide +kernel) rfl (fun ls hl => ?_)
          refine lv_goto (tgt := 8) hx hb dX4_nearest_48 (by decide +kernel) ?_
          exact ih_505 x_519 v_515 v_516 (by rw [hx_519]; omega) (by omega) (hE.trans (by rw [hrec_504])) ls (lv_sub hl [0, 1, 2, 3, 4] rfl)
        refine lv_icmp_ne (tgt := 45) hx hb dX4_nearest_22 (by decide +kernel) (fun c_520 => ?_) (fun c_520 => ?_)
        · have c_520i := i_ne (x := x_508.toInt) (y := 1) rfl rfl c_520
          replace hE := hE.trans (if_neg c_520)
          exact j_518 v_459 v_460  hE ls (lv_sub hl [0, 1, 2, 3, 4] rfl)
        · have c_520i := i_eq (x := x_508.toInt) (y := 1) rfl rfl c_520
          replace hE := hE.trans (if_pos c_520)
          refine lv_iload hx hb dX4_nearest_25 (lv_at hl 0 rfl) ?_
          refine lv_iload_n hx hb dX4_nearest_27 rfl (lv_at hl 3 rfl) ?_
          refine pci (va_runS (As := [.int v_458, .int x]) (rest := []) ⟨hx, hb, hml, hown, hts⟩ (w_apart l D K v_458 x s.heap.size) (va_cwS 2 hts gX4_nearest_X4_apart rfl rfl rfl (by decide +kernel) ⟨Nat.le_of_ble_eq_true rfl, Nat.le_of_ble_eq_true rfl⟩) (mkS hK hN (va_P.nil) (va_D.nil (A := fun _ => True))) rfl rfl hl.1 rfl (lv_room (Nat.le_of_ble_eq_true rfl)) dX4_nearest_28 ⟨Nat.le_of_ble_eq_true rfl, Nat.le_of_ble_eq_true rfl⟩) (fun r_521 hw => ?_)
          obtain ⟨k_522, -⟩ := hw
          replace hE := hE.trans (Lt_in k_522)
          refine lv_iload_n hx hb dX4_nearest_31 rfl (lv_at hl 1 rfl) ?_
          refine lv_icmp_ge (tgt := 45) hx hb dX4_nearest_32 (by decide +kernel) (fun c_523 => ?_) (fun c_523 => ?_)
          · have c_523i := i_le (x := v_459.toInt) (y := r_521.toInt) rfl rfl c_523
            replace hE := hE.trans (if_pos c_523)
            exact j_518 v_459 v_460  hE ls (lv_sub hl [0, 1, 2, 3, 4] rfl)
          · have c_523i := i_nle (x := v_459.toInt) (y := r_521.toInt) rfl rfl c_523
            replace hE := hE.trans (if_neg c_523)
            refine lv_iload hx hb dX4_nearest_35 (lv_at hl 0 rfl) ?_
            refine lv_iload_n hx hb dX4_nearest_37 rfl (lv_at hl 3 rfl) ?_
            refine pci (va_runS (As := [.int v_458, .int x]) (rest := []) ⟨hx, hb, hml, hown, hts⟩ (w_apart l D K v_458 x s.heap.size) (va_cwS 2 hts gX4_nearest_X4_apart rfl rfl rfl (by decide +kernel) ⟨Nat.le_of_ble_eq_true rfl, Nat.le_of_ble_eq_true rfl⟩) (mkS hK hN (va_P.nil) (va_D.nil (A := fun _ => True))) rfl rfl hl.1 rfl (lv_room (Nat.le_of_ble_eq_true rfl)) dX4_nearest_38 ⟨Nat.le_of_ble_eq_true rfl, Nat.le_of_ble_eq_true rfl⟩) (fun r_524 hw => ?_)
            obtain ⟨k_525, -⟩ := hw
            replace hE := hE.trans (Lt_in k_525)
            refine lv_istore_n (lv' := [(3, .int r_524), (4, .int v_458), (2, .int v_460), (0, .int x), (1, .int y)]) hx hb dX4_nearest_41 rfl hl (by decide +kernel) rfl (fun ls hl => ?_)
            refine lv_iload hx hb dX4_nearest_42 (lv_at hl 1 rfl) ?_
            refine lv_istore_n (lv' := [(2, .int v_458), (3, .int r_524), (4, .int v_458), (0, .int x), (1, .int y)]) hx hb dX4_nearest_44 rfl hl (by decide +kernel) rfl (fun ls hl => ?_)
            exact j_518 r_524 v_458  hE ls (lv_sub hl [2, 1, 0, 3, 4] rfl)
  exact lp_504 ((8 - (0 : Int32).toInt : Int).toNat + 1) 0 7 x (by decide +kernel) (Nat.lt_succ_self _) hE ls (lv_sub hl [0, 1, 2, 3, 4] rfl)
