theorem dX12_reckon_1 : decode cX12_reckon 1 = .ok (.tableswitch 148 20 26 #[43, 48, 53, 58, 90, 122, 135], 43) := by decide +kernel
theorem BX12_reckon_0 : bsegs (ByteArray.data cX12_reckon |>.toList.drop 0) 0 [(0, [27]), (44, [32]), (45, [22, 4]), (47, [97]), (48, [173]), (49, [32]), (50, [22, 4]), (52, [101]), (53, [173]), (54, [32]), (55, [22, 4]), (57, [105]), (58, [173]), (59, [42]), (60, [22, 4]), (62, [9]), (63, [148]), (64, [154, 0, 7]), (67, [4]), (68, [167, 0, 4]), (71, [3]), (72, [181, 1, 130]), (75, [42]), (76, [180, 1, 130])] = true := by decide +kernel
theorem dX12_reckon_0 : decode cX12_reckon 0 = .ok (.iload_n 1, 1) := dk_27 (bs_at BX12_reckon_0 0 rfl)
theorem dX12_reckon_44 : decode cX12_reckon 44 = .ok (.lload_n 2, 1) := dk_32 (bs_at BX12_reckon_0 1 rfl)
theorem dX12_reckon_45 : decode cX12_reckon 45 = .ok (.lload 4, 2) := dk_22 4 (bs_at BX12_reckon_0 2 rfl)
theorem dX12_reckon_47 : decode cX12_reckon 47 = .ok (.ladd, 1) := dk_97 (bs_at BX12_reckon_0 3 rfl)
theorem dX12_reckon_48 : decode cX12_reckon 48 = .ok (.lreturn, 1) := dk_173 (bs_at BX12_reckon_0 4 rfl)
theorem dX12_reckon_49 : decode cX12_reckon 49 = .ok (.lload_n 2, 1) := dk_32 (bs_at BX12_reckon_0 5 rfl)
theorem dX12_reckon_50 : decode cX12_reckon 50 = .ok (.lload 4, 2) := dk_22 4 (bs_at BX12_reckon_0 6 rfl)
theorem dX12_reckon_52 : decode cX12_reckon 52 = .ok (.lsub, 1) := dk_101 (bs_at BX12_reckon_0 7 rfl)
theorem dX12_reckon_53 : decode cX12_reckon 53 = .ok (.lreturn, 1) := dk_173 (bs_at BX12_reckon_0 8 rfl)
theorem dX12_reckon_54 : decode cX12_reckon 54 = .ok (.lload_n 2, 1) := dk_32 (bs_at BX12_reckon_0 9 rfl)
theorem dX12_reckon_55 : decode cX12_reckon 55 = .ok (.lload 4, 2) := dk_22 4 (bs_at BX12_reckon_0 10 rfl)
theorem dX12_reckon_57 : decode cX12_reckon 57 = .ok (.lmul, 1) := dk_105 (bs_at BX12_reckon_0 11 rfl)
theorem dX12_reckon_58 : decode cX12_reckon 58 = .ok (.lreturn, 1) := dk_173 (bs_at BX12_reckon_0 12 rfl)
theorem dX12_reckon_59 : decode cX12_reckon 59 = .ok (.aload_n 0, 1) := dk_42 (bs_at BX12_reckon_0 13 rfl)
theorem dX12_reckon_60 : decode cX12_reckon 60 = .ok (.lload 4, 2) := dk_22 4 (bs_at BX12_reckon_0 14 rfl)
theorem dX12_reckon_62 : decode cX12_reckon 62 = .ok (.lconst 0, 1) := dk_9 (bs_at BX12_reckon_0 15 rfl)
theorem dX12_reckon_63 : decode cX12_reckon 63 = .ok (.lcmp, 1) := dk_148 (bs_at BX12_reckon_0 16 rfl)
theorem dX12_reckon_64 : decode cX12_reckon 64 = .ok (.ifCond .ne 7, 3) := dk_154 0 7 (bs_at BX12_reckon_0 17 rfl) rfl
theorem dX12_reckon_67 : decode cX12_reckon 67 = .ok (.iconst 1, 1) := dk_4 (bs_at BX12_reckon_0 18 rfl)
theorem dX12_reckon_68 : decode cX12_reckon 68 = .ok (.goto 4, 3) := dk_167 0 4 (bs_at BX12_reckon_0 19 rfl) rfl
theorem dX12_reckon_71 : decode cX12_reckon 71 = .ok (.iconst 0, 1) := dk_3 (bs_at BX12_reckon_0 20 rfl)
theorem dX12_reckon_72 : decode cX12_reckon 72 = .ok (.putfield 386, 3) := dk_181 1 130 (bs_at BX12_reckon_0 21 rfl) rfl
theorem dX12_reckon_75 : decode cX12_reckon 75 = .ok (.aload_n 0, 1) := dk_42 (bs_at BX12_reckon_0 22 rfl)
theorem dX12_reckon_76 : decode cX12_reckon 76 = .ok (.getfield 386, 3) := dk_180 1 130 (bs_at BX12_reckon_0 23 rfl) rfl
theorem BX12_reckon_79 : bsegs (ByteArray.data cX12_reckon |>.toList.drop 79) 79 [(79, [153, 0, 7]), (82, [9]), (83, [167, 0, 7]), (86, [32]), (87, [22, 4]), (89, [109]), (90, [173]), (91, [42]), (92, [22, 4]), (94, [9]), (95, [148]), (96, [154, 0, 7]), (99, [4]), (100, [167, 0, 4]), (103, [3]), (104, [181, 1, 130]), (107, [42]), (108, [180, 1, 130]), (111, [153, 0, 7]), (114, [9]), (115, [167, 0, 7]), (118, [32]), (119, [22, 4]), (121, [113])] = true := by decide +kernel
theorem dX12_reckon_79 : decode cX12_reckon 79 = .ok (.ifCond .eq 7, 3) := dk_153 0 7 (bs_at BX12_reckon_79 0 rfl) rfl
theorem dX12_reckon_82 : decode cX12_reckon 82 = .ok (.lconst 0, 1) := dk_9 (bs_at BX12_reckon_79 1 rfl)
theorem dX12_reckon_83 : decode cX12_reckon 83 = .ok (.goto 7, 3) := dk_167 0 7 (bs_at BX12_reckon_79 2 rfl) rfl
theorem dX12_reckon_86 : decode cX12_reckon 86 = .ok (.lload_n 2, 1) := dk_32 (bs_at BX12_reckon_79 3 rfl)
theorem dX12_reckon_87 : decode cX12_reckon 87 = .ok (.lload 4, 2) := dk_22 4 (bs_at BX12_reckon_79 4 rfl)
theorem dX12_reckon_89 : decode cX12_reckon 89 = .ok (.ldiv, 1) := dk_109 (bs_at BX12_reckon_79 5 rfl)
theorem dX12_reckon_90 : decode cX12_reckon 90 = .ok (.lreturn, 1) := dk_173 (bs_at BX12_reckon_79 6 rfl)
theorem dX12_reckon_91 : decode cX12_reckon 91 = .ok (.aload_n 0, 1) := dk_42 (bs_at BX12_reckon_79 7 rfl)
theorem dX12_reckon_92 : decode cX12_reckon 92 = .ok (.lload 4, 2) := dk_22 4 (bs_at BX12_reckon_79 8 rfl)
theorem dX12_reckon_94 : decode cX12_reckon 94 = .ok (.lconst 0, 1) := dk_9 (bs_at BX12_reckon_79 9 rfl)
theorem dX12_reckon_95 : decode cX12_reckon 95 = .ok (.lcmp, 1) := dk_148 (bs_at BX12_reckon_79 10 rfl)
theorem dX12_reckon_96 : decode cX12_reckon 96 = .ok (.ifCond .ne 7, 3) := dk_154 0 7 (bs_at BX12_reckon_79 11 rfl) rfl
theorem dX12_reckon_99 : decode cX12_reckon 99 = .ok (.iconst 1, 1) := dk_4 (bs_at BX12_reckon_79 12 rfl)
theorem dX12_reckon_100 : decode cX12_reckon 100 = .ok (.goto 4, 3) := dk_167 0 4 (bs_at BX12_reckon_79 13 rfl) rfl
theorem dX12_reckon_103 : decode cX12_reckon 103 = .ok (.iconst 0, 1) := dk_3 (bs_at BX12_reckon_79 14 rfl)
theorem dX12_reckon_104 : decode cX12_reckon 104 = .ok (.putfield 386, 3) := dk_181 1 130 (bs_at BX12_reckon_79 15 rfl) rfl
theorem dX12_reckon_107 : decode cX12_reckon 107 = .ok (.aload_n 0, 1) := dk_42 (bs_at BX12_reckon_79 16 rfl)
theorem dX12_reckon_108 : decode cX12_reckon 108 = .ok (.getfield 386, 3) := dk_180 1 130 (bs_at BX12_reckon_79 17 rfl) rfl
theorem dX12_reckon_111 : decode cX12_reckon 111 = .ok (.ifCond .eq 7, 3) := dk_153 0 7 (bs_at BX12_reckon_79 18 rfl) rfl
theorem dX12_reckon_114 : decode cX12_reckon 114 = .ok (.lconst 0, 1) := dk_9 (bs_at BX12_reckon_79 19 rfl)
theorem dX12_reckon_115 : decode cX12_reckon 115 = .ok (.goto 7, 3) := dk_167 0 7 (bs_at BX12_reckon_79 20 rfl) rfl
theorem dX12_reckon_118 : decode cX12_reckon 118 = .ok (.lload_n 2, 1) := dk_32 (bs_at BX12_reckon_79 21 rfl)
theorem dX12_reckon_119 : decode cX12_reckon 119 = .ok (.lload 4, 2) := dk_22 4 (bs_at BX12_reckon_79 22 rfl)
theorem dX12_reckon_121 : decode cX12_reckon 121 = .ok (.lrem, 1) := dk_113 (bs_at BX12_reckon_79 23 rfl)
theorem BX12_reckon_122 : bsegs (ByteArray.data cX12_reckon |>.toList.drop 122) 122 [(122, [173]), (123, [32]), (124, [22, 4]), (126, [148]), (127, [156, 0, 7]), (130, [10]), (131, [167, 0, 4]), (134, [9]), (135, [173]), (136, [32]), (137, [22, 4]), (139, [148]), (140, [158, 0, 7]), (143, [10]), (144, [167, 0, 4]), (147, [9]), (148, [173]), (149, [32]), (150, [22, 4]), (152, [148]), (153, [154, 0, 7]), (156, [10]), (157, [167, 0, 4]), (160, [9])] = true := by decide +kernel
theorem dX12_reckon_122 : decode cX12_reckon 122 = .ok (.lreturn, 1) := dk_173 (bs_at BX12_reckon_122 0 rfl)
theorem dX12_reckon_123 : decode cX12_reckon 123 = .ok (.lload_n 2, 1) := dk_32 (bs_at BX12_reckon_122 1 rfl)
theorem dX12_reckon_124 : decode cX12_reckon 124 = .ok (.lload 4, 2) := dk_22 4 (bs_at BX12_reckon_122 2 rfl)
theorem dX12_reckon_126 : decode cX12_reckon 126 = .ok (.lcmp, 1) := dk_148 (bs_at BX12_reckon_122 3 rfl)
theorem dX12_reckon_127 : decode cX12_reckon 127 = .ok (.ifCond .ge 7, 3) := dk_156 0 7 (bs_at BX12_reckon_122 4 rfl) rfl
theorem dX12_reckon_130 : decode cX12_reckon 130 = .ok (.lconst 1, 1) := dk_10 (bs_at BX12_reckon_122 5 rfl)
theorem dX12_reckon_131 : decode cX12_reckon 131 = .ok (.goto 4, 3) := dk_167 0 4 (bs_at BX12_reckon_122 6 rfl) rfl
theorem dX12_reckon_134 : decode cX12_reckon 134 = .ok (.lconst 0, 1) := dk_9 (bs_at BX12_reckon_122 7 rfl)
theorem dX12_reckon_135 : decode cX12_reckon 135 = .ok (.lreturn, 1) := dk_173 (bs_at BX12_reckon_122 8 rfl)
theorem dX12_reckon_136 : decode cX12_reckon 136 = .ok (.lload_n 2, 1) := dk_32 (bs_at BX12_reckon_122 9 rfl)
theorem dX12_reckon_137 : decode cX12_reckon 137 = .ok (.lload 4, 2) := dk_22 4 (bs_at BX12_reckon_122 10 rfl)
theorem dX12_reckon_139 : decode cX12_reckon 139 = .ok (.lcmp, 1) := dk_148 (bs_at BX12_reckon_122 11 rfl)
theorem dX12_reckon_140 : decode cX12_reckon 140 = .ok (.ifCond .le 7, 3) := dk_158 0 7 (bs_at BX12_reckon_122 12 rfl) rfl
theorem dX12_reckon_143 : decode cX12_reckon 143 = .ok (.lconst 1, 1) := dk_10 (bs_at BX12_reckon_122 13 rfl)
theorem dX12_reckon_144 : decode cX12_reckon 144 = .ok (.goto 4, 3) := dk_167 0 4 (bs_at BX12_reckon_122 14 rfl) rfl
theorem dX12_reckon_147 : decode cX12_reckon 147 = .ok (.lconst 0, 1) := dk_9 (bs_at BX12_reckon_122 15 rfl)
theorem dX12_reckon_148 : decode cX12_reckon 148 = .ok (.lreturn, 1) := dk_173 (bs_at BX12_reckon_122 16 rfl)
theorem dX12_reckon_149 : decode cX12_reckon 149 = .ok (.lload_n 2, 1) := dk_32 (bs_at BX12_reckon_122 17 rfl)
theorem dX12_reckon_150 : decode cX12_reckon 150 = .ok (.lload 4, 2) := dk_22 4 (bs_at BX12_reckon_122 18 rfl)
theorem dX12_reckon_152 : decode cX12_reckon 152 = .ok (.lcmp, 1) := dk_148 (bs_at BX12_reckon_122 19 rfl)
theorem dX12_reckon_153 : decode cX12_reckon 153 = .ok (.ifCond .ne 7, 3) := dk_154 0 7 (bs_at BX12_reckon_122 20 rfl) rfl
theorem dX12_reckon_156 : decode cX12_reckon 156 = .ok (.lconst 1, 1) := dk_10 (bs_at BX12_reckon_122 21 rfl)
theorem dX12_reckon_157 : decode cX12_reckon 157 = .ok (.goto 4, 3) := dk_167 0 4 (bs_at BX12_reckon_122 22 rfl) rfl
theorem dX12_reckon_160 : decode cX12_reckon 160 = .ok (.lconst 0, 1) := dk_9 (bs_at BX12_reckon_122 23 rfl)
theorem BX12_reckon_161 : bsegs (ByteArray.data cX12_reckon |>.toList.drop 161) 161 [(161, [173])] = true := by decide +kernel
theorem dX12_reckon_161 : decode cX12_reckon 161 = .ok (.lreturn, 1) := dk_173 (bs_at BX12_reckon_161 0 rfl)
theorem BX12_reckonAll_0 : bsegs (ByteArray.data cX12_reckonAll |>.toList.drop 0) 0 [(0, [42]), (1, [3]), (2, [181, 1, 130]), (5, [3]), (6, [62]), (7, [27]), (8, [54, 4]), (10, [21, 4]), (12, [28]), (13, [162, 1, 101]), (16, [42]), (17, [180, 1, 130]), (20, [154, 1, 94]), (23, [42]), (24, [180, 1, 58]), (27, [153, 0, 13]), (40, [42]), (41, [180, 0, 13]), (44, [42]), (45, [180, 1, 133]), (48, [16, 98]), (50, [96]), (51, [5]), (52, [21, 4])] = true := by decide +kernel
theorem dX12_reckonAll_0 : decode cX12_reckonAll 0 = .ok (.aload_n 0, 1) := dk_42 (bs_at BX12_reckonAll_0 0 rfl)
theorem dX12_reckonAll_1 : decode cX12_reckonAll 1 = .ok (.iconst 0, 1) := dk_3 (bs_at BX12_reckonAll_0 1 rfl)
theorem dX12_reckonAll_2 : decode cX12_reckonAll 2 = .ok (.putfield 386, 3) := dk_181 1 130 (bs_at BX12_reckonAll_0 2 rfl) rfl
theorem dX12_reckonAll_5 : decode cX12_reckonAll 5 = .ok (.iconst 0, 1) := dk_3 (bs_at BX12_reckonAll_0 3 rfl)
theorem dX12_reckonAll_6 : decode cX12_reckonAll 6 = .ok (.istore_n 3, 1) := dk_62 (bs_at BX12_reckonAll_0 4 rfl)
theorem dX12_reckonAll_7 : decode cX12_reckonAll 7 = .ok (.iload_n 1, 1) := dk_27 (bs_at BX12_reckonAll_0 5 rfl)
theorem dX12_reckonAll_8 : decode cX12_reckonAll 8 = .ok (.istore 4, 2) := dk_54 4 (bs_at BX12_reckonAll_0 6 rfl)
theorem dX12_reckonAll_10 : decode cX12_reckonAll 10 = .ok (.iload 4, 2) := dk_21 4 (bs_at BX12_reckonAll_0 7 rfl)
theorem dX12_reckonAll_12 : decode cX12_reckonAll 12 = .ok (.iload_n 2, 1) := dk_28 (bs_at BX12_reckonAll_0 8 rfl)
theorem dX12_reckonAll_13 : decode cX12_reckonAll 13 = .ok (.if_icmp .ge 357, 3) := dk_162 1 101 (bs_at BX12_reckonAll_0 9 rfl) rfl
theorem dX12_reckonAll_16 : decode cX12_reckonAll 16 = .ok (.aload_n 0, 1) := dk_42 (bs_at BX12_reckonAll_0 10 rfl)
theorem dX12_reckonAll_17 : decode cX12_reckonAll 17 = .ok (.getfield 386, 3) := dk_180 1 130 (bs_at BX12_reckonAll_0 11 rfl) rfl
theorem dX12_reckonAll_20 : decode cX12_reckonAll 20 = .ok (.ifCond .ne 350, 3) := dk_154 1 94 (bs_at BX12_reckonAll_0 12 rfl) rfl
theorem dX12_reckonAll_23 : decode cX12_reckonAll 23 = .ok (.aload_n 0, 1) := dk_42 (bs_at BX12_reckonAll_0 13 rfl)
theorem dX12_reckonAll_24 : decode cX12_reckonAll 24 = .ok (.getfield 314, 3) := dk_180 1 58 (bs_at BX12_reckonAll_0 14 rfl) rfl
theorem dX12_reckonAll_27 : decode cX12_reckonAll 27 = .ok (.ifCond .eq 13, 3) := dk_153 0 13 (bs_at BX12_reckonAll_0 15 rfl) rfl
theorem dX12_reckonAll_40 : decode cX12_reckonAll 40 = .ok (.aload_n 0, 1) := dk_42 (bs_at BX12_reckonAll_0 16 rfl)
theorem dX12_reckonAll_41 : decode cX12_reckonAll 41 = .ok (.getfield 13, 3) := dk_180 0 13 (bs_at BX12_reckonAll_0 17 rfl) rfl
theorem dX12_reckonAll_44 : decode cX12_reckonAll 44 = .ok (.aload_n 0, 1) := dk_42 (bs_at BX12_reckonAll_0 18 rfl)
theorem dX12_reckonAll_45 : decode cX12_reckonAll 45 = .ok (.getfield 389, 3) := dk_180 1 133 (bs_at BX12_reckonAll_0 19 rfl) rfl
theorem dX12_reckonAll_48 : decode cX12_reckonAll 48 = .ok (.bipush 98, 2) := dk_16 98 (bs_at BX12_reckonAll_0 20 rfl) rfl
theorem dX12_reckonAll_50 : decode cX12_reckonAll 50 = .ok (.iadd, 1) := dk_96 (bs_at BX12_reckonAll_0 21 rfl)
theorem dX12_reckonAll_51 : decode cX12_reckonAll 51 = .ok (.iconst 2, 1) := dk_5 (bs_at BX12_reckonAll_0 22 rfl)
theorem dX12_reckonAll_52 : decode cX12_reckonAll 52 = .ok (.iload 4, 2) := dk_21 4 (bs_at BX12_reckonAll_0 23 rfl)
theorem BX12_reckonAll_54 : bsegs (ByteArray.data cX12_reckonAll |>.toList.drop 54) 54 [(54, [104]), (55, [96]), (56, [46]), (57, [54, 5]), (59, [42]), (60, [180, 1, 58]), (63, [153, 0, 13]), (76, [42]), (77, [180, 0, 13]), (80, [42]), (81, [180, 1, 133]), (84, [16, 98]), (86, [96]), (87, [5]), (88, [21, 4]), (90, [104]), (91, [96]), (92, [4]), (93, [96]), (94, [46]), (95, [54, 6]), (97, [132, 4, 1]), (100, [21, 5]), (102, [16, 20])] = true := by decide +kernel
theorem dX12_reckonAll_54 : decode cX12_reckonAll 54 = .ok (.imul, 1) := dk_104 (bs_at BX12_reckonAll_54 0 rfl)
theorem dX12_reckonAll_55 : decode cX12_reckonAll 55 = .ok (.iadd, 1) := dk_96 (bs_at BX12_reckonAll_54 1 rfl)
theorem dX12_reckonAll_56 : decode cX12_reckonAll 56 = .ok (.iaload, 1) := dk_46 (bs_at BX12_reckonAll_54 2 rfl)
theorem dX12_reckonAll_57 : decode cX12_reckonAll 57 = .ok (.istore 5, 2) := dk_54 5 (bs_at BX12_reckonAll_54 3 rfl)
theorem dX12_reckonAll_59 : decode cX12_reckonAll 59 = .ok (.aload_n 0, 1) := dk_42 (bs_at BX12_reckonAll_54 4 rfl)
theorem dX12_reckonAll_60 : decode cX12_reckonAll 60 = .ok (.getfield 314, 3) := dk_180 1 58 (bs_at BX12_reckonAll_54 5 rfl) rfl
theorem dX12_reckonAll_63 : decode cX12_reckonAll 63 = .ok (.ifCond .eq 13, 3) := dk_153 0 13 (bs_at BX12_reckonAll_54 6 rfl) rfl
theorem dX12_reckonAll_76 : decode cX12_reckonAll 76 = .ok (.aload_n 0, 1) := dk_42 (bs_at BX12_reckonAll_54 7 rfl)
theorem dX12_reckonAll_77 : decode cX12_reckonAll 77 = .ok (.getfield 13, 3) := dk_180 0 13 (bs_at BX12_reckonAll_54 8 rfl) rfl
theorem dX12_reckonAll_80 : decode cX12_reckonAll 80 = .ok (.aload_n 0, 1) := dk_42 (bs_at BX12_reckonAll_54 9 rfl)
theorem dX12_reckonAll_81 : decode cX12_reckonAll 81 = .ok (.getfield 389, 3) := dk_180 1 133 (bs_at BX12_reckonAll_54 10 rfl) rfl
theorem dX12_reckonAll_84 : decode cX12_reckonAll 84 = .ok (.bipush 98, 2) := dk_16 98 (bs_at BX12_reckonAll_54 11 rfl) rfl
theorem dX12_reckonAll_86 : decode cX12_reckonAll 86 = .ok (.iadd, 1) := dk_96 (bs_at BX12_reckonAll_54 12 rfl)
theorem dX12_reckonAll_87 : decode cX12_reckonAll 87 = .ok (.iconst 2, 1) := dk_5 (bs_at BX12_reckonAll_54 13 rfl)
theorem dX12_reckonAll_88 : decode cX12_reckonAll 88 = .ok (.iload 4, 2) := dk_21 4 (bs_at BX12_reckonAll_54 14 rfl)
theorem dX12_reckonAll_90 : decode cX12_reckonAll 90 = .ok (.imul, 1) := dk_104 (bs_at BX12_reckonAll_54 15 rfl)
theorem dX12_reckonAll_91 : decode cX12_reckonAll 91 = .ok (.iadd, 1) := dk_96 (bs_at BX12_reckonAll_54 16 rfl)
theorem dX12_reckonAll_92 : decode cX12_reckonAll 92 = .ok (.iconst 1, 1) := dk_4 (bs_at BX12_reckonAll_54 17 rfl)
theorem dX12_reckonAll_93 : decode cX12_reckonAll 93 = .ok (.iadd, 1) := dk_96 (bs_at BX12_reckonAll_54 18 rfl)
theorem dX12_reckonAll_94 : decode cX12_reckonAll 94 = .ok (.iaload, 1) := dk_46 (bs_at BX12_reckonAll_54 19 rfl)
theorem dX12_reckonAll_95 : decode cX12_reckonAll 95 = .ok (.istore 6, 2) := dk_54 6 (bs_at BX12_reckonAll_54 20 rfl)
theorem dX12_reckonAll_97 : decode cX12_reckonAll 97 = .ok (.iinc 4 1, 3) := dk_132 4 1 (bs_at BX12_reckonAll_54 21 rfl) rfl
theorem dX12_reckonAll_100 : decode cX12_reckonAll 100 = .ok (.iload 5, 2) := dk_21 5 (bs_at BX12_reckonAll_54 22 rfl)
theorem dX12_reckonAll_102 : decode cX12_reckonAll 102 = .ok (.bipush 20, 2) := dk_16 20 (bs_at BX12_reckonAll_54 23 rfl) rfl
theorem BX12_reckonAll_104 : bsegs (ByteArray.data cX12_reckonAll |>.toList.drop 104) 104 [(104, [162, 0, 124]), (107, [42]), (108, [180, 0, 105]), (111, [29]), (112, [21, 5]), (114, [154, 0, 9]), (117, [21, 6]), (119, [133]), (120, [167, 0, 101]), (123, [42]), (124, [180, 1, 58]), (127, [154, 0, 13]), (130, [42]), (131, [180, 0, 99]), (134, [21, 5]), (136, [47]), (137, [167, 0, 84]), (221, [80]), (222, [132, 3, 1]), (225, [167, 0, 142]), (228, [21, 5]), (230, [16, 28]), (232, [162, 0, 73]), (235, [132, 3, 255])] = true := by decide +kernel
theorem dX12_reckonAll_104 : decode cX12_reckonAll 104 = .ok (.if_icmp .ge 124, 3) := dk_162 0 124 (bs_at BX12_reckonAll_104 0 rfl) rfl
theorem dX12_reckonAll_107 : decode cX12_reckonAll 107 = .ok (.aload_n 0, 1) := dk_42 (bs_at BX12_reckonAll_104 1 rfl)
theorem dX12_reckonAll_108 : decode cX12_reckonAll 108 = .ok (.getfield 105, 3) := dk_180 0 105 (bs_at BX12_reckonAll_104 2 rfl) rfl
theorem dX12_reckonAll_111 : decode cX12_reckonAll 111 = .ok (.iload_n 3, 1) := dk_29 (bs_at BX12_reckonAll_104 3 rfl)
theorem dX12_reckonAll_112 : decode cX12_reckonAll 112 = .ok (.iload 5, 2) := dk_21 5 (bs_at BX12_reckonAll_104 4 rfl)
theorem dX12_reckonAll_114 : decode cX12_reckonAll 114 = .ok (.ifCond .ne 9, 3) := dk_154 0 9 (bs_at BX12_reckonAll_104 5 rfl) rfl
theorem dX12_reckonAll_117 : decode cX12_reckonAll 117 = .ok (.iload 6, 2) := dk_21 6 (bs_at BX12_reckonAll_104 6 rfl)
theorem dX12_reckonAll_119 : decode cX12_reckonAll 119 = .ok (.i2l, 1) := dk_133 (bs_at BX12_reckonAll_104 7 rfl)
theorem dX12_reckonAll_120 : decode cX12_reckonAll 120 = .ok (.goto 101, 3) := dk_167 0 101 (bs_at BX12_reckonAll_104 8 rfl) rfl
theorem dX12_reckonAll_123 : decode cX12_reckonAll 123 = .ok (.aload_n 0, 1) := dk_42 (bs_at BX12_reckonAll_104 9 rfl)
theorem dX12_reckonAll_124 : decode cX12_reckonAll 124 = .ok (.getfield 314, 3) := dk_180 1 58 (bs_at BX12_reckonAll_104 10 rfl) rfl
theorem dX12_reckonAll_127 : decode cX12_reckonAll 127 = .ok (.ifCond .ne 13, 3) := dk_154 0 13 (bs_at BX12_reckonAll_104 11 rfl) rfl
theorem dX12_reckonAll_130 : decode cX12_reckonAll 130 = .ok (.aload_n 0, 1) := dk_42 (bs_at BX12_reckonAll_104 12 rfl)
theorem dX12_reckonAll_131 : decode cX12_reckonAll 131 = .ok (.getfield 99, 3) := dk_180 0 99 (bs_at BX12_reckonAll_104 13 rfl) rfl
theorem dX12_reckonAll_134 : decode cX12_reckonAll 134 = .ok (.iload 5, 2) := dk_21 5 (bs_at BX12_reckonAll_104 14 rfl)
theorem dX12_reckonAll_136 : decode cX12_reckonAll 136 = .ok (.laload, 1) := dk_47 (bs_at BX12_reckonAll_104 15 rfl)
theorem dX12_reckonAll_137 : decode cX12_reckonAll 137 = .ok (.goto 84, 3) := dk_167 0 84 (bs_at BX12_reckonAll_104 16 rfl) rfl
theorem dX12_reckonAll_221 : decode cX12_reckonAll 221 = .ok (.lastore, 1) := dk_80 (bs_at BX12_reckonAll_104 17 rfl)
theorem dX12_reckonAll_222 : decode cX12_reckonAll 222 = .ok (.iinc 3 1, 3) := dk_132 3 1 (bs_at BX12_reckonAll_104 18 rfl) rfl
theorem dX12_reckonAll_225 : decode cX12_reckonAll 225 = .ok (.goto 142, 3) := dk_167 0 142 (bs_at BX12_reckonAll_104 19 rfl) rfl
theorem dX12_reckonAll_228 : decode cX12_reckonAll 228 = .ok (.iload 5, 2) := dk_21 5 (bs_at BX12_reckonAll_104 20 rfl)
theorem dX12_reckonAll_230 : decode cX12_reckonAll 230 = .ok (.bipush 28, 2) := dk_16 28 (bs_at BX12_reckonAll_104 21 rfl) rfl
theorem dX12_reckonAll_232 : decode cX12_reckonAll 232 = .ok (.if_icmp .ge 73, 3) := dk_162 0 73 (bs_at BX12_reckonAll_104 22 rfl) rfl
theorem dX12_reckonAll_235 : decode cX12_reckonAll 235 = .ok (.iinc 3 (-1), 3) := dk_132 3 255 (bs_at BX12_reckonAll_104 23 rfl) rfl
theorem BX12_reckonAll_238 : bsegs (ByteArray.data cX12_reckonAll |>.toList.drop 238) 238 [(238, [42]), (239, [180, 0, 105]), (242, [29]), (243, [4]), (244, [100]), (245, [42]), (246, [21, 5]), (248, [42]), (249, [180, 0, 105]), (252, [29]), (253, [4]), (254, [100]), (255, [47]), (256, [42]), (257, [180, 0, 105]), (260, [29]), (261, [47]), (262, [182, 1, 139]), (265, [80]), (266, [42]), (267, [42]), (268, [180, 1, 130]), (271, [154, 0, 23]), (274, [42])] = true := by decide +kernel
theorem dX12_reckonAll_238 : decode cX12_reckonAll 238 = .ok (.aload_n 0, 1) := dk_42 (bs_at BX12_reckonAll_238 0 rfl)
theorem dX12_reckonAll_239 : decode cX12_reckonAll 239 = .ok (.getfield 105, 3) := dk_180 0 105 (bs_at BX12_reckonAll_238 1 rfl) rfl
theorem dX12_reckonAll_242 : decode cX12_reckonAll 242 = .ok (.iload_n 3, 1) := dk_29 (bs_at BX12_reckonAll_238 2 rfl)
theorem dX12_reckonAll_243 : decode cX12_reckonAll 243 = .ok (.iconst 1, 1) := dk_4 (bs_at BX12_reckonAll_238 3 rfl)
theorem dX12_reckonAll_244 : decode cX12_reckonAll 244 = .ok (.isub, 1) := dk_100 (bs_at BX12_reckonAll_238 4 rfl)
theorem dX12_reckonAll_245 : decode cX12_reckonAll 245 = .ok (.aload_n 0, 1) := dk_42 (bs_at BX12_reckonAll_238 5 rfl)
theorem dX12_reckonAll_246 : decode cX12_reckonAll 246 = .ok (.iload 5, 2) := dk_21 5 (bs_at BX12_reckonAll_238 6 rfl)
theorem dX12_reckonAll_248 : decode cX12_reckonAll 248 = .ok (.aload_n 0, 1) := dk_42 (bs_at BX12_reckonAll_238 7 rfl)
theorem dX12_reckonAll_249 : decode cX12_reckonAll 249 = .ok (.getfield 105, 3) := dk_180 0 105 (bs_at BX12_reckonAll_238 8 rfl) rfl
theorem dX12_reckonAll_252 : decode cX12_reckonAll 252 = .ok (.iload_n 3, 1) := dk_29 (bs_at BX12_reckonAll_238 9 rfl)
theorem dX12_reckonAll_253 : decode cX12_reckonAll 253 = .ok (.iconst 1, 1) := dk_4 (bs_at BX12_reckonAll_238 10 rfl)
theorem dX12_reckonAll_254 : decode cX12_reckonAll 254 = .ok (.isub, 1) := dk_100 (bs_at BX12_reckonAll_238 11 rfl)
theorem dX12_reckonAll_255 : decode cX12_reckonAll 255 = .ok (.laload, 1) := dk_47 (bs_at BX12_reckonAll_238 12 rfl)
theorem dX12_reckonAll_256 : decode cX12_reckonAll 256 = .ok (.aload_n 0, 1) := dk_42 (bs_at BX12_reckonAll_238 13 rfl)
theorem dX12_reckonAll_257 : decode cX12_reckonAll 257 = .ok (.getfield 105, 3) := dk_180 0 105 (bs_at BX12_reckonAll_238 14 rfl) rfl
theorem dX12_reckonAll_260 : decode cX12_reckonAll 260 = .ok (.iload_n 3, 1) := dk_29 (bs_at BX12_reckonAll_238 15 rfl)
theorem dX12_reckonAll_261 : decode cX12_reckonAll 261 = .ok (.laload, 1) := dk_47 (bs_at BX12_reckonAll_238 16 rfl)
theorem dX12_reckonAll_262 : decode cX12_reckonAll 262 = .ok (.invokevirtual 395, 3) := dk_182 1 139 (bs_at BX12_reckonAll_238 17 rfl) rfl
theorem dX12_reckonAll_265 : decode cX12_reckonAll 265 = .ok (.lastore, 1) := dk_80 (bs_at BX12_reckonAll_238 18 rfl)
theorem dX12_reckonAll_266 : decode cX12_reckonAll 266 = .ok (.aload_n 0, 1) := dk_42 (bs_at BX12_reckonAll_238 19 rfl)
theorem dX12_reckonAll_267 : decode cX12_reckonAll 267 = .ok (.aload_n 0, 1) := dk_42 (bs_at BX12_reckonAll_238 20 rfl)
theorem dX12_reckonAll_268 : decode cX12_reckonAll 268 = .ok (.getfield 386, 3) := dk_180 1 130 (bs_at BX12_reckonAll_238 21 rfl) rfl
theorem dX12_reckonAll_271 : decode cX12_reckonAll 271 = .ok (.ifCond .ne 23, 3) := dk_154 0 23 (bs_at BX12_reckonAll_238 22 rfl) rfl
theorem dX12_reckonAll_274 : decode cX12_reckonAll 274 = .ok (.aload_n 0, 1) := dk_42 (bs_at BX12_reckonAll_238 23 rfl)
theorem BX12_reckonAll_275 : bsegs (ByteArray.data cX12_reckonAll |>.toList.drop 275) 275 [(275, [180, 0, 105]), (278, [29]), (279, [4]), (280, [100]), (281, [47]), (282, [20, 1, 143]), (285, [20, 1, 145]), (288, [184, 0, 178]), (291, [154, 0, 7]), (294, [4]), (295, [167, 0, 4]), (298, [3]), (299, [181, 1, 130]), (302, [167, 0, 65]), (305, [21, 5]), (307, [16, 28]), (309, [160, 0, 24]), (312, [42]), (313, [180, 0, 105]), (316, [29]), (317, [4]), (318, [100]), (319, [10]), (320, [42])] = true := by decide +kernel
theorem dX12_reckonAll_275 : decode cX12_reckonAll 275 = .ok (.getfield 105, 3) := dk_180 0 105 (bs_at BX12_reckonAll_275 0 rfl) rfl
theorem dX12_reckonAll_278 : decode cX12_reckonAll 278 = .ok (.iload_n 3, 1) := dk_29 (bs_at BX12_reckonAll_275 1 rfl)
theorem dX12_reckonAll_279 : decode cX12_reckonAll 279 = .ok (.iconst 1, 1) := dk_4 (bs_at BX12_reckonAll_275 2 rfl)
theorem dX12_reckonAll_280 : decode cX12_reckonAll 280 = .ok (.isub, 1) := dk_100 (bs_at BX12_reckonAll_275 3 rfl)
theorem dX12_reckonAll_281 : decode cX12_reckonAll 281 = .ok (.laload, 1) := dk_47 (bs_at BX12_reckonAll_275 4 rfl)
theorem dX12_reckonAll_282 : decode cX12_reckonAll 282 = .ok (.ldc2_w 399, 3) := dk_20 1 143 (bs_at BX12_reckonAll_275 5 rfl) rfl
theorem dX12_reckonAll_285 : decode cX12_reckonAll 285 = .ok (.ldc2_w 401, 3) := dk_20 1 145 (bs_at BX12_reckonAll_275 6 rfl) rfl
theorem dX12_reckonAll_288 : decode cX12_reckonAll 288 = .ok (.invokestatic 178, 3) := dk_184 0 178 (bs_at BX12_reckonAll_275 7 rfl) rfl
theorem dX12_reckonAll_291 : decode cX12_reckonAll 291 = .ok (.ifCond .ne 7, 3) := dk_154 0 7 (bs_at BX12_reckonAll_275 8 rfl) rfl
theorem dX12_reckonAll_294 : decode cX12_reckonAll 294 = .ok (.iconst 1, 1) := dk_4 (bs_at BX12_reckonAll_275 9 rfl)
theorem dX12_reckonAll_295 : decode cX12_reckonAll 295 = .ok (.goto 4, 3) := dk_167 0 4 (bs_at BX12_reckonAll_275 10 rfl) rfl
theorem dX12_reckonAll_298 : decode cX12_reckonAll 298 = .ok (.iconst 0, 1) := dk_3 (bs_at BX12_reckonAll_275 11 rfl)
theorem dX12_reckonAll_299 : decode cX12_reckonAll 299 = .ok (.putfield 386, 3) := dk_181 1 130 (bs_at BX12_reckonAll_275 12 rfl) rfl
theorem dX12_reckonAll_302 : decode cX12_reckonAll 302 = .ok (.goto 65, 3) := dk_167 0 65 (bs_at BX12_reckonAll_275 13 rfl) rfl
theorem dX12_reckonAll_305 : decode cX12_reckonAll 305 = .ok (.iload 5, 2) := dk_21 5 (bs_at BX12_reckonAll_275 14 rfl)
theorem dX12_reckonAll_307 : decode cX12_reckonAll 307 = .ok (.bipush 28, 2) := dk_16 28 (bs_at BX12_reckonAll_275 15 rfl) rfl
theorem dX12_reckonAll_309 : decode cX12_reckonAll 309 = .ok (.if_icmp .ne 24, 3) := dk_160 0 24 (bs_at BX12_reckonAll_275 16 rfl) rfl
theorem dX12_reckonAll_312 : decode cX12_reckonAll 312 = .ok (.aload_n 0, 1) := dk_42 (bs_at BX12_reckonAll_275 17 rfl)
theorem dX12_reckonAll_313 : decode cX12_reckonAll 313 = .ok (.getfield 105, 3) := dk_180 0 105 (bs_at BX12_reckonAll_275 18 rfl) rfl
theorem dX12_reckonAll_316 : decode cX12_reckonAll 316 = .ok (.iload_n 3, 1) := dk_29 (bs_at BX12_reckonAll_275 19 rfl)
theorem dX12_reckonAll_317 : decode cX12_reckonAll 317 = .ok (.iconst 1, 1) := dk_4 (bs_at BX12_reckonAll_275 20 rfl)
theorem dX12_reckonAll_318 : decode cX12_reckonAll 318 = .ok (.isub, 1) := dk_100 (bs_at BX12_reckonAll_275 21 rfl)
theorem dX12_reckonAll_319 : decode cX12_reckonAll 319 = .ok (.lconst 1, 1) := dk_10 (bs_at BX12_reckonAll_275 22 rfl)
theorem dX12_reckonAll_320 : decode cX12_reckonAll 320 = .ok (.aload_n 0, 1) := dk_42 (bs_at BX12_reckonAll_275 23 rfl)
theorem BX12_reckonAll_321 : bsegs (ByteArray.data cX12_reckonAll |>.toList.drop 321) 321 [(321, [180, 0, 105]), (324, [29]), (325, [4]), (326, [100]), (327, [47]), (328, [101]), (329, [80]), (330, [167, 0, 37]), (333, [42]), (334, [180, 0, 105]), (337, [29]), (338, [4]), (339, [100]), (340, [47]), (341, [21, 5]), (343, [16, 29]), (345, [160, 0, 7]), (348, [9]), (349, [167, 0, 4]), (352, [10]), (353, [148]), (354, [154, 0, 10]), (357, [21, 6]), (359, [54, 4])] = true := by decide +kernel
theorem dX12_reckonAll_321 : decode cX12_reckonAll 321 = .ok (.getfield 105, 3) := dk_180 0 105 (bs_at BX12_reckonAll_321 0 rfl) rfl
theorem dX12_reckonAll_324 : decode cX12_reckonAll 324 = .ok (.iload_n 3, 1) := dk_29 (bs_at BX12_reckonAll_321 1 rfl)
theorem dX12_reckonAll_325 : decode cX12_reckonAll 325 = .ok (.iconst 1, 1) := dk_4 (bs_at BX12_reckonAll_321 2 rfl)
theorem dX12_reckonAll_326 : decode cX12_reckonAll 326 = .ok (.isub, 1) := dk_100 (bs_at BX12_reckonAll_321 3 rfl)
theorem dX12_reckonAll_327 : decode cX12_reckonAll 327 = .ok (.laload, 1) := dk_47 (bs_at BX12_reckonAll_321 4 rfl)
theorem dX12_reckonAll_328 : decode cX12_reckonAll 328 = .ok (.lsub, 1) := dk_101 (bs_at BX12_reckonAll_321 5 rfl)
theorem dX12_reckonAll_329 : decode cX12_reckonAll 329 = .ok (.lastore, 1) := dk_80 (bs_at BX12_reckonAll_321 6 rfl)
theorem dX12_reckonAll_330 : decode cX12_reckonAll 330 = .ok (.goto 37, 3) := dk_167 0 37 (bs_at BX12_reckonAll_321 7 rfl) rfl
theorem dX12_reckonAll_333 : decode cX12_reckonAll 333 = .ok (.aload_n 0, 1) := dk_42 (bs_at BX12_reckonAll_321 8 rfl)
theorem dX12_reckonAll_334 : decode cX12_reckonAll 334 = .ok (.getfield 105, 3) := dk_180 0 105 (bs_at BX12_reckonAll_321 9 rfl) rfl
theorem dX12_reckonAll_337 : decode cX12_reckonAll 337 = .ok (.iload_n 3, 1) := dk_29 (bs_at BX12_reckonAll_321 10 rfl)
theorem dX12_reckonAll_338 : decode cX12_reckonAll 338 = .ok (.iconst 1, 1) := dk_4 (bs_at BX12_reckonAll_321 11 rfl)
theorem dX12_reckonAll_339 : decode cX12_reckonAll 339 = .ok (.isub, 1) := dk_100 (bs_at BX12_reckonAll_321 12 rfl)
theorem dX12_reckonAll_340 : decode cX12_reckonAll 340 = .ok (.laload, 1) := dk_47 (bs_at BX12_reckonAll_321 13 rfl)
theorem dX12_reckonAll_341 : decode cX12_reckonAll 341 = .ok (.iload 5, 2) := dk_21 5 (bs_at BX12_reckonAll_321 14 rfl)
theorem dX12_reckonAll_343 : decode cX12_reckonAll 343 = .ok (.bipush 29, 2) := dk_16 29 (bs_at BX12_reckonAll_321 15 rfl) rfl
theorem dX12_reckonAll_345 : decode cX12_reckonAll 345 = .ok (.if_icmp .ne 7, 3) := dk_160 0 7 (bs_at BX12_reckonAll_321 16 rfl) rfl
theorem dX12_reckonAll_348 : decode cX12_reckonAll 348 = .ok (.lconst 0, 1) := dk_9 (bs_at BX12_reckonAll_321 17 rfl)
theorem dX12_reckonAll_349 : decode cX12_reckonAll 349 = .ok (.goto 4, 3) := dk_167 0 4 (bs_at BX12_reckonAll_321 18 rfl) rfl
theorem dX12_reckonAll_352 : decode cX12_reckonAll 352 = .ok (.lconst 1, 1) := dk_10 (bs_at BX12_reckonAll_321 19 rfl)
theorem dX12_reckonAll_353 : decode cX12_reckonAll 353 = .ok (.lcmp, 1) := dk_148 (bs_at BX12_reckonAll_321 20 rfl)
theorem dX12_reckonAll_354 : decode cX12_reckonAll 354 = .ok (.ifCond .ne 10, 3) := dk_154 0 10 (bs_at BX12_reckonAll_321 21 rfl) rfl
theorem dX12_reckonAll_357 : decode cX12_reckonAll 357 = .ok (.iload 6, 2) := dk_21 6 (bs_at BX12_reckonAll_321 22 rfl)
theorem dX12_reckonAll_359 : decode cX12_reckonAll 359 = .ok (.istore 4, 2) := dk_54 4 (bs_at BX12_reckonAll_321 23 rfl)
theorem BX12_reckonAll_361 : bsegs (ByteArray.data cX12_reckonAll |>.toList.drop 361) 361 [(361, [167, 0, 6]), (364, [132, 3, 255]), (367, [167, 254, 155]), (370, [42]), (371, [29]), (372, [158, 0, 12]), (375, [42]), (376, [180, 0, 105]), (379, [3]), (380, [47]), (381, [167, 0, 4]), (384, [9]), (385, [181, 1, 147]), (388, [177])] = true := by decide +kernel
theorem dX12_reckonAll_361 : decode cX12_reckonAll 361 = .ok (.goto 6, 3) := dk_167 0 6 (bs_at BX12_reckonAll_361 0 rfl) rfl
theorem dX12_reckonAll_364 : decode cX12_reckonAll 364 = .ok (.iinc 3 (-1), 3) := dk_132 3 255 (bs_at BX12_reckonAll_361 1 rfl) rfl
theorem dX12_reckonAll_367 : decode cX12_reckonAll 367 = .ok (.goto (-357), 3) := dk_167 254 155 (bs_at BX12_reckonAll_361 2 rfl) rfl
theorem dX12_reckonAll_370 : decode cX12_reckonAll 370 = .ok (.aload_n 0, 1) := dk_42 (bs_at BX12_reckonAll_361 3 rfl)
theorem dX12_reckonAll_371 : decode cX12_reckonAll 371 = .ok (.iload_n 3, 1) := dk_29 (bs_at BX12_reckonAll_361 4 rfl)
theorem dX12_reckonAll_372 : decode cX12_reckonAll 372 = .ok (.ifCond .le 12, 3) := dk_158 0 12 (bs_at BX12_reckonAll_361 5 rfl) rfl
theorem dX12_reckonAll_375 : decode cX12_reckonAll 375 = .ok (.aload_n 0, 1) := dk_42 (bs_at BX12_reckonAll_361 6 rfl)
theorem dX12_reckonAll_376 : decode cX12_reckonAll 376 = .ok (.getfield 105, 3) := dk_180 0 105 (bs_at BX12_reckonAll_361 7 rfl) rfl
theorem dX12_reckonAll_379 : decode cX12_reckonAll 379 = .ok (.iconst 0, 1) := dk_3 (bs_at BX12_reckonAll_361 8 rfl)
theorem dX12_reckonAll_380 : decode cX12_reckonAll 380 = .ok (.laload, 1) := dk_47 (bs_at BX12_reckonAll_361 9 rfl)
theorem dX12_reckonAll_381 : decode cX12_reckonAll 381 = .ok (.goto 4, 3) := dk_167 0 4 (bs_at BX12_reckonAll_361 10 rfl) rfl
theorem dX12_reckonAll_384 : decode cX12_reckonAll 384 = .ok (.lconst 0, 1) := dk_9 (bs_at BX12_reckonAll_361 11 rfl)
theorem dX12_reckonAll_385 : decode cX12_reckonAll 385 = .ok (.putfield 403, 3) := dk_181 1 147 (bs_at BX12_reckonAll_361 12 rfl) rfl
theorem dX12_reckonAll_388 : decode cX12_reckonAll 388 = .ok (.return_, 1) := dk_177 (bs_at BX12_reckonAll_361 13 rfl)
theorem BX12_isSo_0 : bsegs (ByteArray.data cX12_isSo |>.toList.drop 0) 0 [(0, [42]), (1, [180, 0, 13]), (4, [27]), (5, [8]), (6, [96]), (7, [46]), (8, [42]), (9, [180, 0, 13]), (12, [27]), (13, [16, 6]), (15, [96]), (16, [46]), (17, [162, 0, 42]), (20, [42]), (21, [42]), (22, [180, 0, 13]), (25, [27]), (26, [8]), (27, [96]), (28, [46]), (29, [42]), (30, [180, 0, 13]), (33, [27]), (34, [16, 6])] = true := by decide +kernel
theorem dX12_isSo_0 : decode cX12_isSo 0 = .ok (.aload_n 0, 1) := dk_42 (bs_at BX12_isSo_0 0 rfl)
theorem dX12_isSo_1 : decode cX12_isSo 1 = .ok (.getfield 13, 3) := dk_180 0 13 (bs_at BX12_isSo_0 1 rfl) rfl
theorem dX12_isSo_4 : decode cX12_isSo 4 = .ok (.iload_n 1, 1) := dk_27 (bs_at BX12_isSo_0 2 rfl)
theorem dX12_isSo_5 : decode cX12_isSo 5 = .ok (.iconst 5, 1) := dk_8 (bs_at BX12_isSo_0 3 rfl)
theorem dX12_isSo_6 : decode cX12_isSo 6 = .ok (.iadd, 1) := dk_96 (bs_at BX12_isSo_0 4 rfl)
theorem dX12_isSo_7 : decode cX12_isSo 7 = .ok (.iaload, 1) := dk_46 (bs_at BX12_isSo_0 5 rfl)
theorem dX12_isSo_8 : decode cX12_isSo 8 = .ok (.aload_n 0, 1) := dk_42 (bs_at BX12_isSo_0 6 rfl)
theorem dX12_isSo_9 : decode cX12_isSo 9 = .ok (.getfield 13, 3) := dk_180 0 13 (bs_at BX12_isSo_0 7 rfl) rfl
theorem dX12_isSo_12 : decode cX12_isSo 12 = .ok (.iload_n 1, 1) := dk_27 (bs_at BX12_isSo_0 8 rfl)
theorem dX12_isSo_13 : decode cX12_isSo 13 = .ok (.bipush 6, 2) := dk_16 6 (bs_at BX12_isSo_0 9 rfl) rfl
theorem dX12_isSo_15 : decode cX12_isSo 15 = .ok (.iadd, 1) := dk_96 (bs_at BX12_isSo_0 10 rfl)
theorem dX12_isSo_16 : decode cX12_isSo 16 = .ok (.iaload, 1) := dk_46 (bs_at BX12_isSo_0 11 rfl)
theorem dX12_isSo_17 : decode cX12_isSo 17 = .ok (.if_icmp .ge 42, 3) := dk_162 0 42 (bs_at BX12_isSo_0 12 rfl) rfl
theorem dX12_isSo_20 : decode cX12_isSo 20 = .ok (.aload_n 0, 1) := dk_42 (bs_at BX12_isSo_0 13 rfl)
theorem dX12_isSo_21 : decode cX12_isSo 21 = .ok (.aload_n 0, 1) := dk_42 (bs_at BX12_isSo_0 14 rfl)
theorem dX12_isSo_22 : decode cX12_isSo 22 = .ok (.getfield 13, 3) := dk_180 0 13 (bs_at BX12_isSo_0 15 rfl) rfl
theorem dX12_isSo_25 : decode cX12_isSo 25 = .ok (.iload_n 1, 1) := dk_27 (bs_at BX12_isSo_0 16 rfl)
theorem dX12_isSo_26 : decode cX12_isSo 26 = .ok (.iconst 5, 1) := dk_8 (bs_at BX12_isSo_0 17 rfl)
theorem dX12_isSo_27 : decode cX12_isSo 27 = .ok (.iadd, 1) := dk_96 (bs_at BX12_isSo_0 18 rfl)
theorem dX12_isSo_28 : decode cX12_isSo 28 = .ok (.iaload, 1) := dk_46 (bs_at BX12_isSo_0 19 rfl)
theorem dX12_isSo_29 : decode cX12_isSo 29 = .ok (.aload_n 0, 1) := dk_42 (bs_at BX12_isSo_0 20 rfl)
theorem dX12_isSo_30 : decode cX12_isSo 30 = .ok (.getfield 13, 3) := dk_180 0 13 (bs_at BX12_isSo_0 21 rfl) rfl
theorem dX12_isSo_33 : decode cX12_isSo 33 = .ok (.iload_n 1, 1) := dk_27 (bs_at BX12_isSo_0 22 rfl)
theorem dX12_isSo_34 : decode cX12_isSo 34 = .ok (.bipush 6, 2) := dk_16 6 (bs_at BX12_isSo_0 23 rfl) rfl
theorem BX12_isSo_36 : bsegs (ByteArray.data cX12_isSo |>.toList.drop 36) 36 [(36, [96]), (37, [46]), (38, [182, 1, 150]), (41, [42]), (42, [180, 1, 130]), (45, [154, 0, 12]), (48, [42]), (49, [180, 1, 147]), (52, [9]), (53, [148]), (54, [154, 0, 5]), (57, [3]), (58, [172]), (59, [42]), (60, [180, 0, 13]), (63, [27]), (64, [46]), (65, [6]), (66, [159, 0, 44]), (69, [42]), (70, [42]), (71, [180, 0, 13]), (74, [27]), (75, [6])] = true := by decide +kernel
theorem dX12_isSo_36 : decode cX12_isSo 36 = .ok (.iadd, 1) := dk_96 (bs_at BX12_isSo_36 0 rfl)
theorem dX12_isSo_37 : decode cX12_isSo 37 = .ok (.iaload, 1) := dk_46 (bs_at BX12_isSo_36 1 rfl)
theorem dX12_isSo_38 : decode cX12_isSo 38 = .ok (.invokevirtual 406, 3) := dk_182 1 150 (bs_at BX12_isSo_36 2 rfl) rfl
theorem dX12_isSo_41 : decode cX12_isSo 41 = .ok (.aload_n 0, 1) := dk_42 (bs_at BX12_isSo_36 3 rfl)
theorem dX12_isSo_42 : decode cX12_isSo 42 = .ok (.getfield 386, 3) := dk_180 1 130 (bs_at BX12_isSo_36 4 rfl) rfl
theorem dX12_isSo_45 : decode cX12_isSo 45 = .ok (.ifCond .ne 12, 3) := dk_154 0 12 (bs_at BX12_isSo_36 5 rfl) rfl
theorem dX12_isSo_48 : decode cX12_isSo 48 = .ok (.aload_n 0, 1) := dk_42 (bs_at BX12_isSo_36 6 rfl)
theorem dX12_isSo_49 : decode cX12_isSo 49 = .ok (.getfield 403, 3) := dk_180 1 147 (bs_at BX12_isSo_36 7 rfl) rfl
theorem dX12_isSo_52 : decode cX12_isSo 52 = .ok (.lconst 0, 1) := dk_9 (bs_at BX12_isSo_36 8 rfl)
theorem dX12_isSo_53 : decode cX12_isSo 53 = .ok (.lcmp, 1) := dk_148 (bs_at BX12_isSo_36 9 rfl)
theorem dX12_isSo_54 : decode cX12_isSo 54 = .ok (.ifCond .ne 5, 3) := dk_154 0 5 (bs_at BX12_isSo_36 10 rfl) rfl
theorem dX12_isSo_57 : decode cX12_isSo 57 = .ok (.iconst 0, 1) := dk_3 (bs_at BX12_isSo_36 11 rfl)
theorem dX12_isSo_58 : decode cX12_isSo 58 = .ok (.ireturn, 1) := dk_172 (bs_at BX12_isSo_36 12 rfl)
theorem dX12_isSo_59 : decode cX12_isSo 59 = .ok (.aload_n 0, 1) := dk_42 (bs_at BX12_isSo_36 13 rfl)
theorem dX12_isSo_60 : decode cX12_isSo 60 = .ok (.getfield 13, 3) := dk_180 0 13 (bs_at BX12_isSo_36 14 rfl) rfl
theorem dX12_isSo_63 : decode cX12_isSo 63 = .ok (.iload_n 1, 1) := dk_27 (bs_at BX12_isSo_36 15 rfl)
theorem dX12_isSo_64 : decode cX12_isSo 64 = .ok (.iaload, 1) := dk_46 (bs_at BX12_isSo_36 16 rfl)
theorem dX12_isSo_65 : decode cX12_isSo 65 = .ok (.iconst 3, 1) := dk_6 (bs_at BX12_isSo_36 17 rfl)
theorem dX12_isSo_66 : decode cX12_isSo 66 = .ok (.if_icmp .eq 44, 3) := dk_159 0 44 (bs_at BX12_isSo_36 18 rfl) rfl
theorem dX12_isSo_69 : decode cX12_isSo 69 = .ok (.aload_n 0, 1) := dk_42 (bs_at BX12_isSo_36 19 rfl)
theorem dX12_isSo_70 : decode cX12_isSo 70 = .ok (.aload_n 0, 1) := dk_42 (bs_at BX12_isSo_36 20 rfl)
theorem dX12_isSo_71 : decode cX12_isSo 71 = .ok (.getfield 13, 3) := dk_180 0 13 (bs_at BX12_isSo_36 21 rfl) rfl
theorem dX12_isSo_74 : decode cX12_isSo 74 = .ok (.iload_n 1, 1) := dk_27 (bs_at BX12_isSo_36 22 rfl)
theorem dX12_isSo_75 : decode cX12_isSo 75 = .ok (.iconst 3, 1) := dk_6 (bs_at BX12_isSo_36 23 rfl)
theorem BX12_isSo_76 : bsegs (ByteArray.data cX12_isSo |>.toList.drop 76) 76 [(76, [96]), (77, [46]), (78, [42]), (79, [180, 0, 13]), (82, [27]), (83, [7]), (84, [96]), (85, [46]), (86, [182, 1, 150]), (89, [42]), (90, [42]), (91, [180, 1, 147]), (94, [181, 1, 153]), (97, [42]), (98, [180, 1, 130]), (101, [154, 0, 7]), (104, [4]), (105, [167, 0, 4]), (108, [3]), (109, [172]), (110, [4]), (111, [172])] = true := by decide +kernel
theorem dX12_isSo_76 : decode cX12_isSo 76 = .ok (.iadd, 1) := dk_96 (bs_at BX12_isSo_76 0 rfl)
theorem dX12_isSo_77 : decode cX12_isSo 77 = .ok (.iaload, 1) := dk_46 (bs_at BX12_isSo_76 1 rfl)
theorem dX12_isSo_78 : decode cX12_isSo 78 = .ok (.aload_n 0, 1) := dk_42 (bs_at BX12_isSo_76 2 rfl)
theorem dX12_isSo_79 : decode cX12_isSo 79 = .ok (.getfield 13, 3) := dk_180 0 13 (bs_at BX12_isSo_76 3 rfl) rfl
theorem dX12_isSo_82 : decode cX12_isSo 82 = .ok (.iload_n 1, 1) := dk_27 (bs_at BX12_isSo_76 4 rfl)
theorem dX12_isSo_83 : decode cX12_isSo 83 = .ok (.iconst 4, 1) := dk_7 (bs_at BX12_isSo_76 5 rfl)
theorem dX12_isSo_84 : decode cX12_isSo 84 = .ok (.iadd, 1) := dk_96 (bs_at BX12_isSo_76 6 rfl)
theorem dX12_isSo_85 : decode cX12_isSo 85 = .ok (.iaload, 1) := dk_46 (bs_at BX12_isSo_76 7 rfl)
theorem dX12_isSo_86 : decode cX12_isSo 86 = .ok (.invokevirtual 406, 3) := dk_182 1 150 (bs_at BX12_isSo_76 8 rfl) rfl
theorem dX12_isSo_89 : decode cX12_isSo 89 = .ok (.aload_n 0, 1) := dk_42 (bs_at BX12_isSo_76 9 rfl)
theorem dX12_isSo_90 : decode cX12_isSo 90 = .ok (.aload_n 0, 1) := dk_42 (bs_at BX12_isSo_76 10 rfl)
theorem dX12_isSo_91 : decode cX12_isSo 91 = .ok (.getfield 403, 3) := dk_180 1 147 (bs_at BX12_isSo_76 11 rfl) rfl
theorem dX12_isSo_94 : decode cX12_isSo 94 = .ok (.putfield 409, 3) := dk_181 1 153 (bs_at BX12_isSo_76 12 rfl) rfl
theorem dX12_isSo_97 : decode cX12_isSo 97 = .ok (.aload_n 0, 1) := dk_42 (bs_at BX12_isSo_76 13 rfl)
theorem dX12_isSo_98 : decode cX12_isSo 98 = .ok (.getfield 386, 3) := dk_180 1 130 (bs_at BX12_isSo_76 14 rfl) rfl
theorem dX12_isSo_101 : decode cX12_isSo 101 = .ok (.ifCond .ne 7, 3) := dk_154 0 7 (bs_at BX12_isSo_76 15 rfl) rfl
theorem dX12_isSo_104 : decode cX12_isSo 104 = .ok (.iconst 1, 1) := dk_4 (bs_at BX12_isSo_76 16 rfl)
theorem dX12_isSo_105 : decode cX12_isSo 105 = .ok (.goto 4, 3) := dk_167 0 4 (bs_at BX12_isSo_76 17 rfl) rfl
theorem dX12_isSo_108 : decode cX12_isSo 108 = .ok (.iconst 0, 1) := dk_3 (bs_at BX12_isSo_76 18 rfl)
theorem dX12_isSo_109 : decode cX12_isSo 109 = .ok (.ireturn, 1) := dk_172 (bs_at BX12_isSo_76 19 rfl)
theorem dX12_isSo_110 : decode cX12_isSo 110 = .ok (.iconst 1, 1) := dk_4 (bs_at BX12_isSo_76 20 rfl)
theorem dX12_isSo_111 : decode cX12_isSo 111 = .ok (.ireturn, 1) := dk_172 (bs_at BX12_isSo_76 21 rfl)
theorem BX12_tells_0 : bsegs (ByteArray.data cX12_tells |>.toList.drop 0) 0 [(0, [27]), (1, [2]), (2, [160, 0, 6]), (5, [22, 5]), (7, [173]), (8, [42]), (9, [16, 100]), (11, [17, 3, 132]), (14, [27]), (15, [104]), (16, [96]), (17, [181, 1, 133]), (20, [42]), (21, [180, 0, 99]), (24, [4]), (25, [29]), (26, [133]), (27, [80]), (28, [42]), (29, [180, 0, 99]), (32, [5]), (33, [42]), (34, [180, 0, 13]), (37, [16, 35])] = true := by decide +kernel
theorem dX12_tells_0 : decode cX12_tells 0 = .ok (.iload_n 1, 1) := dk_27 (bs_at BX12_tells_0 0 rfl)
theorem dX12_tells_1 : decode cX12_tells 1 = .ok (.iconst (-1), 1) := dk_2 (bs_at BX12_tells_0 1 rfl)
theorem dX12_tells_2 : decode cX12_tells 2 = .ok (.if_icmp .ne 6, 3) := dk_160 0 6 (bs_at BX12_tells_0 2 rfl) rfl
theorem dX12_tells_5 : decode cX12_tells 5 = .ok (.lload 5, 2) := dk_22 5 (bs_at BX12_tells_0 3 rfl)
theorem dX12_tells_7 : decode cX12_tells 7 = .ok (.lreturn, 1) := dk_173 (bs_at BX12_tells_0 4 rfl)
theorem dX12_tells_8 : decode cX12_tells 8 = .ok (.aload_n 0, 1) := dk_42 (bs_at BX12_tells_0 5 rfl)
theorem dX12_tells_9 : decode cX12_tells 9 = .ok (.bipush 100, 2) := dk_16 100 (bs_at BX12_tells_0 6 rfl) rfl
theorem dX12_tells_11 : decode cX12_tells 11 = .ok (.sipush 900, 3) := dk_17 3 132 (bs_at BX12_tells_0 7 rfl) rfl
theorem dX12_tells_14 : decode cX12_tells 14 = .ok (.iload_n 1, 1) := dk_27 (bs_at BX12_tells_0 8 rfl)
theorem dX12_tells_15 : decode cX12_tells 15 = .ok (.imul, 1) := dk_104 (bs_at BX12_tells_0 9 rfl)
theorem dX12_tells_16 : decode cX12_tells 16 = .ok (.iadd, 1) := dk_96 (bs_at BX12_tells_0 10 rfl)
theorem dX12_tells_17 : decode cX12_tells 17 = .ok (.putfield 389, 3) := dk_181 1 133 (bs_at BX12_tells_0 11 rfl) rfl
theorem dX12_tells_20 : decode cX12_tells 20 = .ok (.aload_n 0, 1) := dk_42 (bs_at BX12_tells_0 12 rfl)
theorem dX12_tells_21 : decode cX12_tells 21 = .ok (.getfield 99, 3) := dk_180 0 99 (bs_at BX12_tells_0 13 rfl) rfl
theorem dX12_tells_24 : decode cX12_tells 24 = .ok (.iconst 1, 1) := dk_4 (bs_at BX12_tells_0 14 rfl)
theorem dX12_tells_25 : decode cX12_tells 25 = .ok (.iload_n 3, 1) := dk_29 (bs_at BX12_tells_0 15 rfl)
theorem dX12_tells_26 : decode cX12_tells 26 = .ok (.i2l, 1) := dk_133 (bs_at BX12_tells_0 16 rfl)
theorem dX12_tells_27 : decode cX12_tells 27 = .ok (.lastore, 1) := dk_80 (bs_at BX12_tells_0 17 rfl)
theorem dX12_tells_28 : decode cX12_tells 28 = .ok (.aload_n 0, 1) := dk_42 (bs_at BX12_tells_0 18 rfl)
theorem dX12_tells_29 : decode cX12_tells 29 = .ok (.getfield 99, 3) := dk_180 0 99 (bs_at BX12_tells_0 19 rfl) rfl
theorem dX12_tells_32 : decode cX12_tells 32 = .ok (.iconst 2, 1) := dk_5 (bs_at BX12_tells_0 20 rfl)
theorem dX12_tells_33 : decode cX12_tells 33 = .ok (.aload_n 0, 1) := dk_42 (bs_at BX12_tells_0 21 rfl)
theorem dX12_tells_34 : decode cX12_tells 34 = .ok (.getfield 13, 3) := dk_180 0 13 (bs_at BX12_tells_0 22 rfl) rfl
theorem dX12_tells_37 : decode cX12_tells 37 = .ok (.bipush 35, 2) := dk_16 35 (bs_at BX12_tells_0 23 rfl) rfl
theorem BX12_tells_39 : bsegs (ByteArray.data cX12_tells |>.toList.drop 39) 39 [(39, [29]), (40, [96]), (41, [46]), (42, [133]), (43, [80]), (44, [42]), (45, [180, 0, 99]), (48, [6]), (49, [42]), (50, [180, 0, 13]), (53, [16, 43]), (55, [29]), (56, [96]), (57, [46]), (58, [133]), (59, [80]), (60, [42]), (61, [180, 0, 99]), (64, [7]), (65, [42]), (66, [180, 0, 13]), (69, [16, 11]), (71, [29]), (72, [96])] = true := by decide +kernel
theorem dX12_tells_39 : decode cX12_tells 39 = .ok (.iload_n 3, 1) := dk_29 (bs_at BX12_tells_39 0 rfl)
theorem dX12_tells_40 : decode cX12_tells 40 = .ok (.iadd, 1) := dk_96 (bs_at BX12_tells_39 1 rfl)
theorem dX12_tells_41 : decode cX12_tells 41 = .ok (.iaload, 1) := dk_46 (bs_at BX12_tells_39 2 rfl)
theorem dX12_tells_42 : decode cX12_tells 42 = .ok (.i2l, 1) := dk_133 (bs_at BX12_tells_39 3 rfl)
theorem dX12_tells_43 : decode cX12_tells 43 = .ok (.lastore, 1) := dk_80 (bs_at BX12_tells_39 4 rfl)
theorem dX12_tells_44 : decode cX12_tells 44 = .ok (.aload_n 0, 1) := dk_42 (bs_at BX12_tells_39 5 rfl)
theorem dX12_tells_45 : decode cX12_tells 45 = .ok (.getfield 99, 3) := dk_180 0 99 (bs_at BX12_tells_39 6 rfl) rfl
theorem dX12_tells_48 : decode cX12_tells 48 = .ok (.iconst 3, 1) := dk_6 (bs_at BX12_tells_39 7 rfl)
theorem dX12_tells_49 : decode cX12_tells 49 = .ok (.aload_n 0, 1) := dk_42 (bs_at BX12_tells_39 8 rfl)
theorem dX12_tells_50 : decode cX12_tells 50 = .ok (.getfield 13, 3) := dk_180 0 13 (bs_at BX12_tells_39 9 rfl) rfl
theorem dX12_tells_53 : decode cX12_tells 53 = .ok (.bipush 43, 2) := dk_16 43 (bs_at BX12_tells_39 10 rfl) rfl
theorem dX12_tells_55 : decode cX12_tells 55 = .ok (.iload_n 3, 1) := dk_29 (bs_at BX12_tells_39 11 rfl)
theorem dX12_tells_56 : decode cX12_tells 56 = .ok (.iadd, 1) := dk_96 (bs_at BX12_tells_39 12 rfl)
theorem dX12_tells_57 : decode cX12_tells 57 = .ok (.iaload, 1) := dk_46 (bs_at BX12_tells_39 13 rfl)
theorem dX12_tells_58 : decode cX12_tells 58 = .ok (.i2l, 1) := dk_133 (bs_at BX12_tells_39 14 rfl)
theorem dX12_tells_59 : decode cX12_tells 59 = .ok (.lastore, 1) := dk_80 (bs_at BX12_tells_39 15 rfl)
theorem dX12_tells_60 : decode cX12_tells 60 = .ok (.aload_n 0, 1) := dk_42 (bs_at BX12_tells_39 16 rfl)
theorem dX12_tells_61 : decode cX12_tells 61 = .ok (.getfield 99, 3) := dk_180 0 99 (bs_at BX12_tells_39 17 rfl) rfl
theorem dX12_tells_64 : decode cX12_tells 64 = .ok (.iconst 4, 1) := dk_7 (bs_at BX12_tells_39 18 rfl)
theorem dX12_tells_65 : decode cX12_tells 65 = .ok (.aload_n 0, 1) := dk_42 (bs_at BX12_tells_39 19 rfl)
theorem dX12_tells_66 : decode cX12_tells 66 = .ok (.getfield 13, 3) := dk_180 0 13 (bs_at BX12_tells_39 20 rfl) rfl
theorem dX12_tells_69 : decode cX12_tells 69 = .ok (.bipush 11, 2) := dk_16 11 (bs_at BX12_tells_39 21 rfl) rfl
theorem dX12_tells_71 : decode cX12_tells 71 = .ok (.iload_n 3, 1) := dk_29 (bs_at BX12_tells_39 22 rfl)
theorem dX12_tells_72 : decode cX12_tells 72 = .ok (.iadd, 1) := dk_96 (bs_at BX12_tells_39 23 rfl)
theorem BX12_tells_73 : bsegs (ByteArray.data cX12_tells |>.toList.drop 73) 73 [(73, [46]), (74, [133]), (75, [80]), (76, [42]), (77, [180, 0, 99]), (80, [8]), (81, [42]), (82, [180, 0, 13]), (85, [16, 19]), (87, [29]), (88, [96]), (89, [46]), (90, [133]), (91, [80]), (92, [42]), (93, [180, 0, 99]), (96, [16, 6]), (98, [42]), (99, [3]), (100, [182, 0, 182]), (103, [133]), (104, [80]), (105, [42]), (106, [180, 0, 99])] = true := by decide +kernel
theorem dX12_tells_73 : decode cX12_tells 73 = .ok (.iaload, 1) := dk_46 (bs_at BX12_tells_73 0 rfl)
theorem dX12_tells_74 : decode cX12_tells 74 = .ok (.i2l, 1) := dk_133 (bs_at BX12_tells_73 1 rfl)
theorem dX12_tells_75 : decode cX12_tells 75 = .ok (.lastore, 1) := dk_80 (bs_at BX12_tells_73 2 rfl)
theorem dX12_tells_76 : decode cX12_tells 76 = .ok (.aload_n 0, 1) := dk_42 (bs_at BX12_tells_73 3 rfl)
theorem dX12_tells_77 : decode cX12_tells 77 = .ok (.getfield 99, 3) := dk_180 0 99 (bs_at BX12_tells_73 4 rfl) rfl
theorem dX12_tells_80 : decode cX12_tells 80 = .ok (.iconst 5, 1) := dk_8 (bs_at BX12_tells_73 5 rfl)
theorem dX12_tells_81 : decode cX12_tells 81 = .ok (.aload_n 0, 1) := dk_42 (bs_at BX12_tells_73 6 rfl)
theorem dX12_tells_82 : decode cX12_tells 82 = .ok (.getfield 13, 3) := dk_180 0 13 (bs_at BX12_tells_73 7 rfl) rfl
theorem dX12_tells_85 : decode cX12_tells 85 = .ok (.bipush 19, 2) := dk_16 19 (bs_at BX12_tells_73 8 rfl) rfl
theorem dX12_tells_87 : decode cX12_tells 87 = .ok (.iload_n 3, 1) := dk_29 (bs_at BX12_tells_73 9 rfl)
theorem dX12_tells_88 : decode cX12_tells 88 = .ok (.iadd, 1) := dk_96 (bs_at BX12_tells_73 10 rfl)
theorem dX12_tells_89 : decode cX12_tells 89 = .ok (.iaload, 1) := dk_46 (bs_at BX12_tells_73 11 rfl)
theorem dX12_tells_90 : decode cX12_tells 90 = .ok (.i2l, 1) := dk_133 (bs_at BX12_tells_73 12 rfl)
theorem dX12_tells_91 : decode cX12_tells 91 = .ok (.lastore, 1) := dk_80 (bs_at BX12_tells_73 13 rfl)
theorem dX12_tells_92 : decode cX12_tells 92 = .ok (.aload_n 0, 1) := dk_42 (bs_at BX12_tells_73 14 rfl)
theorem dX12_tells_93 : decode cX12_tells 93 = .ok (.getfield 99, 3) := dk_180 0 99 (bs_at BX12_tells_73 15 rfl) rfl
theorem dX12_tells_96 : decode cX12_tells 96 = .ok (.bipush 6, 2) := dk_16 6 (bs_at BX12_tells_73 16 rfl) rfl
theorem dX12_tells_98 : decode cX12_tells 98 = .ok (.aload_n 0, 1) := dk_42 (bs_at BX12_tells_73 17 rfl)
theorem dX12_tells_99 : decode cX12_tells 99 = .ok (.iconst 0, 1) := dk_3 (bs_at BX12_tells_73 18 rfl)
theorem dX12_tells_100 : decode cX12_tells 100 = .ok (.invokevirtual 182, 3) := dk_182 0 182 (bs_at BX12_tells_73 19 rfl) rfl
theorem dX12_tells_103 : decode cX12_tells 103 = .ok (.i2l, 1) := dk_133 (bs_at BX12_tells_73 20 rfl)
theorem dX12_tells_104 : decode cX12_tells 104 = .ok (.lastore, 1) := dk_80 (bs_at BX12_tells_73 21 rfl)
theorem dX12_tells_105 : decode cX12_tells 105 = .ok (.aload_n 0, 1) := dk_42 (bs_at BX12_tells_73 22 rfl)
theorem dX12_tells_106 : decode cX12_tells 106 = .ok (.getfield 99, 3) := dk_180 0 99 (bs_at BX12_tells_73 23 rfl) rfl
theorem BX12_tells_109 : bsegs (ByteArray.data cX12_tells |>.toList.drop 109) 109 [(109, [16, 7]), (111, [42]), (112, [4]), (113, [182, 0, 182]), (116, [133]), (117, [80]), (118, [42]), (119, [180, 0, 99]), (122, [16, 8]), (124, [42]), (125, [8]), (126, [182, 0, 182]), (129, [133]), (130, [80]), (131, [42]), (132, [180, 0, 99]), (135, [16, 9]), (137, [21, 4]), (139, [133]), (140, [80]), (141, [22, 5]), (143, [55, 7]), (145, [3]), (146, [54, 9])] = true := by decide +kernel
theorem dX12_tells_109 : decode cX12_tells 109 = .ok (.bipush 7, 2) := dk_16 7 (bs_at BX12_tells_109 0 rfl) rfl
theorem dX12_tells_111 : decode cX12_tells 111 = .ok (.aload_n 0, 1) := dk_42 (bs_at BX12_tells_109 1 rfl)
theorem dX12_tells_112 : decode cX12_tells 112 = .ok (.iconst 1, 1) := dk_4 (bs_at BX12_tells_109 2 rfl)
theorem dX12_tells_113 : decode cX12_tells 113 = .ok (.invokevirtual 182, 3) := dk_182 0 182 (bs_at BX12_tells_109 3 rfl) rfl
theorem dX12_tells_116 : decode cX12_tells 116 = .ok (.i2l, 1) := dk_133 (bs_at BX12_tells_109 4 rfl)
theorem dX12_tells_117 : decode cX12_tells 117 = .ok (.lastore, 1) := dk_80 (bs_at BX12_tells_109 5 rfl)
theorem dX12_tells_118 : decode cX12_tells 118 = .ok (.aload_n 0, 1) := dk_42 (bs_at BX12_tells_109 6 rfl)
theorem dX12_tells_119 : decode cX12_tells 119 = .ok (.getfield 99, 3) := dk_180 0 99 (bs_at BX12_tells_109 7 rfl) rfl
theorem dX12_tells_122 : decode cX12_tells 122 = .ok (.bipush 8, 2) := dk_16 8 (bs_at BX12_tells_109 8 rfl) rfl
theorem dX12_tells_124 : decode cX12_tells 124 = .ok (.aload_n 0, 1) := dk_42 (bs_at BX12_tells_109 9 rfl)
theorem dX12_tells_125 : decode cX12_tells 125 = .ok (.iconst 5, 1) := dk_8 (bs_at BX12_tells_109 10 rfl)
theorem dX12_tells_126 : decode cX12_tells 126 = .ok (.invokevirtual 182, 3) := dk_182 0 182 (bs_at BX12_tells_109 11 rfl) rfl
theorem dX12_tells_129 : decode cX12_tells 129 = .ok (.i2l, 1) := dk_133 (bs_at BX12_tells_109 12 rfl)
theorem dX12_tells_130 : decode cX12_tells 130 = .ok (.lastore, 1) := dk_80 (bs_at BX12_tells_109 13 rfl)
theorem dX12_tells_131 : decode cX12_tells 131 = .ok (.aload_n 0, 1) := dk_42 (bs_at BX12_tells_109 14 rfl)
theorem dX12_tells_132 : decode cX12_tells 132 = .ok (.getfield 99, 3) := dk_180 0 99 (bs_at BX12_tells_109 15 rfl) rfl
theorem dX12_tells_135 : decode cX12_tells 135 = .ok (.bipush 9, 2) := dk_16 9 (bs_at BX12_tells_109 16 rfl) rfl
theorem dX12_tells_137 : decode cX12_tells 137 = .ok (.iload 4, 2) := dk_21 4 (bs_at BX12_tells_109 17 rfl)
theorem dX12_tells_139 : decode cX12_tells 139 = .ok (.i2l, 1) := dk_133 (bs_at BX12_tells_109 18 rfl)
theorem dX12_tells_140 : decode cX12_tells 140 = .ok (.lastore, 1) := dk_80 (bs_at BX12_tells_109 19 rfl)
theorem dX12_tells_141 : decode cX12_tells 141 = .ok (.lload 5, 2) := dk_22 5 (bs_at BX12_tells_109 20 rfl)
theorem dX12_tells_143 : decode cX12_tells 143 = .ok (.lstore 7, 2) := dk_55 7 (bs_at BX12_tells_109 21 rfl)
theorem dX12_tells_145 : decode cX12_tells 145 = .ok (.iconst 0, 1) := dk_3 (bs_at BX12_tells_109 22 rfl)
theorem dX12_tells_146 : decode cX12_tells 146 = .ok (.istore 9, 2) := dk_54 9 (bs_at BX12_tells_109 23 rfl)
theorem BX12_tells_148 : bsegs (ByteArray.data cX12_tells |>.toList.drop 148) 148 [(148, [21, 9]), (150, [42]), (151, [180, 0, 13]), (154, [42]), (155, [180, 1, 133]), (158, [4]), (159, [96]), (160, [46]), (161, [162, 0, 58]), (164, [42]), (165, [180, 1, 133]), (168, [5]), (169, [96]), (170, [16, 8]), (172, [21, 9]), (174, [104]), (175, [96]), (176, [54, 10]), (178, [42]), (179, [180, 0, 13]), (182, [21, 10]), (184, [46]), (185, [28]), (186, [160, 0, 27])] = true := by decide +kernel
theorem dX12_tells_148 : decode cX12_tells 148 = .ok (.iload 9, 2) := dk_21 9 (bs_at BX12_tells_148 0 rfl)
theorem dX12_tells_150 : decode cX12_tells 150 = .ok (.aload_n 0, 1) := dk_42 (bs_at BX12_tells_148 1 rfl)
theorem dX12_tells_151 : decode cX12_tells 151 = .ok (.getfield 13, 3) := dk_180 0 13 (bs_at BX12_tells_148 2 rfl) rfl
theorem dX12_tells_154 : decode cX12_tells 154 = .ok (.aload_n 0, 1) := dk_42 (bs_at BX12_tells_148 3 rfl)
theorem dX12_tells_155 : decode cX12_tells 155 = .ok (.getfield 389, 3) := dk_180 1 133 (bs_at BX12_tells_148 4 rfl) rfl
theorem dX12_tells_158 : decode cX12_tells 158 = .ok (.iconst 1, 1) := dk_4 (bs_at BX12_tells_148 5 rfl)
theorem dX12_tells_159 : decode cX12_tells 159 = .ok (.iadd, 1) := dk_96 (bs_at BX12_tells_148 6 rfl)
theorem dX12_tells_160 : decode cX12_tells 160 = .ok (.iaload, 1) := dk_46 (bs_at BX12_tells_148 7 rfl)
theorem dX12_tells_161 : decode cX12_tells 161 = .ok (.if_icmp .ge 58, 3) := dk_162 0 58 (bs_at BX12_tells_148 8 rfl) rfl
theorem dX12_tells_164 : decode cX12_tells 164 = .ok (.aload_n 0, 1) := dk_42 (bs_at BX12_tells_148 9 rfl)
theorem dX12_tells_165 : decode cX12_tells 165 = .ok (.getfield 389, 3) := dk_180 1 133 (bs_at BX12_tells_148 10 rfl) rfl
theorem dX12_tells_168 : decode cX12_tells 168 = .ok (.iconst 2, 1) := dk_5 (bs_at BX12_tells_148 11 rfl)
theorem dX12_tells_169 : decode cX12_tells 169 = .ok (.iadd, 1) := dk_96 (bs_at BX12_tells_148 12 rfl)
theorem dX12_tells_170 : decode cX12_tells 170 = .ok (.bipush 8, 2) := dk_16 8 (bs_at BX12_tells_148 13 rfl) rfl
theorem dX12_tells_172 : decode cX12_tells 172 = .ok (.iload 9, 2) := dk_21 9 (bs_at BX12_tells_148 14 rfl)
theorem dX12_tells_174 : decode cX12_tells 174 = .ok (.imul, 1) := dk_104 (bs_at BX12_tells_148 15 rfl)
theorem dX12_tells_175 : decode cX12_tells 175 = .ok (.iadd, 1) := dk_96 (bs_at BX12_tells_148 16 rfl)
theorem dX12_tells_176 : decode cX12_tells 176 = .ok (.istore 10, 2) := dk_54 10 (bs_at BX12_tells_148 17 rfl)
theorem dX12_tells_178 : decode cX12_tells 178 = .ok (.aload_n 0, 1) := dk_42 (bs_at BX12_tells_148 18 rfl)
theorem dX12_tells_179 : decode cX12_tells 179 = .ok (.getfield 13, 3) := dk_180 0 13 (bs_at BX12_tells_148 19 rfl) rfl
theorem dX12_tells_182 : decode cX12_tells 182 = .ok (.iload 10, 2) := dk_21 10 (bs_at BX12_tells_148 20 rfl)
theorem dX12_tells_184 : decode cX12_tells 184 = .ok (.iaload, 1) := dk_46 (bs_at BX12_tells_148 21 rfl)
theorem dX12_tells_185 : decode cX12_tells 185 = .ok (.iload_n 2, 1) := dk_28 (bs_at BX12_tells_148 22 rfl)
theorem dX12_tells_186 : decode cX12_tells 186 = .ok (.if_icmp .ne 27, 3) := dk_160 0 27 (bs_at BX12_tells_148 23 rfl) rfl
theorem BX12_tells_189 : bsegs (ByteArray.data cX12_tells |>.toList.drop 189) 189 [(189, [42]), (190, [21, 10]), (192, [182, 1, 156]), (195, [153, 0, 18]), (198, [28]), (199, [6]), (200, [160, 0, 7]), (203, [10]), (204, [167, 0, 7]), (207, [42]), (208, [180, 1, 153]), (211, [55, 7]), (213, [132, 9, 1]), (216, [167, 255, 188]), (219, [22, 7]), (221, [173])] = true := by decide +kernel
theorem dX12_tells_189 : decode cX12_tells 189 = .ok (.aload_n 0, 1) := dk_42 (bs_at BX12_tells_189 0 rfl)
theorem dX12_tells_190 : decode cX12_tells 190 = .ok (.iload 10, 2) := dk_21 10 (bs_at BX12_tells_189 1 rfl)
theorem dX12_tells_192 : decode cX12_tells 192 = .ok (.invokevirtual 412, 3) := dk_182 1 156 (bs_at BX12_tells_189 2 rfl) rfl
theorem dX12_tells_195 : decode cX12_tells 195 = .ok (.ifCond .eq 18, 3) := dk_153 0 18 (bs_at BX12_tells_189 3 rfl) rfl
theorem dX12_tells_198 : decode cX12_tells 198 = .ok (.iload_n 2, 1) := dk_28 (bs_at BX12_tells_189 4 rfl)
theorem dX12_tells_199 : decode cX12_tells 199 = .ok (.iconst 3, 1) := dk_6 (bs_at BX12_tells_189 5 rfl)
theorem dX12_tells_200 : decode cX12_tells 200 = .ok (.if_icmp .ne 7, 3) := dk_160 0 7 (bs_at BX12_tells_189 6 rfl) rfl
theorem dX12_tells_203 : decode cX12_tells 203 = .ok (.lconst 1, 1) := dk_10 (bs_at BX12_tells_189 7 rfl)
theorem dX12_tells_204 : decode cX12_tells 204 = .ok (.goto 7, 3) := dk_167 0 7 (bs_at BX12_tells_189 8 rfl) rfl
theorem dX12_tells_207 : decode cX12_tells 207 = .ok (.aload_n 0, 1) := dk_42 (bs_at BX12_tells_189 9 rfl)
theorem dX12_tells_208 : decode cX12_tells 208 = .ok (.getfield 409, 3) := dk_180 1 153 (bs_at BX12_tells_189 10 rfl) rfl
theorem dX12_tells_211 : decode cX12_tells 211 = .ok (.lstore 7, 2) := dk_55 7 (bs_at BX12_tells_189 11 rfl)
theorem dX12_tells_213 : decode cX12_tells 213 = .ok (.iinc 9 1, 3) := dk_132 9 1 (bs_at BX12_tells_189 12 rfl) rfl
theorem dX12_tells_216 : decode cX12_tells 216 = .ok (.goto (-68), 3) := dk_167 255 188 (bs_at BX12_tells_189 13 rfl) rfl
theorem dX12_tells_219 : decode cX12_tells 219 = .ok (.lload 7, 2) := dk_22 7 (bs_at BX12_tells_189 14 rfl)
theorem dX12_tells_221 : decode cX12_tells 221 = .ok (.lreturn, 1) := dk_173 (bs_at BX12_tells_189 15 rfl)
theorem ggX12_reckonAll_X12_reckon : GoodIn wsX12_reckonAll wsX12_reckon := gi_ch ch_X12_reckonAll ch_X12_reckon (by decide +kernel)
theorem gX12_reckonAll_X12_reckon : GoodIn wsX12_reckonAll (wsV RX12 395 RX12 yX12_reckon wsX12_reckon) := gi_ch ch_X12_reckonAll (ch_v [1009, 1010, 84, 156] rfl ch_X12_reckon) (by decide +kernel)
theorem ggX12_reckonAll_X12_in : GoodIn wsX12_reckonAll wsX12_in := gi_ch ch_X12_reckonAll ch_X12_in (by decide +kernel)
theorem gX12_reckonAll_X12_in : GoodIn wsX12_reckonAll (va_wsS RX12 178 yX12_in wsX12_in) := gi_ch ch_X12_reckonAll (ch_s [965, 966, 156] rfl ch_X12_in) (by decide +kernel)
theorem ggX12_isSo_X12_reckonAll : GoodIn wsX12_isSo wsX12_reckonAll := gi_ch ch_X12_isSo ch_X12_reckonAll (by decide +kernel)
theorem gX12_isSo_X12_reckonAll : GoodIn wsX12_isSo (wsV RX12 406 RX12 yX12_reckonAll wsX12_reckonAll) := gi_ch ch_X12_isSo (ch_v [1002, 1003, 82, 156] rfl ch_X12_reckonAll) (by decide +kernel)
theorem ggX12_tells_X12_term : GoodIn wsX12_tells wsX12_term := gi_ch ch_X12_tells ch_X12_term (by decide +kernel)
theorem gX12_tells_X12_term : GoodIn wsX12_tells (wsV RX12 182 RX12 yX12_term wsX12_term) := gi_ch ch_X12_tells (ch_v [990, 991, 78, 156] rfl ch_X12_term) (by decide +kernel)
theorem ggX12_tells_X12_isSo : GoodIn wsX12_tells wsX12_isSo := gi_ch ch_X12_tells ch_X12_isSo (by decide +kernel)
theorem gX12_tells_X12_isSo : GoodIn wsX12_tells (wsV RX12 412 RX12 yX12_isSo wsX12_isSo) := gi_ch ch_X12_tells (ch_v [999, 1000, 81, 156] rfl ch_X12_isSo) (by decide +kernel)
set_option maxRecDepth 100000 in
noncomputable def E_v_reckon (x : Int32) (y : Int64) (z : Int64) (bro : Int32) : Int64 × Int32 :=
  if (x : Int32).toInt = 20 then (Lt (y + z : Int64) (fun x_92 => ((x_92, bro) : Int64 × Int32))) else (if (x : Int32).toInt = 21 then (Lt (y - z : Int64) (fun x_93 => ((x_93, bro) : Int64 × Int32))) else (if (x : Int32).toInt = 22 then (Lt (y * z : Int64) (fun x_94 => ((x_94, bro) : Int64 × Int32))) else (if (x : Int32).toInt = 23 then (if (lg_cmp z 0) = 0 then (((0, 1) : Int64 × Int32)) else (Lt (y / z : Int64) (fun x_97 => ((x_97, 0) : Int64 × Int32)))) else (if (x : Int32).toInt = 24 then (if (lg_cmp z 0) = 0 then (((0, 1) : Int64 × Int32)) else (Lt (y - y / z * z : Int64) (fun x_101 => ((x_101, 0) : Int64 × Int32)))) else (if (x : Int32).toInt = 25 then (if 0 ≤ (lg_cmp y z) then (((0, bro) : Int64 × Int32)) else (((1, bro) : Int64 × Int32))) else (if (x : Int32).toInt = 26 then (if (lg_cmp y z) ≤ 0 then (((0, bro) : Int64 × Int32)) else (((1, bro) : Int64 × Int32))) else (if (lg_cmp y z) = 0 then (((1, bro) : Int64 × Int32)) else (((0, bro) : Int64 × Int32)))))))))
set_option maxHeartbeats 4000000 in
set_option maxRecDepth 100000 in
theorem v_reckon (l : Launch) (D : va_G) (K : Nat → ClassId) (m0 : Nat) (x : Int32) (y : Int64) (z : Int64) (m_0 : Value) (m_1 : Value) (m_2 : Value) (m_3 : Value) (m_4 : Value) (m_5 : Value) (m_6 : Value) (m_7 : Value) (m_8 : Value) (m_9 : Value) (m_10 : Value) (m_11 : Value) (m_12 : Value) (m_13 : Value) (m_14 : Value) (m_15 : Value) (m_16 : Value) (m_17 : Value) (m_18 : Value) (m_19 : Value) (m_20 : Value) (m_21 : Value) (m_22 : Value) (m_23 : Value) (m_24 : Value) (m_25 : Value) (m_26 : Value) (m_27 : Value) (m_28 : Value) (m_29 : Value) (m_30 : Value) (m_31 : Value) (m_32 : Value) (m_33 : Value) (m_34 : Value) (m_35 : Value) (m_36 : Value) (m_37 : Value) (bro : Int32) (m_39 : Value) (m_40 : Value) (m_41 : Value) (m_42 : Value) (m_43 : Value) (m_44 : Value) (m_45 : Value) (m_46 : Value) (m_47 : Value) (m_48 : Value) (m_49 : Value) (m_50 : Value) (m_51 : Value) (m_52 : Value) (m_53 : Value) (m_54 : Value) (m_55 : Value) (m_56 : Value) (m_57 : Value) (m_58 : Value) (m_59 : Value) (sz : Nat) (zbro : 0 ≤ bro.toInt ∧ bro.toInt ≤ 1) : Met l yX12_reckon wsX12_reckon ({ frames := 0, cells := 0, slots := 0, locals := 0 }) (va_Pc [.ref m0, .int x, .long y, .long z] (Pre D K [(m0, .inr (12, [m_0, m_1, m_2, m_3, m_4, m_5, m_6, m_7, m_8, m_9, m_10, m_11, m_12, m_13, m_14, m_15, m_16, m_17, m_18, m_19, m_20, m_21, m_22, m_23, m_24, m_25, m_26, m_27, m_28, m_29, m_30, m_31, m_32, m_33, m_34, m_35, m_36, m_37, .int bro, m_39, m_40, m_41, m_42, m_43, m_44, m_45, m_46, m_47, m_48, m_49, m_50, m_51, m_52, m_53, m_54, m_55, m_56, m_57, m_58, m_59]))] sz)) (va_Ql (S := Su) (fun (r : Int64) (u : Su) => (0 ≤ (u.2.2.2.1 0).toInt ∧ (u.2.2.2.1 0).toInt ≤ 1) ∧ ((r, (u.2.2.2.1 0)) = E_v_reckon x y z bro) ∧ True) (fun u t => Wd D (va_A [(m0, .inr (12, [m_0, m_1, m_2, m_3, m_4, m_5, m_6, m_7, m_8, m_9, m_10, m_11, m_12, m_13, m_14, m_15, m_16, m_17, m_18, m_19, m_20, m_21, m_22, m_23, m_24, m_25, m_26, m_27, m_28, m_29, m_30, m_31, m_32, m_33, m_34, m_35, m_36, m_37, .int bro, m_39, m_40, m_41, m_42, m_43, m_44, m_45, m_46, m_47, m_48, m_49, m_50, m_51, m_52, m_53, m_54, m_55, m_56, m_57, m_58, m_59]))] sz) ((fun u => [(m0, .inr (12, [m_0, m_1, m_2, m_3, m_4, m_5, m_6, m_7, m_8, m_9, m_10, m_11, m_12, m_13, m_14, m_15, m_16, m_17, m_18, m_19, m_20, m_21, m_22, m_23, m_24, m_25, m_26, m_27, m_28, m_29, m_30, m_31, m_32, m_33, m_34, m_35, m_36, m_37, .int (u.2.2.2.1 0), m_39, m_40, m_41, m_42, m_43, m_44, m_45, m_46, m_47, m_48, m_49, m_50, m_51, m_52, m_53, m_54, m_55, m_56, m_57, m_58, m_59]))]) u) t) (va_A [(m0, .inr (12, [m_0, m_1, m_2, m_3, m_4, m_5, m_6, m_7, m_8, m_9, m_10, m_11, m_12, m_13, m_14, m_15, m_16, m_17, m_18, m_19, m_20, m_21, m_22, m_23, m_24, m_25, m_26, m_27, m_28, m_29, m_30, m_31, m_32, m_33, m_34, m_35, m_36, m_37, .int bro, m_39, m_40, m_41, m_42, m_43, m_44, m_45, m_46, m_47, m_48, m_49, m_50, m_51, m_52, m_53, m_54, m_55, m_56, m_57, m_58, m_59]))] sz)) 0 0 (va_A [(m0, .inr (12, [m_0, m_1, m_2, m_3, m_4, m_5, m_6, m_7, m_8, m_9, m_10, m_11, m_12, m_13, m_14, m_15, m_16, m_17, m_18, m_19, m_20, m_21, m_22, m_23, m_24, m_25, m_26, m_27, m_28, m_29, m_30, m_31, m_32, m_33, m_34, m_35, m_36, m_37, .int bro, m_39, m_40, m_41, m_42, m_43, m_44, m_45, m_46, m_47, m_48, m_49, m_50, m_51, m_52, m_53, m_54, m_55, m_56, m_57, m_58, m_59]))] sz) := by
  refine Met.ofW (cc := cX12_reckon) (maxL := 6) (ret := (some .long)) (by decide +kernel) rfl ?_
  intro p e s m args below meth c s₁ B hml hv
  obtain ⟨rfl, hsz, hP, hK, hD0, hN⟩ := hv
  have hx := B.exec
  have hb := B.bytes
  have hr := B.returns
  have hts := atoms_spec (ws := wsX12_reckon) B.pre
  have hown : s.vm.findClass RX12 = some m.cls := findClass_of_methodNamed B.named
  have hlocks := B.notSynchronized
  subst hsz
  have hD := hD0.self (sz := s.heap.size)
  generalize hAe : va_A [(m0, .inr (12, [m_0, m_1, m_2, m_3, m_4, m_5, m_6, m_7, m_8, m_9, m_10, m_11, m_12, m_13, m_14, m_15, m_16, m_17, m_18, m_19, m_20, m_21, m_22, m_23, m_24, m_25, m_26, m_27, m_28, m_29, m_30, m_31, m_32, m_33, m_34, m_35, m_36, m_37, .int bro, m_39, m_40, m_41, m_42, m_43, m_44, m_45, m_46, m_47, m_48, m_49, m_50, m_51, m_52, m_53, m_54, m_55, m_56, m_57, m_58, m_59]))] s.heap.size = A at hD ⊢
  have hA : ∀ q : Nat, s.heap.size ≤ q → A q := fun q h => by rw [← hAe]; exact Or.inr h
  clear hAe
  have hS : va_S A s.heap s.heap [] := va_S.rf
  replace hP : va_P D vwCl [(m0, .inr (12, [m_0, m_1, m_2, m_3, m_4, m_5, m_6, m_7, m_8, m_9, m_10, m_11, m_12, m_13, m_14, m_15, m_16, m_17, m_18, m_19, m_20, m_21, m_22, m_23, m_24, m_25, m_26, m_27, m_28, m_29, m_30, m_31, m_32, m_33, m_34, m_35, m_36, m_37, .int bro, m_39, m_40, m_41, m_42, m_43, m_44, m_45, m_46, m_47, m_48, m_49, m_50, m_51, m_52, m_53, m_54, m_55, m_56, m_57, m_58, m_59]))] s.heap := hP
  have hl := lv_entry [.ref m0, .int x, .long y, .long z] (n := 6) (Nat.le_of_ble_eq_true rfl)
  rw [lg_entry_eq]
  generalize (lg_sl [.ref m0, .int x, .long y, .long z] ++ List.replicate (6 - (lg_sl [.ref m0, .int x, .long y, .long z]).length) Slot.unset).toArray = ls at hl ⊢
  have hl : lv_has ls 6 [(0, .ref m0), (1, .int x), (2, .long y), (4, .long z)] := hl
  have hw12 : ∀ w ∈ wsX120, w ∈ wsX12_reckon := fun w h => (List.mem_cons_of_mem _ (List.mem_append_right _ h))
  generalize hQ : MQ below _ _ s _ _ _ = Q
  have hE := E_v_reckon.eq_def x y z bro
  refine lv_iload_n hx hb dX12_reckon_0 rfl (lv_at hl 1 rfl) ?_
  have w_91 : x.toInt = 20 ∨ x.toInt = 21 ∨ x.toInt = 22 ∨ x.toInt = 23 ∨ x.toInt = 24 ∨ x.toInt = 25 ∨ x.toInt = 26 ∨ (x.toInt < 20 ∨ 26 < x.toInt) := by omega
  rcases w_91 with w_91 | w_91 | w_91 | w_91 | w_91 | w_91 | w_91 | w_91
  · replace hE := (hE).trans (if_pos (by first | omega | (rw [rfl]; omega)))
    refine lv_tableIn (tgt := 44) hx hb dX12_reckon_1 (by omega) (by omega) (by rw [w_91]; rfl) (by decide +kernel) ?_
    refine lv_lload_n hx hb dX12_reckon_44 rfl (lv_at hl 2 rfl) ?_
    refine lv_lload hx hb dX12_reckon_45 (lv_at hl 3 rfl) ?_
    refine lv_ladd hx hb dX12_reckon_47 ?_
    refine lv_topl (fun x_92 ex_92 => ?_)
    replace hE := hE.trans (Lt_in ex_92)
    rw [← hQ]
    have hP9 := hP.sub (ws' := [(m0, .inr (12, [m_0, m_1, m_2, m_3, m_4, m_5, m_6, m_7, m_8, m_9, m_10, m_11, m_12, m_13, m_14, m_15, m_16, m_17, m_18, m_19, m_20, m_21, m_22, m_23, m_24, m_25, m_26, m_27, m_28, m_29, m_30, m_31, m_32, m_33, m_34, m_35, m_36, m_37, .int bro, m_39, m_40, m_41, m_42, m_43, m_44, m_45, m_46, m_47, m_48, m_49, m_50, m_51, m_52, m_53, m_54, m_55, m_56, m_57, m_58, m_59]))]) [0] rfl
    have hD9 := hD.sub (ws' := [(m0, .inr (12, [m_0, m_1, m_2, m_3, m_4, m_5, m_6, m_7, m_8, m_9, m_10, m_11, m_12, m_13, m_14, m_15, m_16, m_17, m_18, m_19, m_20, m_21, m_22, m_23, m_24, m_25, m_26, m_27, m_28, m_29, m_30, m_31, m_32, m_33, m_34, m_35, m_36, m_37, .int bro, m_39, m_40, m_41, m_42, m_43, m_44, m_45, m_46, m_47, m_48, m_49, m_50, m_51, m_52, m_53, m_54, m_55, m_56, m_57, m_58, m_59]))]) [0] (by decide +kernel) rfl
    exact W.lret (v := x_92) hx hb hr (fun t ht hW => ⟨⟨x_92, ((fun _ => 0, fun _ => fun _ => 0, fun _ => fun _ => 0, fun i => match i with | _ => bro, fun _ => 0, fun _ => fun _ => none) : Su), rfl, ⟨(show 0 ≤ (bro : Int32).toInt ∧ (bro : Int32).toInt ≤ 1 by omega), hE.symm, trivial⟩, (⟨by rw [ht]; exact hP9, hD9⟩ : Wd D A _ t)⟩, hS.F ht⟩) hS.2.2 dX12_reckon_48
  · replace hE := ((hE).trans (if_neg (by first | omega | (rw [rfl]; omega)))).trans (if_pos (by first | omega | (rw [rfl]; omega)))
    refine lv_tableIn (tgt := 49) hx hb dX12_reckon_1 (by omega) (by omega) (by rw [w_91]; rfl) (by decide +kernel) ?_
    refine lv_lload_n hx hb dX12_reckon_49 rfl (lv_at hl 2 rfl) ?_
    refine lv_lload hx hb dX12_reckon_50 (lv_at hl 3 rfl) ?_
    refine lv_lsub hx hb dX12_reckon_52 ?_
    refine lv_topl (fun x_93 ex_93 => ?_)
    replace hE := hE.trans (Lt_in ex_93)
    rw [← hQ]
    have hP9 := hP.sub (ws' := [(m0, .inr (12, [m_0, m_1, m_2, m_3, m_4, m_5, m_6, m_7, m_8, m_9, m_10, m_11, m_12, m_13, m_14, m_15, m_16, m_17, m_18, m_19, m_20, m_21, m_22, m_23, m_24, m_25, m_26, m_27, m_28, m_29, m_30, m_31, m_32, m_33, m_34, m_35, m_36, m_37, .int bro, m_39, m_40, m_41, m_42, m_43, m_44, m_45, m_46, m_47, m_48, m_49, m_50, m_51, m_52, m_53, m_54, m_55, m_56, m_57, m_58, m_59]))]) [0] rfl
    have hD9 := hD.sub (ws' := [(m0, .inr (12, [m_0, m_1, m_2, m_3, m_4, m_5, m_6, m_7, m_8, m_9, m_10, m_11, m_12, m_13, m_14, m_15, m_16, m_17, m_18, m_19, m_20, m_21, m_22, m_23, m_24, m_25, m_26, m_27, m_28, m_29, m_30, m_31, m_32, m_33, m_34, m_35, m_36, m_37, .int bro, m_39, m_40, m_41, m_42, m_43, m_44, m_45, m_46, m_47, m_48, m_49, m_50, m_51, m_52, m_53, m_54, m_55, m_56, m_57, m_58, m_59]))]) [0] (by decide +kernel) rfl
    exact W.lret (v := x_93) hx hb hr (fun t ht hW => ⟨⟨x_93, ((fun _ => 0, fun _ => fun _ => 0, fun _ => fun _ => 0, fun i => match i with | _ => bro, fun _ => 0, fun _ => fun _ => none) : Su), rfl, ⟨(show 0 ≤ (bro : Int32).toInt ∧ (bro : Int32).toInt ≤ 1 by omega), hE.symm, trivial⟩, (⟨by rw [ht]; exact hP9, hD9⟩ : Wd D A _ t)⟩, hS.F ht⟩) hS.2.2 dX12_reckon_53
  · replace hE := (((hE).trans (if_neg (by first | omega | (rw [rfl]; omega)))).trans (if_neg (by first | omega | (rw [rfl]; omega)))).trans (if_pos (by first | omega | (rw [rfl]; omega)))
    refine lv_tableIn (tgt := 54) hx hb dX12_reckon_1 (by omega) (by omega) (by rw [w_91]; rfl) (by decide +kernel) ?_
    refine lv_lload_n hx hb dX12_reckon_54 rfl (lv_at hl 2 rfl) ?_
    refine lv_lload hx hb dX12_reckon_55 (lv_at hl 3 rfl) ?_
    refine lv_lmul hx hb dX12_reckon_57 ?_
    refine lv_topl (fun x_94 ex_94 => ?_)
    replace hE := hE.trans (Lt_in ex_94)
    rw [← hQ]
    have hP9 := hP.sub (ws' := [(m0, .inr (12, [m_0, m_1, m_2, m_3, m_4, m_5, m_6, m_7, m_8, m_9, m_10, m_11, m_12, m_13, m_14, m_15, m_16, m_17, m_18, m_19, m_20, m_21, m_22, m_23, m_24, m_25, m_26, m_27, m_28, m_29, m_30, m_31, m_32, m_33, m_34, m_35, m_36, m_37, .int bro, m_39, m_40, m_41, m_42, m_43, m_44, m_45, m_46, m_47, m_48, m_49, m_50, m_51, m_52, m_53, m_54, m_55, m_56, m_57, m_58, m_59]))]) [0] rfl
    have hD9 := hD.sub (ws' := [(m0, .inr (12, [m_0, m_1, m_2, m_3, m_4, m_5, m_6, m_7, m_8, m_9, m_10, m_11, m_12, m_13, m_14, m_15, m_16, m_17, m_18, m_19, m_20, m_21, m_22, m_23, m_24, m_25, m_26, m_27, m_28, m_29, m_30, m_31, m_32, m_33, m_34, m_35, m_36, m_37, .int bro, m_39, m_40, m_41, m_42, m_43, m_44, m_45, m_46, m_47, m_48, m_49, m_50, m_51, m_52, m_53, m_54, m_55, m_56, m_57, m_58, m_59]))]) [0] (by decide +kernel) rfl
    exact W.lret (v := x_94) hx hb hr (fun t ht hW => ⟨⟨x_94, ((fun _ => 0, fun _ => fun _ => 0, fun _ => fun _ => 0, fun i => match i with | _ => bro, fun _ => 0, fun _ => fun _ => none) : Su), rfl, ⟨(show 0 ≤ (bro : Int32).toInt ∧ (bro : Int32).toInt ≤ 1 by omega), hE.symm, trivial⟩, (⟨by rw [ht]; exact hP9, hD9⟩ : Wd D A _ t)⟩, hS.F ht⟩) hS.2.2 dX12_reckon_58
  · replace hE := ((((hE).trans (if_neg (by first | omega | (rw [rfl]; omega)))).trans (if_neg (by first | omega | (rw [rfl]; omega)))).trans (if_neg (by first | omega | (rw [rfl]; omega)))).trans (if_pos (by first | omega | (rw [rfl]; omega)))
    refine lv_tableIn (tgt := 59) hx hb dX12_reckon_1 (by omega) (by omega) (by rw [w_91]; rfl) (by decide +kernel) ?_
    refine lv_aload_n hx hb dX12_reckon_59 rfl (lv_at hl 0 rfl) ?_
    refine lv_lload hx hb dX12_reckon_60 (lv_at hl 3 rfl) ?_
    refine lv_lconst (v := 0) hx hb dX12_reckon_62 (by decide +kernel) ?_
    refine W.lcmp hx hb dX12_reckon_63 ?_
    refine lv_if_ne (tgt := 71) hx hb dX12_reckon_64 (by decide +kernel) (fun c_95 => ?_) (fun c_95 => ?_)
    · have c_95i := l_ne (x := z.toInt) (y := 0) rfl rfl (fun q => c_95 ((lg_cmp_eq z 0).mpr q))
      replace hE := hE.trans (if_neg c_95)
      refine lv_iconst (v := 0) hx hb dX12_reckon_71 (by decide +kernel) ?_
      refine va_put (ci := 12) (v := .int 0) (ty := .boolean) (C := RX12) (T := TX12) (N := 60) hx hb hts hw12 tyX12 tyX12_ok nmX12 hown hK hP hD hS 0 rfl rfl 38 (by decide +kernel) (hts _ mm_X12_reckon_868) (fun _ h9 => h9) rfl (by decide +kernel) (by first | rfl | decide) (by first | rfl | decide) (Nat.le_of_ble_eq_true rfl) dX12_reckon_72 (fun H locs hP0 hD0 hS0 => ?_)
      clear hP hD hS
      have hP := hP0
      have hD := hD0
      have hS := hS0
      clear hP0 hD0 hS0
      replace hP : va_P D vwCl [(m0, .inr (12, [m_0, m_1, m_2, m_3, m_4, m_5, m_6, m_7, m_8, m_9, m_10, m_11, m_12, m_13, m_14, m_15, m_16, m_17, m_18, m_19, m_20, m_21, m_22, m_23, m_24, m_25, m_26, m_27, m_28, m_29, m_30, m_31, m_32, m_33, m_34, m_35, m_36, m_37, .int 0, m_39, m_40, m_41, m_42, m_43, m_44, m_45, m_46, m_47, m_48, m_49, m_50, m_51, m_52, m_53, m_54, m_55, m_56, m_57, m_58, m_59]))] H := hP
      replace hD : va_D A [(m0, .inr (12, [m_0, m_1, m_2, m_3, m_4, m_5, m_6, m_7, m_8, m_9, m_10, m_11, m_12, m_13, m_14, m_15, m_16, m_17, m_18, m_19, m_20, m_21, m_22, m_23, m_24, m_25, m_26, m_27, m_28, m_29, m_30, m_31, m_32, m_33, m_34, m_35, m_36, m_37, .int 0, m_39, m_40, m_41, m_42, m_43, m_44, m_45, m_46, m_47, m_48, m_49, m_50, m_51, m_52, m_53, m_54, m_55, m_56, m_57, m_58, m_59]))] := hD
      refine lv_aload_n hx hb dX12_reckon_75 rfl (lv_at hl 0 rfl) ?_
      refine va_get (ci := 12) (v := .int 0) (C := RX12) (T := TX12) (N := 60) hx hb hts hw12 hown hK hP 0 rfl rfl 38 (by decide +kernel) (hts _ mm_X12_reckon_868) (fun _ h9 => h9) rfl dX12_reckon_76 ?_
      refine lv_if_eq (tgt := 86) hx hb dX12_reckon_79 (by decide +kernel) (fun c_96 => ?_) (fun c_96 => absurd (by decide +kernel) c_96)
      refine lv_lload_n hx hb dX12_reckon_86 rfl (lv_at hl 2 rfl) ?_
      refine lv_lload hx hb dX12_reckon_87 (lv_at hl 3 rfl) ?_
      refine lv_ldiv hx hb dX12_reckon_89 (fun h9 => by have h8 := l_eq (x := z.toInt) (y := 0) rfl rfl h9; omega) ?_
      refine lv_topl (fun x_97 ex_97 => ?_)
      replace hE := hE.trans (Lt_in ex_97)
      rw [← hQ]
      have hP9 := hP.sub (ws' := [(m0, .inr (12, [m_0, m_1, m_2, m_3, m_4, m_5, m_6, m_7, m_8, m_9, m_10, m_11, m_12, m_13, m_14, m_15, m_16, m_17, m_18, m_19, m_20, m_21, m_22, m_23, m_24, m_25, m_26, m_27, m_28, m_29, m_30, m_31, m_32, m_33, m_34, m_35, m_36, m_37, .int 0, m_39, m_40, m_41, m_42, m_43, m_44, m_45, m_46, m_47, m_48, m_49, m_50, m_51, m_52, m_53, m_54, m_55, m_56, m_57, m_58, m_59]))]) [0] rfl
      have hD9 := hD.sub (ws' := [(m0, .inr (12, [m_0, m_1, m_2, m_3, m_4, m_5, m_6, m_7, m_8, m_9, m_10, m_11, m_12, m_13, m_14, m_15, m_16, m_17, m_18, m_19, m_20, m_21, m_22, m_23, m_24, m_25, m_26, m_27, m_28, m_29, m_30, m_31, m_32, m_33, m_34, m_35, m_36, m_37, .int 0, m_39, m_40, m_41, m_42, m_43, m_44, m_45, m_46, m_47, m_48, m_49, m_50, m_51, m_52, m_53, m_54, m_55, m_56, m_57, m_58, m_59]))]) [0] (by decide +kernel) rfl
      exact W.lret (v := x_97) hx hb hr (fun t ht hW => ⟨⟨x_97, ((fun _ => 0, fun _ => fun _ => 0, fun _ => fun _ => 0, fun i => match i with | _ => 0, fun _ => 0, fun _ => fun _ => none) : Su), rfl, ⟨(show 0 ≤ (0 : Int32).toInt ∧ (0 : Int32).toInt ≤ 1 by decide), hE.symm, trivial⟩, (⟨by rw [ht]; exact hP9, hD9⟩ : Wd D A _ t)⟩, hS.F ht⟩) hS.2.2 dX12_reckon_90
    · have c_95i := l_eq (x := z.toInt) (y := 0) rfl rfl ((lg_cmp_eq z 0).mp c_95)
      replace hE := hE.trans (if_pos c_95)
      refine lv_iconst (v := 1) hx hb dX12_reckon_67 (by decide +kernel) ?_
      refine lv_goto (tgt := 72) hx hb dX12_reckon_68 (by decide +kernel) ?_
      refine va_put (ci := 12) (v := .int 1) (ty := .boolean) (C := RX12) (T := TX12) (N := 60) hx hb hts hw12 tyX12 tyX12_ok nmX12 hown hK hP hD hS 0 rfl rfl 38 (by decide +kernel) (hts _ mm_X12_reckon_868) (fun _ h9 => h9) rfl (by decide +kernel) (by first | rfl | decide) (by first | rfl | decide) (Nat.le_of_ble_eq_true rfl) dX12_reckon_72 (fun H locs hP0 hD0 hS0 => ?_)
      clear hP hD hS
      have hP := hP0
      have hD := hD0
      have hS := hS0
      clear hP0 hD0 hS0
      replace hP : va_P D vwCl [(m0, .inr (12, [m_0, m_1, m_2, m_3, m_4, m_5, m_6, m_7, m_8, m_9, m_10, m_11, m_12, m_13, m_14, m_15, m_16, m_17, m_18, m_19, m_20, m_21, m_22, m_23, m_24, m_25, m_26, m_27, m_28, m_29, m_30, m_31, m_32, m_33, m_34, m_35, m_36, m_37, .int 1, m_39, m_40, m_41, m_42, m_43, m_44, m_45, m_46, m_47, m_48, m_49, m_50, m_51, m_52, m_53, m_54, m_55, m_56, m_57, m_58, m_59]))] H := hP
      replace hD : va_D A [(m0, .inr (12, [m_0, m_1, m_2, m_3, m_4, m_5, m_6, m_7, m_8, m_9, m_10, m_11, m_12, m_13, m_14, m_15, m_16, m_17, m_18, m_19, m_20, m_21, m_22, m_23, m_24, m_25, m_26, m_27, m_28, m_29, m_30, m_31, m_32, m_33, m_34, m_35, m_36, m_37, .int 1, m_39, m_40, m_41, m_42, m_43, m_44, m_45, m_46, m_47, m_48, m_49, m_50, m_51, m_52, m_53, m_54, m_55, m_56, m_57, m_58, m_59]))] := hD
      refine lv_aload_n hx hb dX12_reckon_75 rfl (lv_at hl 0 rfl) ?_
      refine va_get (ci := 12) (v := .int 1) (C := RX12) (T := TX12) (N := 60) hx hb hts hw12 hown hK hP 0 rfl rfl 38 (by decide +kernel) (hts _ mm_X12_reckon_868) (fun _ h9 => h9) rfl dX12_reckon_76 ?_
      refine lv_if_eq (tgt := 86) hx hb dX12_reckon_79 (by decide +kernel) (fun c_98 => absurd c_98 (by decide +kernel)) (fun c_98 => ?_)
      refine lv_lconst (v := 0) hx hb dX12_reckon_82 (by decide +kernel) ?_
      refine lv_goto (tgt := 90) hx hb dX12_reckon_83 (by decide +kernel) ?_
      rw [← hQ]
      have hP9 := hP.sub (ws' := [(m0, .inr (12, [m_0, m_1, m_2, m_3, m_4, m_5, m_6, m_7, m_8, m_9, m_10, m_11, m_12, m_13, m_14, m_15, m_16, m_17, m_18, m_19, m_20, m_21, m_22, m_23, m_24, m_25, m_26, m_27, m_28, m_29, m_30, m_31, m_32, m_33, m_34, m_35, m_36, m_37, .int 1, m_39, m_40, m_41, m_42, m_43, m_44, m_45, m_46, m_47, m_48, m_49, m_50, m_51, m_52, m_53, m_54, m_55, m_56, m_57, m_58, m_59]))]) [0] rfl
      have hD9 := hD.sub (ws' := [(m0, .inr (12, [m_0, m_1, m_2, m_3, m_4, m_5, m_6, m_7, m_8, m_9, m_10, m_11, m_12, m_13, m_14, m_15, m_16, m_17, m_18, m_19, m_20, m_21, m_22, m_23, m_24, m_25, m_26, m_27, m_28, m_29, m_30, m_31, m_32, m_33, m_34, m_35, m_36, m_37, .int 1, m_39, m_40, m_41, m_42, m_43, m_44, m_45, m_46, m_47, m_48, m_49, m_50, m_51, m_52, m_53, m_54, m_55, m_56, m_57, m_58, m_59]))]) [0] (by decide +kernel) rfl
      exact W.lret (v := 0) hx hb hr (fun t ht hW => ⟨⟨0, ((fun _ => 0, fun _ => fun _ => 0, fun _ => fun _ => 0, fun i => match i with | _ => 1, fun _ => 0, fun _ => fun _ => none) : Su), rfl, ⟨(show 0 ≤ (1 : Int32).toInt ∧ (1 : Int32).toInt ≤ 1 by decide), hE.symm, trivial⟩, (⟨by rw [ht]; exact hP9, hD9⟩ : Wd D A _ t)⟩, hS.F ht⟩) hS.2.2 dX12_reckon_90
  · replace hE := (((((hE).trans (if_neg (by first | omega | (rw [rfl]; omega)))).trans (if_neg (by first | omega | (rw [rfl]; omega)))).trans (if_neg (by first | omega | (rw [rfl]; omega)))).trans (if_neg (by first | omega | (rw [rfl]; omega)))).trans (if_pos (by first | omega | (rw [rfl]; omega)))
    refine lv_tableIn (tgt := 91) hx hb dX12_reckon_1 (by omega) (by omega) (by rw [w_91]; rfl) (by decide +kernel) ?_
    refine lv_aload_n hx hb dX12_reckon_91 rfl (lv_at hl 0 rfl) ?_
    refine lv_lload hx hb dX12_reckon_92 (lv_at hl 3 rfl) ?_
    refine lv_lconst (v := 0) hx hb dX12_reckon_94 (by decide +kernel) ?_
    refine W.lcmp hx hb dX12_reckon_95 ?_
    refine lv_if_ne (tgt := 103) hx hb dX12_reckon_96 (by decide +kernel) (fun c_99 => ?_) (fun c_99 => ?_)
    · have c_99i := l_ne (x := z.toInt) (y := 0) rfl rfl (fun q => c_99 ((lg_cmp_eq z 0).mpr q))
      replace hE := hE.trans (if_neg c_99)
      refine lv_iconst (v := 0) hx hb dX12_reckon_103 (by decide +kernel) ?_
      refine va_put (ci := 12) (v := .int 0) (ty := .boolean) (C := RX12) (T := TX12) (N := 60) hx hb hts hw12 tyX12 tyX12_ok nmX12 hown hK hP hD hS 0 rfl rfl 38 (by decide +kernel) (hts _ mm_X12_reckon_868) (fun _ h9 => h9) rfl (by decide +kernel) (by first | rfl | decide) (by first | rfl | decide) (Nat.le_of_ble_eq_true rfl) dX12_reckon_104 (fun H locs hP0 hD0 hS0 => ?_)
      clear hP hD hS
      have hP := hP0
      have hD := hD0
      have hS := hS0
      clear hP0 hD0 hS0
      replace hP : va_P D vwCl [(m0, .inr (12, [m_0, m_1, m_2, m_3, m_4, m_5, m_6, m_7, m_8, m_9, m_10, m_11, m_12, m_13, m_14, m_15, m_16, m_17, m_18, m_19, m_20, m_21, m_22, m_23, m_24, m_25, m_26, m_27, m_28, m_29, m_30, m_31, m_32, m_33, m_34, m_35, m_36, m_37, .int 0, m_39, m_40, m_41, m_42, m_43, m_44, m_45, m_46, m_47, m_48, m_49, m_50, m_51, m_52, m_53, m_54, m_55, m_56, m_57, m_58, m_59]))] H := hP
      replace hD : va_D A [(m0, .inr (12, [m_0, m_1, m_2, m_3, m_4, m_5, m_6, m_7, m_8, m_9, m_10, m_11, m_12, m_13, m_14, m_15, m_16, m_17, m_18, m_19, m_20, m_21, m_22, m_23, m_24, m_25, m_26, m_27, m_28, m_29, m_30, m_31, m_32, m_33, m_34, m_35, m_36, m_37, .int 0, m_39, m_40, m_41, m_42, m_43, m_44, m_45, m_46, m_47, m_48, m_49, m_50, m_51, m_52, m_53, m_54, m_55, m_56, m_57, m_58, m_59]))] := hD
      refine lv_aload_n hx hb dX12_reckon_107 rfl (lv_at hl 0 rfl) ?_
      refine va_get (ci := 12) (v := .int 0) (C := RX12) (T := TX12) (N := 60) hx hb hts hw12 hown hK hP 0 rfl rfl 38 (by decide +kernel) (hts _ mm_X12_reckon_868) (fun _ h9 => h9) rfl dX12_reckon_108 ?_
      refine lv_if_eq (tgt := 118) hx hb dX12_reckon_111 (by decide +kernel) (fun c_100 => ?_) (fun c_100 => absurd (by decide +kernel) c_100)
      refine lv_lload_n hx hb dX12_reckon_118 rfl (lv_at hl 2 rfl) ?_
      refine lv_lload hx hb dX12_reckon_119 (lv_at hl 3 rfl) ?_
      refine lv_lrem hx hb dX12_reckon_121 (fun h9 => by have h8 := l_eq (x := z.toInt) (y := 0) rfl rfl h9; omega) ?_
      refine lv_topl (fun x_101 ex_101 => ?_)
      replace hE := hE.trans (Lt_in ex_101)
      rw [← hQ]
      have hP9 := hP.sub (ws' := [(m0, .inr (12, [m_0, m_1, m_2, m_3, m_4, m_5, m_6, m_7, m_8, m_9, m_10, m_11, m_12, m_13, m_14, m_15, m_16, m_17, m_18, m_19, m_20, m_21, m_22, m_23, m_24, m_25, m_26, m_27, m_28, m_29, m_30, m_31, m_32, m_33, m_34, m_35, m_36, m_37, .int 0, m_39, m_40, m_41, m_42, m_43, m_44, m_45, m_46, m_47, m_48, m_49, m_50, m_51, m_52, m_53, m_54, m_55, m_56, m_57, m_58, m_59]))]) [0] rfl
      have hD9 := hD.sub (ws' := [(m0, .inr (12, [m_0, m_1, m_2, m_3, m_4, m_5, m_6, m_7, m_8, m_9, m_10, m_11, m_12, m_13, m_14, m_15, m_16, m_17, m_18, m_19, m_20, m_21, m_22, m_23, m_24, m_25, m_26, m_27, m_28, m_29, m_30, m_31, m_32, m_33, m_34, m_35, m_36, m_37, .int 0, m_39, m_40, m_41, m_42, m_43, m_44, m_45, m_46, m_47, m_48, m_49, m_50, m_51, m_52, m_53, m_54, m_55, m_56, m_57, m_58, m_59]))]) [0] (by decide +kernel) rfl
      exact W.lret (v := x_101) hx hb hr (fun t ht hW => ⟨⟨x_101, ((fun _ => 0, fun _ => fun _ => 0, fun _ => fun _ => 0, fun i => match i with | _ => 0, fun _ => 0, fun _ => fun _ => none) : Su), rfl, ⟨(show 0 ≤ (0 : Int32).toInt ∧ (0 : Int32).toInt ≤ 1 by decide), hE.symm, trivial⟩, (⟨by rw [ht]; exact hP9, hD9⟩ : Wd D A _ t)⟩, hS.F ht⟩) hS.2.2 dX12_reckon_122
    · have c_99i := l_eq (x := z.toInt) (y := 0) rfl rfl ((lg_cmp_eq z 0).mp c_99)
      replace hE := hE.trans (if_pos c_99)
      refine lv_iconst (v := 1) hx hb dX12_reckon_99 (by decide +kernel) ?_
      refine lv_goto (tgt := 104) hx hb dX12_reckon_100 (by decide +kernel) ?_
      refine va_put (ci := 12) (v := .int 1) (ty := .boolean) (C := RX12) (T := TX12) (N := 60) hx hb hts hw12 tyX12 tyX12_ok nmX12 hown hK hP hD hS 0 rfl rfl 38 (by decide +kernel) (hts _ mm_X12_reckon_868) (fun _ h9 => h9) rfl (by decide +kernel) (by first | rfl | decide) (by first | rfl | decide) (Nat.le_of_ble_eq_true rfl) dX12_reckon_104 (fun H locs hP0 hD0 hS0 => ?_)
      clear hP hD hS
      have hP := hP0
      have hD := hD0
      have hS := hS0
      clear hP0 hD0 hS0
      replace hP : va_P D vwCl [(m0, .inr (12, [m_0, m_1, m_2, m_3, m_4, m_5, m_6, m_7, m_8, m_9, m_10, m_11, m_12, m_13, m_14, m_15, m_16, m_17, m_18, m_19, m_20, m_21, m_22, m_23, m_24, m_25, m_26, m_27, m_28, m_29, m_30, m_31, m_32, m_33, m_34, m_35, m_36, m_37, .int 1, m_39, m_40, m_41, m_42, m_43, m_44, m_45, m_46, m_47, m_48, m_49, m_50, m_51, m_52, m_53, m_54, m_55, m_56, m_57, m_58, m_59]))] H := hP
      replace hD : va_D A [(m0, .inr (12, [m_0, m_1, m_2, m_3, m_4, m_5, m_6, m_7, m_8, m_9, m_10, m_11, m_12, m_13, m_14, m_15, m_16, m_17, m_18, m_19, m_20, m_21, m_22, m_23, m_24, m_25, m_26, m_27, m_28, m_29, m_30, m_31, m_32, m_33, m_34, m_35, m_36, m_37, .int 1, m_39, m_40, m_41, m_42, m_43, m_44, m_45, m_46, m_47, m_48, m_49, m_50, m_51, m_52, m_53, m_54, m_55, m_56, m_57, m_58, m_59]))] := hD
      refine lv_aload_n hx hb dX12_reckon_107 rfl (lv_at hl 0 rfl) ?_
      refine va_get (ci := 12) (v := .int 1) (C := RX12) (T := TX12) (N := 60) hx hb hts hw12 hown hK hP 0 rfl rfl 38 (by decide +kernel) (hts _ mm_X12_reckon_868) (fun _ h9 => h9) rfl dX12_reckon_108 ?_
      refine lv_if_eq (tgt := 118) hx hb dX12_reckon_111 (by decide +kernel) (fun c_102 => absurd c_102 (by decide +kernel)) (fun c_102 => ?_)
      refine lv_lconst (v := 0) hx hb dX12_reckon_114 (by decide +kernel) ?_
      refine lv_goto (tgt := 122) hx hb dX12_reckon_115 (by decide +kernel) ?_
      rw [← hQ]
      have hP9 := hP.sub (ws' := [(m0, .inr (12, [m_0, m_1, m_2, m_3, m_4, m_5, m_6, m_7, m_8, m_9, m_10, m_11, m_12, m_13, m_14, m_15, m_16, m_17, m_18, m_19, m_20, m_21, m_22, m_23, m_24, m_25, m_26, m_27, m_28, m_29, m_30, m_31, m_32, m_33, m_34, m_35, m_36, m_37, .int 1, m_39, m_40, m_41, m_42, m_43, m_44, m_45, m_46, m_47, m_48, m_49, m_50, m_51, m_52, m_53, m_54, m_55, m_56, m_57, m_58, m_59]))]) [0] rfl
      have hD9 := hD.sub (ws' := [(m0, .inr (12, [m_0, m_1, m_2, m_3, m_4, m_5, m_6, m_7, m_8, m_9, m_10, m_11, m_12, m_13, m_14, m_15, m_16, m_17, m_18, m_19, m_20, m_21, m_22, m_23, m_24, m_25, m_26, m_27, m_28, m_29, m_30, m_31, m_32, m_33, m_34, m_35, m_36, m_37, .int 1, m_39, m_40, m_41, m_42, m_43, m_44, m_45, m_46, m_47, m_48, m_49, m_50, m_51, m_52, m_53, m_54, m_55, m_56, m_57, m_58, m_59]))]) [0] (by decide +kernel) rfl
      exact W.lret (v := 0) hx hb hr (fun t ht hW => ⟨⟨0, ((fun _ => 0, fun _ => fun _ => 0, fun _ => fun _ => 0, fun i => match i with | _ => 1, fun _ => 0, fun _ => fun _ => none) : Su), rfl, ⟨(show 0 ≤ (1 : Int32).toInt ∧ (1 : Int32).toInt ≤ 1 by decide), hE.symm, trivial⟩, (⟨by rw [ht]; exact hP9, hD9⟩ : Wd D A _ t)⟩, hS.F ht⟩) hS.2.2 dX12_reckon_122
  · replace hE := ((((((hE).trans (if_neg (by first | omega | (rw [rfl]; omega)))).trans (if_neg (by first | omega | (rw [rfl]; omega)))).trans (if_neg (by first | omega | (rw [rfl]; omega)))).trans (if_neg (by first | omega | (rw [rfl]; omega)))).trans (if_neg (by first | omega | (rw [rfl]; omega)))).trans (if_pos (by first | omega | (rw [rfl]; omega)))
    refine lv_tableIn (tgt := 123) hx hb dX12_reckon_1 (by omega) (by omega) (by rw [w_91]; rfl) (by decide +kernel) ?_
    refine lv_lload_n hx hb dX12_reckon_123 rfl (lv_at hl 2 rfl) ?_
    refine lv_lload hx hb dX12_reckon_124 (lv_at hl 3 rfl) ?_
    refine W.lcmp hx hb dX12_reckon_126 ?_
    refine lv_if_ge (tgt := 134) hx hb dX12_reckon_127 (by decide +kernel) (fun c_103 => ?_) (fun c_103 => ?_)
    · have c_103i := l_le (x := z.toInt) (y := y.toInt) rfl rfl ((lg_cmp_ge y z).mp c_103)
      replace hE := hE.trans (if_pos c_103)
      refine lv_lconst (v := 0) hx hb dX12_reckon_134 (by decide +kernel) ?_
      rw [← hQ]
      have hP9 := hP.sub (ws' := [(m0, .inr (12, [m_0, m_1, m_2, m_3, m_4, m_5, m_6, m_7, m_8, m_9, m_10, m_11, m_12, m_13, m_14, m_15, m_16, m_17, m_18, m_19, m_20, m_21, m_22, m_23, m_24, m_25, m_26, m_27, m_28, m_29, m_30, m_31, m_32, m_33, m_34, m_35, m_36, m_37, .int bro, m_39, m_40, m_41, m_42, m_43, m_44, m_45, m_46, m_47, m_48, m_49, m_50, m_51, m_52, m_53, m_54, m_55, m_56, m_57, m_58, m_59]))]) [0] rfl
      have hD9 := hD.sub (ws' := [(m0, .inr (12, [m_0, m_1, m_2, m_3, m_4, m_5, m_6, m_7, m_8, m_9, m_10, m_11, m_12, m_13, m_14, m_15, m_16, m_17, m_18, m_19, m_20, m_21, m_22, m_23, m_24, m_25, m_26, m_27, m_28, m_29, m_30, m_31, m_32, m_33, m_34, m_35, m_36, m_37, .int bro, m_39, m_40, m_41, m_42, m_43, m_44, m_45, m_46, m_47, m_48, m_49, m_50, m_51, m_52, m_53, m_54, m_55, m_56, m_57, m_58, m_59]))]) [0] (by decide +kernel) rfl
      exact W.lret (v := 0) hx hb hr (fun t ht hW => ⟨⟨0, ((fun _ => 0, fun _ => fun _ => 0, fun _ => fun _ => 0, fun i => match i with | _ => bro, fun _ => 0, fun _ => fun _ => none) : Su), rfl, ⟨(show 0 ≤ (bro : Int32).toInt ∧ (bro : Int32).toInt ≤ 1 by omega), hE.symm, trivial⟩, (⟨by rw [ht]; exact hP9, hD9⟩ : Wd D A _ t)⟩, hS.F ht⟩) hS.2.2 dX12_reckon_135
    · have c_103i := l_nle (x := z.toInt) (y := y.toInt) rfl rfl (fun q => c_103 ((lg_cmp_ge y z).mpr q))
      replace hE := hE.trans (if_neg c_103)
      refine lv_lconst (v := 1) hx hb dX12_reckon_130 (by decide +kernel) ?_
      refine lv_goto (tgt := 135) hx hb dX12_reckon_131 (by decide +kernel) ?_
      rw [← hQ]
      have hP9 := hP.sub (ws' := [(m0, .inr (12, [m_0, m_1, m_2, m_3, m_4, m_5, m_6, m_7, m_8, m_9, m_10, m_11, m_12, m_13, m_14, m_15, m_16, m_17, m_18, m_19, m_20, m_21, m_22, m_23, m_24, m_25, m_26, m_27, m_28, m_29, m_30, m_31, m_32, m_33, m_34, m_35, m_36, m_37, .int bro, m_39, m_40, m_41, m_42, m_43, m_44, m_45, m_46, m_47, m_48, m_49, m_50, m_51, m_52, m_53, m_54, m_55, m_56, m_57, m_58, m_59]))]) [0] rfl
      have hD9 := hD.sub (ws' := [(m0, .inr (12, [m_0, m_1, m_2, m_3, m_4, m_5, m_6, m_7, m_8, m_9, m_10, m_11, m_12, m_13, m_14, m_15, m_16, m_17, m_18, m_19, m_20, m_21, m_22, m_23, m_24, m_25, m_26, m_27, m_28, m_29, m_30, m_31, m_32, m_33, m_34, m_35, m_36, m_37, .int bro, m_39, m_40, m_41, m_42, m_43, m_44, m_45, m_46, m_47, m_48, m_49, m_50, m_51, m_52, m_53, m_54, m_55, m_56, m_57, m_58, m_59]))]) [0] (by decide +kernel) rfl
      exact W.lret (v := 1) hx hb hr (fun t ht hW => ⟨⟨1, ((fun _ => 0, fun _ => fun _ => 0, fun _ => fun _ => 0, fun i => match i with | _ => bro, fun _ => 0, fun _ => fun _ => none) : Su), rfl, ⟨(show 0 ≤ (bro : Int32).toInt ∧ (bro : Int32).toInt ≤ 1 by omega), hE.symm, trivial⟩, (⟨by rw [ht]; exact hP9, hD9⟩ : Wd D A _ t)⟩, hS.F ht⟩) hS.2.2 dX12_reckon_135
  · replace hE := (((((((hE).trans (if_neg (by first | omega | (rw [rfl]; omega)))).trans (if_neg (by first | omega | (rw [rfl]; omega)))).trans (if_neg (by first | omega | (rw [rfl]; omega)))).trans (if_neg (by first | omega | (rw [rfl]; omega)))).trans (if_neg (by first | omega | (rw [rfl]; omega)))).trans (if_neg (by first | omega | (rw [rfl]; omega)))).trans (if_pos (by first | omega | (rw [rfl]; omega)))
    refine lv_tableIn (tgt := 136) hx hb dX12_reckon_1 (by omega) (by omega) (by rw [w_91]; rfl) (by decide +kernel) ?_
    refine lv_lload_n hx hb dX12_reckon_136 rfl (lv_at hl 2 rfl) ?_
    refine lv_lload hx hb dX12_reckon_137 (lv_at hl 3 rfl) ?_
    refine W.lcmp hx hb dX12_reckon_139 ?_
    refine lv_if_le (tgt := 147) hx hb dX12_reckon_140 (by decide +kernel) (fun c_104 => ?_) (fun c_104 => ?_)
    · have c_104i := l_le (x := y.toInt) (y := z.toInt) rfl rfl ((lg_cmp_le y z).mp c_104)
      replace hE := hE.trans (if_pos c_104)
      refine lv_lconst (v := 0) hx hb dX12_reckon_147 (by decide +kernel) ?_
      rw [← hQ]
      have hP9 := hP.sub (ws' := [(m0, .inr (12, [m_0, m_1, m_2, m_3, m_4, m_5, m_6, m_7, m_8, m_9, m_10, m_11, m_12, m_13, m_14, m_15, m_16, m_17, m_18, m_19, m_20, m_21, m_22, m_23, m_24, m_25, m_26, m_27, m_28, m_29, m_30, m_31, m_32, m_33, m_34, m_35, m_36, m_37, .int bro, m_39, m_40, m_41, m_42, m_43, m_44, m_45, m_46, m_47, m_48, m_49, m_50, m_51, m_52, m_53, m_54, m_55, m_56, m_57, m_58, m_59]))]) [0] rfl
      have hD9 := hD.sub (ws' := [(m0, .inr (12, [m_0, m_1, m_2, m_3, m_4, m_5, m_6, m_7, m_8, m_9, m_10, m_11, m_12, m_13, m_14, m_15, m_16, m_17, m_18, m_19, m_20, m_21, m_22, m_23, m_24, m_25, m_26, m_27, m_28, m_29, m_30, m_31, m_32, m_33, m_34, m_35, m_36, m_37, .int bro, m_39, m_40, m_41, m_42, m_43, m_44, m_45, m_46, m_47, m_48, m_49, m_50, m_51, m_52, m_53, m_54, m_55, m_56, m_57, m_58, m_59]))]) [0] (by decide +kernel) rfl
      exact W.lret (v := 0) hx hb hr (fun t ht hW => ⟨⟨0, ((fun _ => 0, fun _ => fun _ => 0, fun _ => fun _ => 0, fun i => match i with | _ => bro, fun _ => 0, fun _ => fun _ => none) : Su), rfl, ⟨(show 0 ≤ (bro : Int32).toInt ∧ (bro : Int32).toInt ≤ 1 by omega), hE.symm, trivial⟩, (⟨by rw [ht]; exact hP9, hD9⟩ : Wd D A _ t)⟩, hS.F ht⟩) hS.2.2 dX12_reckon_148
    · have c_104i := l_nle (x := y.toInt) (y := z.toInt) rfl rfl (fun q => c_104 ((lg_cmp_le y z).mpr q))
      replace hE := hE.trans (if_neg c_104)
      refine lv_lconst (v := 1) hx hb dX12_reckon_143 (by decide +kernel) ?_
      refine lv_goto (tgt := 148) hx hb dX12_reckon_144 (by decide +kernel) ?_
      rw [← hQ]
      have hP9 := hP.sub (ws' := [(m0, .inr (12, [m_0, m_1, m_2, m_3, m_4, m_5, m_6, m_7, m_8, m_9, m_10, m_11, m_12, m_13, m_14, m_15, m_16, m_17, m_18, m_19, m_20, m_21, m_22, m_23, m_24, m_25, m_26, m_27, m_28, m_29, m_30, m_31, m_32, m_33, m_34, m_35, m_36, m_37, .int bro, m_39, m_40, m_41, m_42, m_43, m_44, m_45, m_46, m_47, m_48, m_49, m_50, m_51, m_52, m_53, m_54, m_55, m_56, m_57, m_58, m_59]))]) [0] rfl
      have hD9 := hD.sub (ws' := [(m0, .inr (12, [m_0, m_1, m_2, m_3, m_4, m_5, m_6, m_7, m_8, m_9, m_10, m_11, m_12, m_13, m_14, m_15, m_16, m_17, m_18, m_19, m_20, m_21, m_22, m_23, m_24, m_25, m_26, m_27, m_28, m_29, m_30, m_31, m_32, m_33, m_34, m_35, m_36, m_37, .int bro, m_39, m_40, m_41, m_42, m_43, m_44, m_45, m_46, m_47, m_48, m_49, m_50, m_51, m_52, m_53, m_54, m_55, m_56, m_57, m_58, m_59]))]) [0] (by decide +kernel) rfl
      exact W.lret (v := 1) hx hb hr (fun t ht hW => ⟨⟨1, ((fun _ => 0, fun _ => fun _ => 0, fun _ => fun _ => 0, fun i => match i with | _ => bro, fun _ => 0, fun _ => fun _ => none) : Su), rfl, ⟨(show 0 ≤ (bro : Int32).toInt ∧ (bro : Int32).toInt ≤ 1 by omega), hE.symm, trivial⟩, (⟨by rw [ht]; exact hP9, hD9⟩ : Wd D A _ t)⟩, hS.F ht⟩) hS.2.2 dX12_reckon_148
  · replace hE := (((((((hE).trans (if_neg (by first | omega | (rw [rfl]; omega)))).trans (if_neg (by first | omega | (rw [rfl]; omega)))).trans (if_neg (by first | omega | (rw [rfl]; omega)))).trans (if_neg (by first | omega | (rw [rfl]; omega)))).trans (if_neg (by first | omega | (rw [rfl]; omega)))).trans (if_neg (by first | omega | (rw [rfl]; omega)))).trans (if_neg (by first | omega | (rw [rfl]; omega)))
    refine lv_tableOut (tgt := 149) hx hb dX12_reckon_1 (by omega) (by decide +kernel) ?_
    refine lv_lload_n hx hb dX12_reckon_149 rfl (lv_at hl 2 rfl) ?_
    refine lv_lload hx hb dX12_reckon_150 (lv_at hl 3 rfl) ?_
    refine W.lcmp hx hb dX12_reckon_152 ?_
    refine lv_if_ne (tgt := 160) hx hb dX12_reckon_153 (by decide +kernel) (fun c_105 => ?_) (fun c_105 => ?_)
    · have c_105i := l_ne (x := y.toInt) (y := z.toInt) rfl rfl (fun q => c_105 ((lg_cmp_eq y z).mpr q))
      replace hE := hE.trans (if_neg c_105)
      refine lv_lconst (v := 0) hx hb dX12_reckon_160 (by decide +kernel) ?_
      rw [← hQ]
      have hP9 := hP.sub (ws' := [(m0, .inr (12, [m_0, m_1, m_2, m_3, m_4, m_5, m_6, m_7, m_8, m_9, m_10, m_11, m_12, m_13, m_14, m_15, m_16, m_17, m_18, m_19, m_20, m_21, m_22, m_23, m_24, m_25, m_26, m_27, m_28, m_29, m_30, m_31, m_32, m_33, m_34, m_35, m_36, m_37, .int bro, m_39, m_40, m_41, m_42, m_43, m_44, m_45, m_46, m_47, m_48, m_49, m_50, m_51, m_52, m_53, m_54, m_55, m_56, m_57, m_58, m_59]))]) [0] rfl
      have hD9 := hD.sub (ws' := [(m0, .inr (12, [m_0, m_1, m_2, m_3, m_4, m_5, m_6, m_7, m_8, m_9, m_10, m_11, m_12, m_13, m_14, m_15, m_16, m_17, m_18, m_19, m_20, m_21, m_22, m_23, m_24, m_25, m_26, m_27, m_28, m_29, m_30, m_31, m_32, m_33, m_34, m_35, m_36, m_37, .int bro, m_39, m_40, m_41, m_42, m_43, m_44, m_45, m_46, m_47, m_48, m_49, m_50, m_51, m_52, m_53, m_54, m_55, m_56, m_57, m_58, m_59]))]) [0] (by decide +kernel) rfl
      exact W.lret (v := 0) hx hb hr (fun t ht hW => ⟨⟨0, ((fun _ => 0, fun _ => fun _ => 0, fun _ => fun _ => 0, fun i => match i with | _ => bro, fun _ => 0, fun _ => fun _ => none) : Su), rfl, ⟨(show 0 ≤ (bro : Int32).toInt ∧ (bro : Int32).toInt ≤ 1 by omega), hE.symm, trivial⟩, (⟨by rw [ht]; exact hP9, hD9⟩ : Wd D A _ t)⟩, hS.F ht⟩) hS.2.2 dX12_reckon_161
    · have c_105i := l_eq (x := y.toInt) (y := z.toInt) rfl rfl ((lg_cmp_eq y z).mp c_105)
      replace hE := hE.trans (if_pos c_105)
      refine lv_lconst (v := 1) hx hb dX12_reckon_156 (by decide +kernel) ?_
      refine lv_goto (tgt := 161) hx hb dX12_reckon_157 (by decide +kernel) ?_
      rw [← hQ]
      have hP9 := hP.sub (ws' := [(m0, .inr (12, [m_0, m_1, m_2, m_3, m_4, m_5, m_6, m_7, m_8, m_9, m_10, m_11, m_12, m_13, m_14, m_15, m_16, m_17, m_18, m_19, m_20, m_21, m_22, m_23, m_24, m_25, m_26, m_27, m_28, m_29, m_30, m_31, m_32, m_33, m_34, m_35, m_36, m_37, .int bro, m_39, m_40, m_41, m_42, m_43, m_44, m_45, m_46, m_47, m_48, m_49, m_50, m_51, m_52, m_53, m_54, m_55, m_56, m_57, m_58, m_59]))]) [0] rfl
      have hD9 := hD.sub (ws' := [(m0, .inr (12, [m_0, m_1, m_2, m_3, m_4, m_5, m_6, m_7, m_8, m_9, m_10, m_11, m_12, m_13, m_14, m_15, m_16, m_17, m_18, m_19, m_20, m_21, m_22, m_23, m_24, m_25, m_26, m_27, m_28, m_29, m_30, m_31, m_32, m_33, m_34, m_35, m_36, m_37, .int bro, m_39, m_40, m_41, m_42, m_43, m_44, m_45, m_46, m_47, m_48, m_49, m_50, m_51, m_52, m_53, m_54, m_55, m_56, m_57, m_58, m_59]))]) [0] (by decide +kernel) rfl
      exact W.lret (v := 1) hx hb hr (fun t ht hW => ⟨⟨1, ((fun _ => 0, fun _ => fun _ => 0, fun _ => fun _ => 0, fun i => match i with | _ => bro, fun _ => 0, fun _ => fun _ => none) : Su), rfl, ⟨(show 0 ≤ (bro : Int32).toInt ∧ (bro : Int32).toInt ≤ 1 by omega), hE.symm, trivial⟩, (⟨by rw [ht]; exact hP9, hD9⟩ : Wd D A _ t)⟩, hS.F ht⟩) hS.2.2 dX12_reckon_161
set_option maxRecDepth 100000 in
noncomputable def E_v_reckonAll_j370 (v_1822 : Int32) (v_1823 : Int32) (f_1824 : Nat → Int64) : Int32 × Int64 × (Nat → Int64) :=
  if v_1822 ≤ 0 then (((v_1823, 0, f_1824) : Int32 × Int64 × (Nat → Int64))) else (Lt (f_1824 (0 : Int32).toNatClampNeg : Int64) (fun x_2125 => ((v_1823, x_2125, f_1824) : Int32 × Int64 × (Nat → Int64))))
set_option maxRecDepth 100000 in
noncomputable def E_v_reckonAll_l10 (y : Int32) (lw : Int32) (fw : Nat → Int32) (fe : Nat → Int64) (rec_2059 : Int32 → Int32 → Int32 → (Nat → Int64) → (Int32 × Int64 × (Nat → Int64))) (v_1821 : Int32) (v_1822 : Int32) (v_1823 : Int32) (f_1824 : Nat → Int64) : Int32 × Int64 × (Nat → Int64) :=
  if y ≤ v_1821 then (E_v_reckonAll_j370 v_1822 v_1823 f_1824) else (if v_1823 = 0 then (Lt (lw + 98 : Int32) (fun x_2129 => Lt (2 * v_1821 : Int32) (fun x_2130 => Lt (x_2129 + x_2130 : Int32) (fun x_2131 => Lt (fw (x_2131 : Int32).toNatClampNeg : Int32) (fun x_2132 => Lt (lw + 98 : Int32) (fun x_2134 => Lt (2 * v_1821 : Int32) (fun x_2135 => Lt (x_2134 + x_2135 : Int32) (fun x_2136 => Lt (x_2136 + 1 : Int32) (fun x_2137 => Lt (fw (x_2137 : Int32).toNatClampNeg : Int32) (fun x_2138 => Lt (v_1821 + Int32.ofInt 1 : Int32) (fun x_2139 => if 20 ≤ x_2132 then (if 28 ≤ x_2132 then (if x_2132 = 28 then (Lt (v_1822 - 1 : Int32) (fun x_2150 => Lt (v_1822 - 1 : Int32) (fun x_2151 => Lt (f_1824 (x_2151 : Int32).toNatClampNeg : Int64) (fun x_2152 => Lt (1 - x_2152 : Int64) (fun x_2153 => Lt (vp_updL f_1824 (x_2150 : Int32).toNatClampNeg x_2153 : Nat → Int64) (fun f_2154 => rec_2059 x_2139 v_1822 v_1823 f_2154)))))) else (Lt (v_1822 - 1 : Int32) (fun x_2143 => Lt (f_1824 (x_2143 : Int32).toNatClampNeg : Int64) (fun x_2144 => if x_2132 = 29 then (if (lg_cmp x_2144 0) = 0 then (rec_2059 x_2138 v_1822 v_1823 f_1824) else (Lt (v_1822 + Int32.ofInt (-1) : Int32) (fun x_2149 => rec_2059 x_2139 x_2149 v_1823 f_1824))) else (if (lg_cmp x_2144 1) = 0 then (rec_2059 x_2138 v_1822 v_1823 f_1824) else (Lt (v_1822 + Int32.ofInt (-1) : Int32) (fun x_2147 => rec_2059 x_2139 x_2147 v_1823 f_1824))))))) else (Lt (v_1822 + Int32.ofInt (-1) : Int32) (fun x_2155 => Lt (x_2155 - 1 : Int32) (fun x_2156 => Lt (x_2155 - 1 : Int32) (fun x_2157 => Lt (f_1824 (x_2157 : Int32).toNatClampNeg : Int64) (fun x_2158 => Lt (f_1824 (x_2155 : Int32).toNatClampNeg : Int64) (fun x_2159 => Lt2 (E_v_reckon x_2132 x_2158 x_2159 v_1823) (fun r_2160 u_2161_2_2_2_1_0 => Lt (vp_updL f_1824 (x_2156 : Int32).toNatClampNeg r_2160 : Nat → Int64) (fun f_2164 => if u_2161_2_2_2_1_0 = 0 then (Lt (x_2155 - 1 : Int32) (fun x_2167 => Lt (f_2164 (x_2167 : Int32).toNatClampNeg : Int64) (fun x_2168 => Lt (E_v_in x_2168 (-1000000000) 1000000000) (fun r_2169 => if r_2169 = 1 then (rec_2059 x_2139 x_2155 0 f_2164) else (rec_2059 x_2139 x_2155 1 f_2164))))) else (rec_2059 x_2139 x_2155 1 f_2164)))))))))) else (if x_2132 = 0 then (Lt ((x_2138 : Int32).toInt64 : Int64) (fun x_2183 => Lt (vp_updL f_1824 (v_1822 : Int32).toNatClampNeg x_2183 : Nat → Int64) (fun f_2184 => Lt (v_1822 + Int32.ofInt 1 : Int32) (fun x_2185 => rec_2059 x_2139 x_2185 v_1823 f_2184)))) else (Lt (fe (x_2132 : Int32).toNatClampNeg : Int64) (fun x_2180 => Lt (vp_updL f_1824 (v_1822 : Int32).toNatClampNeg x_2180 : Nat → Int64) (fun f_2181 => Lt (v_1822 + Int32.ofInt 1 : Int32) (fun x_2182 => rec_2059 x_2139 x_2182 v_1823 f_2181)))))))))))))))) else (E_v_reckonAll_j370 v_1822 v_1823 f_1824))
set_option maxRecDepth 100000 in
noncomputable def E_v_reckonAll (x : Int32) (y : Int32) (lw : Int32) (bro : Int32) (val : Int64) (sm : Int64) (fw : Nat → Int32) (fe : Nat → Int64) (frs : Nat → Int64) : Int32 × Int64 × (Nat → Int64) :=
  Lp (α := Int32 → Int32 → Int32 → (Nat → Int64) → (Int32 × Int64 × (Nat → Int64))) (E_v_reckonAll_l10 y lw fw fe) (fun _ _ _ _ => ((0, 0, fun _ => 0) : Int32 × Int64 × (Nat → Int64))) ((y.toInt - (x : Int32).toInt + 1 : Int).toNat + 1) x 0 0 frs
set_option maxHeartbeats 4000000 in
set_option maxRecDepth 100000 in
theorem v_reckonAll (l : Launch) (D : va_G) (K : Nat → ClassId) (b : Nat) (m0 : Nat) (x : Int32) (y : Int32) (m_0 : Value) (m_1 : Value) (m_2 : Value) (w0 : Nat) (m_4 : Value) (m_5 : Value) (m_6 : Value) (m_7 : Value) (m_8 : Value) (m_9 : Value) (m_10 : Value) (m_11 : Value) (m_12 : Value) (m_13 : Value) (m_14 : Value) (m_15 : Value) (m_16 : Value) (m_17 : Value) (m_18 : Value) (m_19 : Value) (m_21 : Value) (m_22 : Value) (m_23 : Value) (m_24 : Value) (m_25 : Value) (m_26 : Value) (m_27 : Value) (m_28 : Value) (m_29 : Value) (m_30 : Value) (m_31 : Value) (m_32 : Value) (m_33 : Value) (lw : Int32) (e0 : Nat) (m_36 : Value) (q0 : Nat) (bro : Int32) (val : Int64) (sm : Int64) (m_41 : Value) (m_42 : Value) (m_43 : Value) (m_44 : Value) (m_45 : Value) (m_46 : Value) (m_47 : Value) (m_48 : Value) (m_49 : Value) (m_50 : Value) (m_51 : Value) (m_52 : Value) (m_53 : Value) (m_54 : Value) (m_55 : Value) (m_56 : Value) (m_57 : Value) (m_58 : Value) (m_59 : Value) (fw : Nat → Int32) (gr : Nat → Int32) (fe : Nat → Int64) (frs : Nat → Int64) (sz : Nat) (zbro : 0 ≤ bro.toInt ∧ bro.toInt ≤ 1) (hlw : lw.toInt = ((b : Nat) : Int)) (zb : 100 ≤ b ∧ b ≤ 4600) (hseg : Seg (lop fw b) (lar fw b) x.toInt y.toInt) (zfw : RwOK fw) (zgr : FzM gr fw) : Met l yX12_reckonAll wsX12_reckonAll ({ frames := 1, cells := 0, slots := 0, locals := 25 }) (va_Pc [.ref m0, .int x, .int y] (Pre D K [(m0, .inr (12, [m_0, m_1, m_2, .ref w0, m_4, m_5, m_6, m_7, m_8, m_9, m_10, m_11, m_12, m_13, m_14, m_15, m_16, m_17, m_18, m_19, .int 0, m_21, m_22, m_23, m_24, m_25, m_26, m_27, m_28, m_29, m_30, m_31, m_32, m_33, .int lw, .ref e0, m_36, .ref q0, .int bro, .long val, .long sm, m_41, m_42, m_43, m_44, m_45, m_46, m_47, m_48, m_49, m_50, m_51, m_52, m_53, m_54, m_55, m_56, m_57, m_58, m_59])), (w0, .inl (K 0, 5500, .inl fw)), (e0, .inl (K 2, 13, .inr (.inl fe))), (q0, .inl (K 2, 400, .inr (.inl frs)))] sz)) (va_Qv (S := Su) (fun (u : Su) => (0 ≤ (u.2.2.2.1 0).toInt ∧ (u.2.2.2.1 0).toInt ≤ 1) ∧ (((u.2.2.2.1 0), (u.2.2.2.2.1 0), (u.2.2.1 0)) = E_v_reckonAll x y lw bro val sm fw fe frs) ∧ True) (fun u t => Wd D (va_A [(m0, .inr (12, [m_0, m_1, m_2, .ref w0, m_4, m_5, m_6, m_7, m_8, m_9, m_10, m_11, m_12, m_13, m_14, m_15, m_16, m_17, m_18, m_19, .int 0, m_21, m_22, m_23, m_24, m_25, m_26, m_27, m_28, m_29, m_30, m_31, m_32, m_33, .int lw, .ref e0, m_36, .ref q0, .int bro, .long val, .long sm, m_41, m_42, m_43, m_44, m_45, m_46, m_47, m_48, m_49, m_50, m_51, m_52, m_53, m_54, m_55, m_56, m_57, m_58, m_59])), (w0, .inl (K 0, 5500, .inl fw)), (e0, .inl (K 2, 13, .inr (.inl fe))), (q0, .inl (K 2, 400, .inr (.inl frs)))] sz) ((fun u => [(m0, .inr (12, [m_0, m_1, m_2, .ref w0, m_4, m_5, m_6, m_7, m_8, m_9, m_10, m_11, m_12, m_13, m_14, m_15, m_16, m_17, m_18, m_19, .int 0, m_21, m_22, m_23, m_24, m_25, m_26, m_27, m_28, m_29, m_30, m_31, m_32, m_33, .int lw, .ref e0, m_36, .ref q0, .int (u.2.2.2.1 0), .long (u.2.2.2.2.1 0), .long sm, m_41, m_42, m_43, m_44, m_45, m_46, m_47, m_48, m_49, m_50, m_51, m_52, m_53, m_54, m_55, m_56, m_57, m_58, m_59])), (w0, .inl (K 0, 5500, .inl fw)), (e0, .inl (K 2, 13, .inr (.inl fe))), (q0, .inl (K 2, 400, .inr (.inl (u.2.2.1 0))))]) u) t) (va_A [(m0, .inr (12, [m_0, m_1, m_2, .ref w0, m_4, m_5, m_6, m_7, m_8, m_9, m_10, m_11, m_12, m_13, m_14, m_15, m_16, m_17, m_18, m_19, .int 0, m_21, m_22, m_23, m_24, m_25, m_26, m_27, m_28, m_29, m_30, m_31, m_32, m_33, .int lw, .ref e0, m_36, .ref q0, .int bro, .long val, .long sm, m_41, m_42, m_43, m_44, m_45, m_46, m_47, m_48, m_49, m_50, m_51, m_52, m_53, m_54, m_55, m_56, m_57, m_58, m_59])), (w0, .inl (K 0, 5500, .inl fw)), (e0, .inl (K 2, 13, .inr (.inl fe))), (q0, .inl (K 2, 400, .inr (.inl frs)))] sz)) 0 0 (va_A [(m0, .inr (12, [m_0, m_1, m_2, .ref w0, m_4, m_5, m_6, m_7, m_8, m_9, m_10, m_11, m_12, m_13, m_14, m_15, m_16, m_17, m_18, m_19, .int 0, m_21, m_22, m_23, m_24, m_25, m_26, m_27, m_28, m_29, m_30, m_31, m_32, m_33, .int lw, .ref e0, m_36, .ref q0, .int bro, .long val, .long sm, m_41, m_42, m_43, m_44, m_45, m_46, m_47, m_48, m_49, m_50, m_51, m_52, m_53, m_54, m_55, m_56, m_57, m_58, m_59])), (w0, .inl (K 0, 5500, .inl fw)), (e0, .inl (K 2, 13, .inr (.inl fe))), (q0, .inl (K 2, 400, .inr (.inl frs)))] sz) := by
  refine Met.ofW (cc := cX12_reckonAll) (maxL := 7) (ret := none) (by decide +kernel) rfl ?_
  intro p e s m args below meth c s₁ B hml hv
  obtain ⟨rfl, hsz, hP, hK, hD0, hN⟩ := hv
  have hx := B.exec
  have hb := B.bytes
  have hr := B.returns
  have hts := atoms_spec (ws := wsX12_reckonAll) B.pre
  have hown : s.vm.findClass RX12 = some m.cls := findClass_of_methodNamed B.named
  have hlocks := B.notSynchronized
  subst hsz
  have hD := hD0.self (sz := s.heap.size)
  generalize hAe : va_A [(m0, .inr (12, [m_0, m_1, m_2, .ref w0, m_4, m_5, m_6, m_7, m_8, m_9, m_10, m_11, m_12, m_13, m_14, m_15, m_16, m_17, m_18, m_19, .int 0, m_21, m_22, m_23, m_24, m_25, m_26, m_27, m_28, m_29, m_30, m_31, m_32, m_33, .int lw, .ref e0, m_36, .ref q0, .int bro, .long val, .long sm, m_41, m_42, m_43, m_44, m_45, m_46, m_47, m_48, m_49, m_50, m_51, m_52, m_53, m_54, m_55, m_56, m_57, m_58, m_59])), (w0, .inl (K 0, 5500, .inl fw)), (e0, .inl (K 2, 13, .inr (.inl fe))), (q0, .inl (K 2, 400, .inr (.inl frs)))] s.heap.size = A at hD ⊢
  have hA : ∀ q : Nat, s.heap.size ≤ q → A q := fun q h => by rw [← hAe]; exact Or.inr h
  clear hAe
  have hS : va_S A s.heap s.heap [] := va_S.rf
  replace hP : va_P D vwCl [(m0, .inr (12, [m_0, m_1, m_2, .ref w0, m_4, m_5, m_6, m_7, m_8, m_9, m_10, m_11, m_12, m_13, m_14, m_15, m_16, m_17, m_18, m_19, .int 0, m_21, m_22, m_23, m_24, m_25, m_26, m_27, m_28, m_29, m_30, m_31, m_32, m_33, .int lw, .ref e0, m_36, .ref q0, .int bro, .long val, .long sm, m_41, m_42, m_43, m_44, m_45, m_46, m_47, m_48, m_49, m_50, m_51, m_52, m_53, m_54, m_55, m_56, m_57, m_58, m_59])), (w0, .inl (K 0, 5500, .inl fw)), (e0, .inl (K 2, 13, .inr (.inl fe))), (q0, .inl (K 2, 400, .inr (.inl frs)))] s.heap := hP
  have hl := lv_entry [.ref m0, .int x, .int y] (n := 7) (Nat.le_of_ble_eq_true rfl)
  rw [lg_entry_eq]
  generalize (lg_sl [.ref m0, .int x, .int y] ++ List.replicate (7 - (lg_sl [.ref m0, .int x, .int y]).length) Slot.unset).toArray = ls at hl ⊢
  have hl : lv_has ls 7 [(0, .ref m0), (1, .int x), (2, .int y)] := hl
  have hw12 : ∀ w ∈ wsX120, w ∈ wsX12_reckonAll := fun w h => (List.mem_cons_of_mem _ (List.mem_append_right _ h))
  generalize hQ : MQ below _ _ s _ _ _ = Q
  have hE := E_v_reckonAll.eq_def x y lw bro val sm fw fe frs
  obtain ⟨z0, z1, z2, d, d0, d1, d2⟩ := hseg
  refine lv_aload_n hx hb dX12_reckonAll_0 rfl (lv_at hl 0 rfl) ?_
  refine lv_iconst (v := 0) hx hb dX12_reckonAll_1 (by decide +kernel) ?_
  refine va_put (ci := 12) (v := .int 0) (ty := .boolean) (C := RX12) (T := TX12) (N := 60) hx hb hts hw12 tyX12 tyX12_ok nmX12 hown hK hP hD hS 0 rfl rfl 38 (by decide +kernel) (hts _ mm_X12_reckonAll_868) (fun _ h9 => h9) rfl (by decide +kernel) (by first | rfl | decide) (by first | rfl | decide) (Nat.le_of_ble_eq_true rfl) dX12_reckonAll_2 (fun H locs hP0 hD0 hS0 => ?_)
  clear hP hD hS
  have hP := hP0
  have hD := hD0
  have hS := hS0
  clear hP0 hD0 hS0
  replace hP : va_P D vwCl [(m0, .inr (12, [m_0, m_1, m_2, .ref w0, m_4, m_5, m_6, m_7, m_8, m_9, m_10, m_11, m_12, m_13, m_14, m_15, m_16, m_17, m_18, m_19, .int 0, m_21, m_22, m_23, m_24, m_25, m_26, m_27, m_28, m_29, m_30, m_31, m_32, m_33, .int lw, .ref e0, m_36, .ref q0, .int 0, .long val, .long sm, m_41, m_42, m_43, m_44, m_45, m_46, m_47, m_48, m_49, m_50, m_51, m_52, m_53, m_54, m_55, m_56, m_57, m_58, m_59])), (w0, .inl (K 0, 5500, .inl fw)), (e0, .inl (K 2, 13, .inr (.inl fe))), (q0, .inl (K 2, 400, .inr (.inl frs)))] H := hP
  replace hD : va_D A [(m0, .inr (12, [m_0, m_1, m_2, .ref w0, m_4, m_5, m_6, m_7, m_8, m_9, m_10, m_11, m_12, m_13, m_14, m_15, m_16, m_17, m_18, m_19, .int 0, m_21, m_22, m_23, m_24, m_25, m_26, m_27, m_28, m_29, m_30, m_31, m_32, m_33, .int lw, .ref e0, m_36, .ref q0, .int 0, .long val, .long sm, m_41, m_42, m_43, m_44, m_45, m_46, m_47, m_48, m_49, m_50, m_51, m_52, m_53, m_54, m_55, m_56, m_57, m_58, m_59])), (w0, .inl (K 0, 5500, .inl fw)), (e0, .inl (K 2, 13, .inr (.inl fe))), (q0, .inl (K 2, 400, .inr (.inl frs)))] := hD
  refine lv_iconst (v := 0) hx hb dX12_reckonAll_5 (by decide +kernel) ?_
  refine lv_istore_n (lv' := [(3, .int 0), (0, .ref m0), (1, .int x), (2, .int y)]) hx hb dX12_reckonAll_6 rfl hl (by decide +kernel) rfl (fun ls hl => ?_)
  refine lv_iload_n hx hb dX12_reckonAll_7 rfl (lv_at hl 2 rfl) ?_
  refine lv_istore (lv' := [(4, .int x), (3, .int 0), (0, .ref m0), (1, .int x), (2, .int y)]) hx hb dX12_reckonAll_8 hl (by decide +kernel) rfl (fun ls hl => ?_)
  have lp_2059 : ∀ (nn_ : Nat) (v_1821 : Int32) (v_1822 : Int32) (v_1823 : Int32) (f_1824 : Nat → Int64) (hv_1821 : 0 ≤ v_1821.toInt ∧ v_1821.toInt ≤ 400) (hv_1822 : 0 ≤ v_1822.toInt ∧ v_1822.toInt ≤ 400) (hv_1823 : 0 ≤ v_1823.toInt ∧ v_1823.toInt ≤ 1) (hr0_lp_2059 : v_1822.toInt = d v_1821.toInt) (hr1_lp_2059 : x.toInt ≤ v_1821.toInt ∧ v_1821.toInt ≤ y.toInt) (hn : (y.toInt - v_1821.toInt + 1 : Int).toNat < nn_) (hE : E_v_reckonAll x y lw bro val sm fw fe frs = Lp (α := Int32 → Int32 → Int32 → (Nat → Int64) → (Int32 × Int64 × (Nat → Int64))) (E_v_reckonAll_l10 y lw fw fe) (fun _ _ _ _ => ((0, 0, fun _ => 0) : Int32 × Int64 × (Nat → Int64))) nn_ v_1821 v_1822 v_1823 f_1824) (H : Heap) (locs : List Loc) (hP : va_P D vwCl [(m0, .inr (12, [m_0, m_1, m_2, .ref w0, m_4, m_5, m_6, m_7, m_8, m_9, m_10, m_11, m_12, m_13, m_14, m_15, m_16, m_17, m_18, m_19, .int 0, m_21, m_22, m_23, m_24, m_25, m_26, m_27, m_28, m_29, m_30, m_31, m_32, m_33, .int lw, .ref e0, m_36, .ref q0, .int v_1823, .long val, .long sm, m_41, m_42, m_43, m_44, m_45, m_46, m_47, m_48, m_49, m_50, m_51, m_52, m_53, m_54, m_55, m_56, m_57, m_58, m_59])), (w0, .inl (K 0, 5500, .inl fw)), (e0, .inl (K 2, 13, .inr (.inl fe))), (q0, .inl (K 2, 400, .inr (.inl f_1824)))] H) (hD : va_D A [(m0, .inr (12, [m_0, m_1, m_2, .ref w0, m_4, m_5, m_6, m_7, m_8, m_9, m_10, m_11, m_12, m_13, m_14, m_15, m_16, m_17, m_18, m_19, .int 0, m_21, m_22, m_23, m_24, m_25, m_26, m_27, m_28, m_29, m_30, m_31, m_32, m_33, .int lw, .ref e0, m_36, .ref q0, .int v_1823, .long val, .long sm, m_41, m_42, m_43, m_44, m_45, m_46, m_47, m_48, m_49, m_50, m_51, m_52, m_53, m_54, m_55, m_56, m_57, m_58, m_59])), (w0, .inl (K 0, 5500, .inl fw)), (e0, .inl (K 2, 13, .inr (.inl fe))), (q0, .inl (K 2, 400, .inr (.inl f_1824)))]) (hS : va_S A s.heap H locs) (ls : Array Slot) (hl : lv_has ls 7 [(4, .int v_1821), (3, .int v_1822), (0, .ref m0), (2, .int y)]), W p l e ({ frames := 1, cells := 0, slots := 0, locals := 25 }) s m (([.ref m0, .int x, .int y] : List Value).toArray) below meth c H locs 0 0 Q (F0 m 10 ls []) := by
    clear hE hP hD hS hl
    intro nn_
    induction nn_ with
    | zero =>
      intro v_1821 v_1822 v_1823 f_1824 hv_1821 hv_1822 hv_1823 hr0_lp_2059 hr1_lp_2059 hn hE H locs hP hD hS ls hl
      exact absurd hn (Nat.not_lt_zero _)
    | succ nn_ ih_2060 =>
      intro v_1821 v_1822 v_1823 f_1824 hv_1821 hv_1822 hv_1823 hr0_lp_2059 hr1_lp_2059 hn hE H locs hP hD hS ls hl
      replace hE : E_v_reckonAll x y lw bro val sm fw fe frs = E_v_reckonAll_l10 y lw fw fe (Lp (α := Int32 → Int32 → Int32 → (Nat → Int64) → (Int32 × Int64 × (Nat → Int64))) (E_v_reckonAll_l10 y lw fw fe) (fun _ _ _ _ => ((0, 0, fun _ => 0) : Int32 × Int64 × (Nat → Int64))) nn_) v_1821 v_1822 v_1823 f_1824 := hE
      obtain ⟨rec_2059, hrec_2059⟩ : ∃ z9, z9 = Lp (α := Int32 → Int32 → Int32 → (Nat → Int64) → (Int32 × Int64 × (Nat → Int64))) (E_v_reckonAll_l10 y lw fw fe) (fun _ _ _ _ => ((0, 0, fun _ => 0) : Int32 × Int64 × (Nat → Int64))) nn_ := ⟨_, rfl⟩
      rw [← hrec_2059] at hE
      replace hE := hE.trans (E_v_reckonAll_l10.eq_def _ _ _ _ _ _ _ _ _)
      refine lv_iload hx hb dX12_reckonAll_10 (lv_at hl 0 rfl) ?_
      refine lv_iload_n hx hb dX12_reckonAll_12 rfl (lv_at hl 3 rfl) ?_
      have j_2123 : ∀ (hE : E_v_reckonAll x y lw bro val sm fw fe frs = E_v_reckonAll_j370 v_1822 v_1823 f_1824) (H : Heap) (locs : List Loc) (hP : va_P D vwCl [(m0, .inr (12, [m_0, m_1, m_2, .ref w0, m_4, m_5, m_6, m_7, m_8, m_9, m_10, m_11, m_12, m_13, m_14, m_15, m_16, m_17, m_18, m_19, .int 0, m_21, m_22, m_23, m_24, m_25, m_26, m_27, m_28, m_29, m_30, m_31, m_32, m_33, .int lw, .ref e0, m_36, .ref q0, .int v_1823, .long val, .long sm, m_41, m_42, m_43, m_44, m_45, m_46, m_47, m_48, m_49, m_50, m_51, m_52, m_53, m_54, m_55, m_56, m_57, m_58, m_59])), (w0, .inl (K 0, 5500, .inl fw)), (e0, .inl (K 2, 13, .inr (.inl fe))), (q0, .inl (K 2, 400, .inr (.inl f_1824)))] H) (hD : va_D A [(m0, .inr (12, [m_0, m_1, m_2, .ref w0, m_4, m_5, m_6, m_7, m_8, m_9, m_10, m_11, m_12, m_13, m_14, m_15, m_16, m_17, m_18, m_19, .int 0, m_21, m_22, m_23, m_24, m_25, m_26, m_27, m_28, m_29, m_30, m_31, m_32, m_33, .int lw, .ref e0, m_36, .ref q0, .int v_1823, .long val, .long sm, m_41, m_42, m_43, m_44, m_45, m_46, m_47, m_48, m_49, m_50, m_51, m_52, m_53, m_54, m_55, m_56, m_57, m_58, m_59])), (w0, .inl (K 0, 5500, .inl fw)), (e0, .inl (K 2, 13, .inr (.inl fe))), (q0, .inl (K 2, 400, .inr (.inl f_1824)))]) (hS : va_S A s.heap H locs) (ls : Array Slot) (hl : lv_has ls 7 [(3, .int v_1822), (0, .ref m0)]), W p l e ({ frames := 1, cells := 0, slots := 0, locals := 25 }) s m (([.ref m0, .int x, .int y] : List Value).toArray) below meth c H locs 0 0 Q (F0 m 370 ls []) := by
        clear hE hP hD hS hl
        intro hE H locs hP hD hS ls hl
        replace hE := hE.trans (E_v_reckonAll_j370.eq_def _ _ _)
        refine lv_aload_n hx hb dX12_reckonAll_370 rfl (lv_at hl 1 rfl) ?_
        refine lv_iload_n hx hb dX12_reckonAll_371 rfl (lv_at hl 0 rfl) ?_
        refine lv_if_le (tgt := 384) hx hb dX12_reckonAll_372 (by decide +kernel) (fun c_2124 => ?_) (fun c_2124 => ?_)
        · have c_2124i := i_le (x := v_1822.toInt) (y := 0) rfl rfl c_2124
          replace hE := hE.trans (if_pos c_2124)
          refine lv_lconst (v := 0) hx hb dX12_reckonAll_384 (by decide +kernel) ?_
          refine va_put (ci := 12) (v := .long 0) (ty := .long) (C := RX12) (T := TX12) (N := 60) hx hb hts hw12 tyX12 tyX12_ok nmX12 hown hK hP hD hS 0 rfl rfl 39 (by decide +kernel) (hts _ mm_X12_reckonAll_869) (fun _ h9 => h9) rfl (by decide +kernel) (by first | rfl | decide) (by first | rfl | decide) (Nat.le_of_ble_eq_true rfl) dX12_reckonAll_385 (fun H locs hP0 hD0 hS0 => ?_)
          clear hP hD hS
          have hP := hP0
          have hD := hD0
          have hS := hS0
          clear hP0 hD0 hS0
          replace hP : va_P D vwCl [(m0, .inr (12, [m_0, m_1, m_2, .ref w0, m_4, m_5, m_6, m_7, m_8, m_9, m_10, m_11, m_12, m_13, m_14, m_15, m_16, m_17, m_18, m_19, .int 0, m_21, m_22, m_23, m_24, m_25, m_26, m_27, m_28, m_29, m_30, m_31, m_32, m_33, .int lw, .ref e0, m_36, .ref q0, .int v_1823, .long 0, .long sm, m_41, m_42, m_43, m_44, m_45, m_46, m_47, m_48, m_49, m_50, m_51, m_52, m_53, m_54, m_55, m_56, m_57, m_58, m_59])), (w0, .inl (K 0, 5500, .inl fw)), (e0, .inl (K 2, 13, .inr (.inl fe))), (q0, .inl (K 2, 400, .inr (.inl f_1824)))] H := hP
          replace hD : va_D A [(m0, .inr (12, [m_0, m_1, m_2, .ref w0, m_4, m_5, m_6, m_7, m_8, m_9, m_10, m_11, m_12, m_13, m_14, m_15, m_16, m_17, m_18, m_19, .int 0, m_21, m_22, m_23, m_24, m_25, m_26, m_27, m_28, m_29, m_30, m_31, m_32, m_33, .int lw, .ref e0, m_36, .ref q0, .int v_1823, .long 0, .long sm, m_41, m_42, m_43, m_44, m_45, m_46, m_47, m_48, m_49, m_50, m_51, m_52, m_53, m_54, m_55, m_56, m_57, m_58, m_59])), (w0, .inl (K 0, 5500, .inl fw)), (e0, .inl (K 2, 13, .inr (.inl fe))), (q0, .inl (K 2, 400, .inr (.inl f_1824)))] := hD
          rw [← hQ]
          have hP9 := hP.sub (ws' := [(m0, .inr (12, [m_0, m_1, m_2, .ref w0, m_4, m_5, m_6, m_7, m_8, m_9, m_10, m_11, m_12, m_13, m_14, m_15, m_16, m_17, m_18, m_19, .int 0, m_21, m_22, m_23, m_24, m_25, m_26, m_27, m_28, m_29, m_30, m_31, m_32, m_33, .int lw, .ref e0, m_36, .ref q0, .int v_1823, .long 0, .long sm, m_41, m_42, m_43, m_44, m_45, m_46, m_47, m_48, m_49, m_50, m_51, m_52, m_53, m_54, m_55, m_56, m_57, m_58, m_59])), (w0, .inl (K 0, 5500, .inl fw)), (e0, .inl (K 2, 13, .inr (.inl fe))), (q0, .inl (K 2, 400, .inr (.inl f_1824)))]) [0, 1, 2, 3] rfl
          have hD9 := hD.sub (ws' := [(m0, .inr (12, [m_0, m_1, m_2, .ref w0, m_4, m_5, m_6, m_7, m_8, m_9, m_10, m_11, m_12, m_13, m_14, m_15, m_16, m_17, m_18, m_19, .int 0, m_21, m_22, m_23, m_24, m_25, m_26, m_27, m_28, m_29, m_30, m_31, m_32, m_33, .int lw, .ref e0, m_36, .ref q0, .int v_1823, .long 0, .long sm, m_41, m_42, m_43, m_44, m_45, m_46, m_47, m_48, m_49, m_50, m_51, m_52, m_53, m_54, m_55, m_56, m_57, m_58, m_59])), (w0, .inl (K 0, 5500, .inl fw)), (e0, .inl (K 2, 13, .inr (.inl fe))), (q0, .inl (K 2, 400, .inr (.inl f_1824)))]) [0, 1, 2, 3] (by decide +kernel) rfl
          exact W.vret hx hb hr (fun t ht hW => ⟨⟨((fun _ => 0, fun _ => fun _ => 0, fun i => match i with | _ => f_1824, fun i => match i with | _ => v_1823, fun i => match i with | _ => 0, fun _ => fun _ => none) : Su), rfl, ⟨(show 0 ≤ (v_1823 : Int32).toInt ∧ (v_1823 : Int32).toInt ≤ 1 by omega), hE.symm, trivial⟩, (⟨by rw [ht]; exact hP9, hD9⟩ : Wd D A _ t)⟩, hS.F ht⟩) hS.2.2 dX12_reckonAll_388
        · have c_2124i := i_nle (x := v_1822.toInt) (y := 0) rfl rfl c_2124
          replace hE := hE.trans (if_neg c_2124)
          refine lv_aload_n hx hb dX12_reckonAll_375 rfl (lv_at hl 1 rfl) ?_
          refine va_get (ci := 12) (v := .ref q0) (C := RX12) (T := TX12) (N := 60) hx hb hts hw12 hown hK hP 0 rfl rfl 37 (by decide +kernel) (hts _ mm_X12_reckonAll_867) (fun _ h9 => h9) rfl dX12_reckonAll_376 ?_
          refine lv_iconst (v := 0) hx hb dX12_reckonAll_379 (by decide +kernel) ?_
          refine va_lald hx hb hK hP 3 2 rfl rfl (i_in (x := 0) rfl (by omega)) dX12_reckonAll_380 ?_
          refine lv_topl (fun x_2125 ex_2125 => ?_)
          replace hE := hE.trans (Lt_in ex_2125)
          refine lv_goto (tgt := 385) hx hb dX12_reckonAll_381 (by decide +kernel) ?_
          refine va_put (ci := 12) (v := .long x_2125) (ty := .long) (C := RX12) (T := TX12) (N := 60) hx hb hts hw12 tyX12 tyX12_ok nmX12 hown hK hP hD hS 0 rfl rfl 39 (by decide +kernel) (hts _ mm_X12_reckonAll_869) (fun _ h9 => h9) rfl (by decide +kernel) (by first | rfl | decide) (by first | rfl | decide) (Nat.le_of_ble_eq_true rfl) dX12_reckonAll_385 (fun H locs hP0 hD0 hS0 => ?_)
          clear hP hD hS
          have hP := hP0
          have hD := hD0
          have hS := hS0
          clear hP0 hD0 hS0
          replace hP : va_P D vwCl [(m0, .inr (12, [m_0, m_1, m_2, .ref w0, m_4, m_5, m_6, m_7, m_8, m_9, m_10, m_11, m_12, m_13, m_14, m_15, m_16, m_17, m_18, m_19, .int 0, m_21, m_22, m_23, m_24, m_25, m_26, m_27, m_28, m_29, m_30, m_31, m_32, m_33, .int lw, .ref e0, m_36, .ref q0, .int v_1823, .long x_2125, .long sm, m_41, m_42, m_43, m_44, m_45, m_46, m_47, m_48, m_49, m_50, m_51, m_52, m_53, m_54, m_55, m_56, m_57, m_58, m_59])), (w0, .inl (K 0, 5500, .inl fw)), (e0, .inl (K 2, 13, .inr (.inl fe))), (q0, .inl (K 2, 400, .inr (.inl f_1824)))] H := hP
          replace hD : va_D A [(m0, .inr (12, [m_0, m_1, m_2, .ref w0, m_4, m_5, m_6, m_7, m_8, m_9, m_10, m_11, m_12, m_13, m_14, m_15, m_16, m_17, m_18, m_19, .int 0, m_21, m_22, m_23, m_24, m_25, m_26, m_27, m_28, m_29, m_30, m_31, m_32, m_33, .int lw, .ref e0, m_36, .ref q0, .int v_1823, .long x_2125, .long sm, m_41, m_42, m_43, m_44, m_45, m_46, m_47, m_48, m_49, m_50, m_51, m_52, m_53, m_54, m_55, m_56, m_57, m_58, m_59])), (w0, .inl (K 0, 5500, .inl fw)), (e0, .inl (K 2, 13, .inr (.inl fe))), (q0, .inl (K 2, 400, .inr (.inl f_1824)))] := hD
          rw [← hQ]
          have hP9 := hP.sub (ws' := [(m0, .inr (12, [m_0, m_1, m_2, .ref w0, m_4, m_5, m_6, m_7, m_8, m_9, m_10, m_11, m_12, m_13, m_14, m_15, m_16, m_17, m_18, m_19, .int 0, m_21, m_22, m_23, m_24, m_25, m_26, m_27, m_28, m_29, m_30, m_31, m_32, m_33, .int lw, .ref e0, m_36, .ref q0, .int v_1823, .long x_2125, .long sm, m_41, m_42, m_43, m_44, m_45, m_46, m_47, m_48, m_49, m_50, m_51, m_52, m_53, m_54, m_55, m_56, m_57, m_58, m_59])), (w0, .inl (K 0, 5500, .inl fw)), (e0, .inl (K 2, 13, .inr (.inl fe))), (q0, .inl (K 2, 400, .inr (.inl f_1824)))]) [0, 1, 2, 3] rfl
          have hD9 := hD.sub (ws' := [(m0, .inr (12, [m_0, m_1, m_2, .ref w0, m_4, m_5, m_6, m_7, m_8, m_9, m_10, m_11, m_12, m_13, m_14, m_15, m_16, m_17, m_18, m_19, .int 0, m_21, m_22, m_23, m_24, m_25, m_26, m_27, m_28, m_29, m_30, m_31, m_32, m_33, .int lw, .ref e0, m_36, .ref q0, .int v_1823, .long x_2125, .long sm, m_41, m_42, m_43, m_44, m_45, m_46, m_47, m_48, m_49, m_50, m_51, m_52, m_53, m_54, m_55, m_56, m_57, m_58, m_59])), (w0, .inl (K 0, 5500, .inl fw)), (e0, .inl (K 2, 13, .inr (.inl fe))), (q0, .inl (K 2, 400, .inr (.inl f_1824)))]) [0, 1, 2, 3] (by decide +kernel) rfl
          exact W.vret hx hb hr (fun t ht hW => ⟨⟨((fun _ => 0, fun _ => fun _ => 0, fun i => match i with | _ => f_1824, fun i => match i with | _ => v_1823, fun i => match i with | _ => x_2125, fun _ => fun _ => none) : Su), rfl, ⟨(show 0 ≤ (v_1823 : Int32).toInt ∧ (v_1823 : Int32).toInt ≤ 1 by omega), hE.symm, trivial⟩, (⟨by rw [ht]; exact hP9, hD9⟩ : Wd D A _ t)⟩, hS.F ht⟩) hS.2.2 dX12_reckonAll_388
      refine lv_icmp_ge (tgt := 370) hx hb dX12_reckonAll_13 (by decide +kernel) (fun c_2126 => ?_) (fun c_2126 => ?_)
      · have c_2126i := i_le (x := y.toInt) (y := v_1821.toInt) rfl rfl c_2126
        replace hE := hE.trans (if_pos c_2126)
        exact j_2123   hE _ _ hP hD hS ls (lv_sub hl [1, 2] rfl)
      · have c_2126i := i_nle (x := y.toInt) (y := v_1821.toInt) rfl rfl c_2126
        replace hE := hE.trans (if_neg c_2126)
        refine lv_aload_n hx hb dX12_reckonAll_16 rfl (lv_at hl 2 rfl) ?_
        refine va_get (ci := 12) (v := .int v_1823) (C := RX12) (T := TX12) (N := 60) hx hb hts hw12 hown hK hP 0 rfl rfl 38 (by decide +kernel) (hts _ mm_X12_reckonAll_868) (fun _ h9 => h9) rfl dX12_reckonAll_17 ?_
        refine lv_if_ne (tgt := 370) hx hb dX12_reckonAll_20 (by decide +kernel) (fun c_2127 => ?_) (fun c_2127 => ?_)
        · have c_2127i := i_ne (x := v_1823.toInt) (y := 0) rfl rfl c_2127
          replace hE := hE.trans (if_neg c_2127)
          exact j_2123   hE _ _ hP hD hS ls (lv_sub hl [1, 2] rfl)
        · have c_2127i := i_eq (x := v_1823.toInt) (y := 0) rfl rfl c_2127
          replace hE := hE.trans (if_pos c_2127)
          refine lv_aload_n hx hb dX12_reckonAll_23 rfl (lv_at hl 2 rfl) ?_
          refine va_get (ci := 12) (v := .int 0) (C := RX12) (T := TX12) (N := 60) hx hb hts hw12 hown hK hP 0 rfl rfl 20 (by decide +kernel) (hts _ mm_X12_reckonAll_850) (fun _ h9 => h9) rfl dX12_reckonAll_24 ?_
          refine lv_if_eq (tgt := 40) hx hb dX12_reckonAll_27 (by decide +kernel) (fun c_2128 => ?_) (fun c_2128 => absurd (by decide +kernel) c_2128)
          refine lv_aload_n hx hb dX12_reckonAll_40 rfl (lv_at hl 2 rfl) ?_
          refine va_get (ci := 12) (v := .ref w0) (C := RX12) (T := TX12) (N := 60) hx hb hts hw12 hown hK hP 0 rfl rfl 3 (by decide +kernel) (hts _ mm_X12_reckonAll_833) (fun _ h9 => h9) rfl dX12_reckonAll_41 ?_
          refine lv_aload_n hx hb dX12_reckonAll_44 rfl (lv_at hl 2 rfl) ?_
          refine va_get (ci := 12) (v := .int lw) (C := RX12) (T := TX12) (N := 60) hx hb hts hw12 hown hK hP 0 rfl rfl 34 (by decide +kernel) (hts _ mm_X12_reckonAll_864) (fun _ h9 => h9) rfl dX12_reckonAll_45 ?_
          refine lv_bipush (v := 98) hx hb dX12_reckonAll_48 (by decide +kernel) ?_
          refine lv_iadd hx hb dX12_reckonAll_50 ?_
          refine lv_topi (fun x_2129 ex_2129 => ?_)
          replace hE := hE.trans (Lt_in ex_2129)
          have hx_2129 : x_2129.toInt = (lw.toInt + 98) := by rw [ex_2129]; exact i_add rfl (show (98 : Int32).toInt = 98 from rfl) (by omega)
          refine lv_iconst (v := 2) hx hb dX12_reckonAll_51 (by decide +kernel) ?_
          refine lv_iload hx hb dX12_reckonAll_52 (lv_at hl 0 rfl) ?_
          refine lv_imul hx hb dX12_reckonAll_54 ?_
          refine lv_topi (fun x_2130 ex_2130 => ?_)
          replace hE := hE.trans (Lt_in ex_2130)
          have hx_2130 : x_2130.toInt = (2 * v_1821.toInt) := by rw [ex_2130]; exact i_mul (show (2 : Int32).toInt = 2 from rfl) rfl (by omega)
          refine lv_iadd hx hb dX12_reckonAll_55 ?_
          refine lv_topi (fun x_2131 ex_2131 => ?_)
          replace hE := hE.trans (Lt_in ex_2131)
          have hx_2131 : x_2131.toInt = ((lw.toInt + 98) + (2 * v_1821.toInt)) := by rw [ex_2131]; exact i_add hx_2129 hx_2130 (by omega)
          refine va_iald hx hb hK hP 1 0 rfl rfl (i_in hx_2131 (by omega)) dX12_reckonAll_56 ?_
          refine lv_topi (fun x_2132 ex_2132 => ?_)
          replace hE := hE.trans (Lt_in ex_2132)
          have ox_2132 : x_2132.toInt = lop fw b v_1821.toInt := by rw [ex_2132, i_clamp hx_2131, show (((lw.toInt + 98) + (2 * v_1821.toInt))).toNat = b + 98 + 2 * (v_1821.toInt).toNat by omega]; rfl
          refine lv_istore (lv' := [(5, .int x_2132), (4, .int v_1821), (3, .int v_1822), (0, .ref m0), (2, .int y)]) hx hb dX12_reckonAll_57 hl (by decide +kernel) rfl (fun ls hl => ?_)
          refine lv_aload_n hx hb dX12_reckonAll_59 rfl (lv_at hl 3 rfl) ?_
          refine va_get (ci := 12) (v := .int 0) (C := RX12) (T := TX12) (N := 60) hx hb hts hw12 hown hK hP 0 rfl rfl 20 (by decide +kernel) (hts _ mm_X12_reckonAll_850) (fun _ h9 => h9) rfl dX12_reckonAll_60 ?_
          refine lv_if_eq (tgt := 76) hx hb dX12_reckonAll_63 (by decide +kernel) (fun c_2133 => ?_) (fun c_2133 => absurd (by decide +kernel) c_2133)
          refine lv_aload_n hx hb dX12_reckonAll_76 rfl (lv_at hl 3 rfl) ?_
          refine va_get (ci := 12) (v := .ref w0) (C := RX12) (T := TX12) (N := 60) hx hb hts hw12 hown hK hP 0 rfl rfl 3 (by decide +kernel) (hts _ mm_X12_reckonAll_833) (fun _ h9 => h9) rfl dX12_reckonAll_77 ?_
          refine lv_aload_n hx hb dX12_reckonAll_80 rfl (lv_at hl 3 rfl) ?_
          refine va_get (ci := 12) (v := .int lw) (C := RX12) (T := TX12) (N := 60) hx hb hts hw12 hown hK hP 0 rfl rfl 34 (by decide +kernel) (hts _ mm_X12_reckonAll_864) (fun _ h9 => h9) rfl dX12_reckonAll_81 ?_
          refine lv_bipush (v := 98) hx hb dX12_reckonAll_84 (by decide +kernel) ?_
          refine lv_iadd hx hb dX12_reckonAll_86 ?_
          refine lv_topi (fun x_2134 ex_2134 => ?_)
          replace hE := hE.trans (Lt_in ex_2134)
          have hx_2134 : x_2134.toInt = (lw.toInt + 98) := by rw [ex_2134]; exact i_add rfl (show (98 : Int32).toInt = 98 from rfl) (by omega)
          refine lv_iconst (v := 2) hx hb dX12_reckonAll_87 (by decide +kernel) ?_
          refine lv_iload hx hb dX12_reckonAll_88 (lv_at hl 1 rfl) ?_
          refine lv_imul hx hb dX12_reckonAll_90 ?_
          refine lv_topi (fun x_2135 ex_2135 => ?_)
          replace hE := hE.trans (Lt_in ex_2135)
          have hx_2135 : x_2135.toInt = (2 * v_1821.toInt) := by rw [ex_2135]; exact i_mul (show (2 : Int32).toInt = 2 from rfl) rfl (by omega)
          refine lv_iadd hx hb dX12_reckonAll_91 ?_
          refine lv_topi (fun x_2136 ex_2136 => ?_)
          replace hE := hE.trans (Lt_in ex_2136)
          have hx_2136 : x_2136.toInt = ((lw.toInt + 98) + (2 * v_1821.toInt)) := by rw [ex_2136]; exact i_add hx_2134 hx_2135 (by omega)
          refine lv_iconst (v := 1) hx hb dX12_reckonAll_92 (by decide +kernel) ?_
          refine lv_iadd hx hb dX12_reckonAll_93 ?_
          refine lv_topi (fun x_2137 ex_2137 => ?_)
          replace hE := hE.trans (Lt_in ex_2137)
          have hx_2137 : x_2137.toInt = (((lw.toInt + 98) + (2 * v_1821.toInt)) + 1) := by rw [ex_2137]; exact i_add hx_2136 (show (1 : Int32).toInt = 1 from rfl) (by omega)
          refine va_iald hx hb hK hP 1 0 rfl rfl (i_in hx_2137 (by omega)) dX12_reckonAll_94 ?_
          refine lv_topi (fun x_2138 ex_2138 => ?_)
          replace hE := hE.trans (Lt_in ex_2138)
          have ox_2138 : x_2138.toInt = lar fw b v_1821.toInt := by rw [ex_2138, i_clamp hx_2137, show ((((lw.toInt + 98) + (2 * v_1821.toInt)) + 1)).toNat = b + 98 + 2 * (v_1821.toInt).toNat + 1 by omega]; rfl
          refine lv_istore (lv' := [(6, .int x_2138), (5, .int x_2132), (4, .int v_1821), (3, .int v_1822), (0, .ref m0), (2, .int y)]) hx hb dX12_reckonAll_95 hl (by decide +kernel) rfl (fun ls hl => ?_)
          have hst : Sstp x_2132.toInt x_2138.toInt v_1821.toInt y.toInt d := by rw [ox_2132, ox_2138]; exact d2 v_1821.toInt (by omega) (by omega)
          unfold Sstp at hst
          have hdk := d1 v_1821.toInt (by omega) (by omega)
          have hdl := d1 (v_1821.toInt + 1) (by omega) (by omega)
          obtain ⟨x_2139, ex_2139⟩ : ∃ y : Int32, y = v_1821 + Int32.ofInt 1 := ⟨_, rfl⟩
          replace hE := hE.trans (Lt_in ex_2139)
          have hx_2139 : x_2139.toInt = (v_1821.toInt + 1) := by rw [ex_2139]; exact i_add rfl (show (Int32.ofInt 1).toInt = 1 from rfl) (by omega)
          refine lv_iinc (v := x_2139) (lv' := [(4, .int x_2139), (6, .int x_2138), (5, .int x_2132), (3, .int v_1822), (0, .ref m0), (2, .int y)]) hx hb dX12_reckonAll_97 hl (k := 2) rfl (by rw [ex_2139]) (by decide +kernel) rfl (fun ls hl => ?_)
          refine lv_iload hx hb dX12_reckonAll_100 (lv_at hl 2 rfl) ?_
          refine lv_bipush (v := 20) hx hb dX12_reckonAll_102 (by decide +kernel) ?_
          refine lv_icmp_ge (tgt := 228) hx hb dX12_reckonAll_104 (by decide +kernel) (fun c_2140 => ?_) (fun c_2140 => ?_)
          · have c_2140i := i_le (x := 20) (y := x_2132.toInt) rfl rfl c_2140
            replace hE := hE.trans (if_pos c_2140)
            refine lv_iload hx hb dX12_reckonAll_228 (lv_at hl 2 rfl) ?_
            refine lv_bipush (v := 28) hx hb dX12_reckonAll_230 (by decide +kernel) ?_
            refine lv_icmp_ge (tgt := 305) hx hb dX12_reckonAll_232 (by decide +kernel) (fun c_2141 => ?_) (fun c_2141 => ?_)
            · have c_2141i := i_le (x := 28) (y := x_2132.toInt) rfl rfl c_2141
              replace hE := hE.trans (if_pos c_2141)
              refine lv_iload hx hb dX12_reckonAll_305 (lv_at hl 2 rfl) ?_
              refine lv_bipush (v := 28) hx hb dX12_reckonAll_307 (by decide +kernel) ?_
              refine lv_icmp_ne (tgt := 333) hx hb dX12_reckonAll_309 (by decide +kernel) (fun c_2142 => ?_) (fun c_2142 => ?_)
              · have c_2142i := i_ne (x := x_2132.toInt) (y := 28) rfl rfl c_2142
                replace hE := hE.trans (if_neg c_2142)
                replace hst : 1 ≤ d v_1821.toInt ∧ d (v_1821.toInt + 1) = d v_1821.toInt - 1 ∧ v_1821.toInt < x_2138.toInt ∧ x_2138.toInt ≤ y.toInt ∧ d x_2138.toInt = d v_1821.toInt := by omega
                refine lv_aload_n hx hb dX12_reckonAll_333 rfl (lv_at hl 4 rfl) ?_
                refine va_get (ci := 12) (v := .ref q0) (C := RX12) (T := TX12) (N := 60) hx hb hts hw12 hown hK hP 0 rfl rfl 37 (by decide +kernel) (hts _ mm_X12_reckonAll_867) (fun _ h9 => h9) rfl dX12_reckonAll_334 ?_
                refine lv_iload_n hx hb dX12_reckonAll_337 rfl (lv_at hl 3 rfl) ?_
                refine lv_iconst (v := 1) hx hb dX12_reckonAll_338 (by decide +kernel) ?_
                refine lv_isub hx hb dX12_reckonAll_339 ?_
                refine lv_topi (fun x_2143 ex_2143 => ?_)
                replace hE := hE.trans (Lt_in ex_2143)
                have hx_2143 : x_2143.toInt = (v_1822.toInt - 1) := by rw [ex_2143]; exact i_sub rfl (show (1 : Int32).toInt = 1 from rfl) (by omega)
                refine va_lald hx hb hK hP 3 2 rfl rfl (i_in hx_2143 (by omega)) dX12_reckonAll_340 ?_
                refine lv_topl (fun x_2144 ex_2144 => ?_)
                replace hE := hE.trans (Lt_in ex_2144)
                refine lv_iload hx hb dX12_reckonAll_341 (lv_at hl 2 rfl) ?_
                refine lv_bipush (v := 29) hx hb dX12_reckonAll_343 (by decide +kernel) ?_
                refine lv_icmp_ne (tgt := 352) hx hb dX12_reckonAll_345 (by decide +kernel) (fun c_2145 => ?_) (fun c_2145 => ?_)
                · have c_2145i := i_ne (x := x_2132.toInt) (y := 29) rfl rfl c_2145
                  replace hE := hE.trans (if_neg c_2145)
                  refine lv_lconst (v := 1) hx hb dX12_reckonAll_352 (by decide +kernel) ?_
                  refine W.lcmp hx hb dX12_reckonAll_353 ?_
                  refine lv_if_ne (tgt := 364) hx hb dX12_reckonAll_354 (by decide +kernel) (fun c_2146 => ?_) (fun c_2146 => ?_)
                  · have c_2146i := l_ne (x := x_2144.toInt) (y := 1) rfl rfl (fun q => c_2146 ((lg_cmp_eq x_2144 1).mpr q))
                    replace hE := hE.trans (if_neg c_2146)
                    obtain ⟨x_2147, ex_2147⟩ : ∃ y : Int32, y = v_1822 + Int32.ofInt (-1) := ⟨_, rfl⟩
                    replace hE := hE.trans (Lt_in ex_2147)
                    have hx_2147 : x_2147.toInt = (v_1822.toInt + (-1)) := by rw [ex_2147]; exact i_add rfl (show (Int32.ofInt (-1)).toInt = (-1) from rfl) (by omega)
                    refine lv_iinc (v := x_2147) (lv' := [(3, .int x_2147), (4, .int x_2139), (6, .int x_2138), (5, .int x_2132), (0, .ref m0), (2, .int y)]) hx hb dX12_reckonAll_364 hl (k := 3) rfl (by rw [ex_2147]) (by decide +kernel) rfl (fun ls hl => ?_)
                    refine lv_goto (tgt := 10) hx hb dX12_reckonAll_367 (by decide +kernel) ?_
                    exact ih_2060 x_2139 x_2147 v_1823 f_1824 (by rw [hx_2139]; omega) (by rw [hx_2147]; omega) (by omega) (show (x_2147 : Int32).toInt = d (x_2139 : Int32).toInt by rw [hx_2139]; omega) (show x.toInt ≤ (x_2139 : Int32).toInt ∧ (x_2139 : Int32).toInt ≤ y.toInt by omega) (by omega) (hE.trans (by rw [hrec_2059])) _ _ hP hD hS ls (lv_sub hl [1, 0, 4, 5] rfl)
                  · have c_2146i := l_eq (x := x_2144.toInt) (y := 1) rfl rfl ((lg_cmp_eq x_2144 1).mp c_2146)
                    replace hE := hE.trans (if_pos c_2146)
                    refine lv_iload hx hb dX12_reckonAll_357 (lv_at hl 1 rfl) ?_
                    refine lv_istore (lv' := [(4, .int x_2138), (6, .int x_2138), (5, .int x_2132), (3, .int v_1822), (0, .ref m0), (2, .int y)]) hx hb dX12_reckonAll_359 hl (by decide +kernel) rfl (fun ls hl => ?_)
                    refine lv_goto (tgt := 367) hx hb dX12_reckonAll_361 (by decide +kernel) ?_
                    refine lv_goto (tgt := 10) hx hb dX12_reckonAll_367 (by decide +kernel) ?_
                    exact ih_2060 x_2138 v_1822 v_1823 f_1824 (by omega) (by omega) (by omega) (show (v_1822 : Int32).toInt = d (x_2138 : Int32).toInt by omega) (show x.toInt ≤ (x_2138 : Int32).toInt ∧ (x_2138 : Int32).toInt ≤ y.toInt by omega) (by omega) (hE.trans (by rw [hrec_2059])) _ _ hP hD hS ls (lv_sub hl [0, 3, 4, 5] rfl)
                · have c_2145i := i_eq (x := x_2132.toInt) (y := 29) rfl rfl c_2145
                  replace hE := hE.trans (if_pos c_2145)
                  refine lv_lconst (v := 0) hx hb dX12_reckonAll_348 (by decide +kernel) ?_
                  refine lv_goto (tgt := 353) hx hb dX12_reckonAll_349 (by decide +kernel) ?_
                  refine W.lcmp hx hb dX12_reckonAll_353 ?_
                  refine lv_if_ne (tgt := 364) hx hb dX12_reckonAll_354 (by decide +kernel) (fun c_2148 => ?_) (fun c_2148 => ?_)
                  · have c_2148i := l_ne (x := x_2144.toInt) (y := 0) rfl rfl (fun q => c_2148 ((lg_cmp_eq x_2144 0).mpr q))
                    replace hE := hE.trans (if_neg c_2148)
                    obtain ⟨x_2149, ex_2149⟩ : ∃ y : Int32, y = v_1822 + Int32.ofInt (-1) := ⟨_, rfl⟩
                    replace hE := hE.trans (Lt_in ex_2149)
                    have hx_2149 : x_2149.toInt = (v_1822.toInt + (-1)) := by rw [ex_2149]; exact i_add rfl (show (Int32.ofInt (-1)).toInt = (-1) from rfl) (by omega)
                    refine lv_iinc (v := x_2149) (lv' := [(3, .int x_2149), (4, .int x_2139), (6, .int x_2138), (5, .int x_2132), (0, .ref m0), (2, .int y)]) hx hb dX12_reckonAll_364 hl (k := 3) rfl (by rw [ex_2149]) (by decide +kernel) rfl (fun ls hl => ?_)
                    refine lv_goto (tgt := 10) hx hb dX12_reckonAll_367 (by decide +kernel) ?_
                    exact ih_2060 x_2139 x_2149 v_1823 f_1824 (by rw [hx_2139]; omega) (by rw [hx_2149]; omega) (by omega) (show (x_2149 : Int32).toInt = d (x_2139 : Int32).toInt by rw [hx_2139]; omega) (show x.toInt ≤ (x_2139 : Int32).toInt ∧ (x_2139 : Int32).toInt ≤ y.toInt by omega) (by omega) (hE.trans (by rw [hrec_2059])) _ _ hP hD hS ls (lv_sub hl [1, 0, 4, 5] rfl)
                  · have c_2148i := l_eq (x := x_2144.toInt) (y := 0) rfl rfl ((lg_cmp_eq x_2144 0).mp c_2148)
                    replace hE := hE.trans (if_pos c_2148)
                    refine lv_iload hx hb dX12_reckonAll_357 (lv_at hl 1 rfl) ?_
                    refine lv_istore (lv' := [(4, .int x_2138), (6, .int x_2138), (5, .int x_2132), (3, .int v_1822), (0, .ref m0), (2, .int y)]) hx hb dX12_reckonAll_359 hl (by decide +kernel) rfl (fun ls hl => ?_)
                    refine lv_goto (tgt := 367) hx hb dX12_reckonAll_361 (by decide +kernel) ?_
                    refine lv_goto (tgt := 10) hx hb dX12_reckonAll_367 (by decide +kernel) ?_
                    exact ih_2060 x_2138 v_1822 v_1823 f_1824 (by omega) (by omega) (by omega) (show (v_1822 : Int32).toInt = d (x_2138 : Int32).toInt by omega) (show x.toInt ≤ (x_2138 : Int32).toInt ∧ (x_2138 : Int32).toInt ≤ y.toInt by omega) (by omega) (hE.trans (by rw [hrec_2059])) _ _ hP hD hS ls (lv_sub hl [0, 3, 4, 5] rfl)
              · have c_2142i := i_eq (x := x_2132.toInt) (y := 28) rfl rfl c_2142
                replace hE := hE.trans (if_pos c_2142)
                replace hst : 1 ≤ d v_1821.toInt ∧ d (v_1821.toInt + 1) = d v_1821.toInt := by omega
                refine lv_aload_n hx hb dX12_reckonAll_312 rfl (lv_at hl 4 rfl) ?_
                refine va_get (ci := 12) (v := .ref q0) (C := RX12) (T := TX12) (N := 60) hx hb hts hw12 hown hK hP 0 rfl rfl 37 (by decide +kernel) (hts _ mm_X12_reckonAll_867) (fun _ h9 => h9) rfl dX12_reckonAll_313 ?_
                refine lv_iload_n hx hb dX12_reckonAll_316 rfl (lv_at hl 3 rfl) ?_
                refine lv_iconst (v := 1) hx hb dX12_reckonAll_317 (by decide +kernel) ?_
                refine lv_isub hx hb dX12_reckonAll_318 ?_
                refine lv_topi (fun x_2150 ex_2150 => ?_)
                replace hE := hE.trans (Lt_in ex_2150)
                have hx_2150 : x_2150.toInt = (v_1822.toInt - 1) := by rw [ex_2150]; exact i_sub rfl (show (1 : Int32).toInt = 1 from rfl) (by omega)
                refine lv_lconst (v := 1) hx hb dX12_reckonAll_319 (by decide +kernel) ?_
                refine lv_aload_n hx hb dX12_reckonAll_320 rfl (lv_at hl 4 rfl) ?_
                refine va_get (ci := 12) (v := .ref q0) (C := RX12) (T := TX12) (N := 60) hx hb hts hw12 hown hK hP 0 rfl rfl 37 (by decide +kernel) (hts _ mm_X12_reckonAll_867) (fun _ h9 => h9) rfl dX12_reckonAll_321 ?_
                refine lv_iload_n hx hb dX12_reckonAll_324 rfl (lv_at hl 3 rfl) ?_
                refine lv_iconst (v := 1) hx hb dX12_reckonAll_325 (by decide +kernel) ?_
                refine lv_isub hx hb dX12_reckonAll_326 ?_
                refine lv_topi (fun x_2151 ex_2151 => ?_)
                replace hE := hE.trans (Lt_in ex_2151)
                have hx_2151 : x_2151.toInt = (v_1822.toInt - 1) := by rw [ex_2151]; exact i_sub rfl (show (1 : Int32).toInt = 1 from rfl) (by omega)
                refine va_lald hx hb hK hP 3 2 rfl rfl (i_in hx_2151 (by omega)) dX12_reckonAll_327 ?_
                refine lv_topl (fun x_2152 ex_2152 => ?_)
                replace hE := hE.trans (Lt_in ex_2152)
                refine lv_lsub hx hb dX12_reckonAll_328 ?_
                refine lv_topl (fun x_2153 ex_2153 => ?_)
                replace hE := hE.trans (Lt_in ex_2153)
                refine va_last hx hb hK hP hD hS 3 2 rfl rfl (i_in hx_2150 (by omega)) dX12_reckonAll_329 (fun H locs hP0 hD0 hS0 => ?_)
                clear hP hD hS
                have hP := hP0
                have hD := hD0
                have hS := hS0
                clear hP0 hD0 hS0
                generalize hf_2154 : (vp_updL f_1824 (x_2150 : Int32).toNatClampNeg x_2153) = f_2154 at hP hD
                replace hE := hE.trans (Lt_in hf_2154.symm)
                replace hP : va_P D vwCl [(m0, .inr (12, [m_0, m_1, m_2, .ref w0, m_4, m_5, m_6, m_7, m_8, m_9, m_10, m_11, m_12, m_13, m_14, m_15, m_16, m_17, m_18, m_19, .int 0, m_21, m_22, m_23, m_24, m_25, m_26, m_27, m_28, m_29, m_30, m_31, m_32, m_33, .int lw, .ref e0, m_36, .ref q0, .int v_1823, .long val, .long sm, m_41, m_42, m_43, m_44, m_45, m_46, m_47, m_48, m_49, m_50, m_51, m_52, m_53, m_54, m_55, m_56, m_57, m_58, m_59])), (w0, .inl (K 0, 5500, .inl fw)), (e0, .inl (K 2, 13, .inr (.inl fe))), (q0, .inl (K 2, 400, .inr (.inl f_2154)))] H := hP
                replace hD : va_D A [(m0, .inr (12, [m_0, m_1, m_2, .ref w0, m_4, m_5, m_6, m_7, m_8, m_9, m_10, m_11, m_12, m_13, m_14, m_15, m_16, m_17, m_18, m_19, .int 0, m_21, m_22, m_23, m_24, m_25, m_26, m_27, m_28, m_29, m_30, m_31, m_32, m_33, .int lw, .ref e0, m_36, .ref q0, .int v_1823, .long val, .long sm, m_41, m_42, m_43, m_44, m_45, m_46, m_47, m_48, m_49, m_50, m_51, m_52, m_53, m_54, m_55, m_56, m_57, m_58, m_59])), (w0, .inl (K 0, 5500, .inl fw)), (e0, .inl (K 2, 13, .inr (.inl fe))), (q0, .inl (K 2, 400, .inr (.inl f_2154)))] := hD
                refine lv_goto (tgt := 367) hx hb dX12_reckonAll_330 (by decide +kernel) ?_
                refine lv_goto (tgt := 10) hx hb dX12_reckonAll_367 (by decide +kernel) ?_
                exact ih_2060 x_2139 v_1822 v_1823 f_2154 (by rw [hx_2139]; omega) (by omega) (by omega) (show (v_1822 : Int32).toInt = d (x_2139 : Int32).toInt by rw [hx_2139]; omega) (show x.toInt ≤ (x_2139 : Int32).toInt ∧ (x_2139 : Int32).toInt ≤ y.toInt by omega) (by omega) (hE.trans (by rw [hrec_2059])) _ _ hP hD hS ls (lv_sub hl [0, 3, 4, 5] rfl)
            · have c_2141i := i_nle (x := 28) (y := x_2132.toInt) rfl rfl c_2141
              replace hE := hE.trans (if_neg c_2141)
              replace hst : 2 ≤ d v_1821.toInt ∧ d (v_1821.toInt + 1) = d v_1821.toInt - 1 := by omega
              obtain ⟨x_2155, ex_2155⟩ : ∃ y : Int32, y = v_1822 + Int32.ofInt (-1) := ⟨_, rfl⟩
              replace hE := hE.trans (Lt_in ex_2155)
              have hx_2155 : x_2155.toInt = (v_1822.toInt + (-1)) := by rw [ex_2155]; exact i_add rfl (show (Int32.ofInt (-1)).toInt = (-1) from rfl) (by omega)
              refine lv_iinc (v := x_2155) (lv' := [(3, .int x_2155), (4, .int x_2139), (6, .int x_2138), (5, .int x_2132), (0, .ref m0), (2, .int y)]) hx hb dX12_reckonAll_235 hl (k := 3) rfl (by rw [ex_2155]) (by decide +kernel) rfl (fun ls hl => ?_)
              refine lv_aload_n hx hb dX12_reckonAll_238 rfl (lv_at hl 4 rfl) ?_
              refine va_get (ci := 12) (v := .ref q0) (C := RX12) (T := TX12) (N := 60) hx hb hts hw12 hown hK hP 0 rfl rfl 37 (by decide +kernel) (hts _ mm_X12_reckonAll_867) (fun _ h9 => h9) rfl dX12_reckonAll_239 ?_
              refine lv_iload_n hx hb dX12_reckonAll_242 rfl (lv_at hl 0 rfl) ?_
              refine lv_iconst (v := 1) hx hb dX12_reckonAll_243 (by decide +kernel) ?_
              refine lv_isub hx hb dX12_reckonAll_244 ?_
              refine lv_topi (fun x_2156 ex_2156 => ?_)
              replace hE := hE.trans (Lt_in ex_2156)
              have hx_2156 : x_2156.toInt = ((v_1822.toInt + (-1)) - 1) := by rw [ex_2156]; exact i_sub hx_2155 (show (1 : Int32).toInt = 1 from rfl) (by omega)
              refine lv_aload_n hx hb dX12_reckonAll_245 rfl (lv_at hl 4 rfl) ?_
              refine lv_iload hx hb dX12_reckonAll_246 (lv_at hl 3 rfl) ?_
              refine lv_aload_n hx hb dX12_reckonAll_248 rfl (lv_at hl 4 rfl) ?_
              refine va_get (ci := 12) (v := .ref q0) (C := RX12) (T := TX12) (N := 60) hx hb hts hw12 hown hK hP 0 rfl rfl 37 (by decide +kernel) (hts _ mm_X12_reckonAll_867) (fun _ h9 => h9) rfl dX12_reckonAll_249 ?_
              refine lv_iload_n hx hb dX12_reckonAll_252 rfl (lv_at hl 0 rfl) ?_
              refine lv_iconst (v := 1) hx hb dX12_reckonAll_253 (by decide +kernel) ?_
              refine lv_isub hx hb dX12_reckonAll_254 ?_
              refine lv_topi (fun x_2157 ex_2157 => ?_)
              replace hE := hE.trans (Lt_in ex_2157)
              have hx_2157 : x_2157.toInt = ((v_1822.toInt + (-1)) - 1) := by rw [ex_2157]; exact i_sub hx_2155 (show (1 : Int32).toInt = 1 from rfl) (by omega)
              refine va_lald hx hb hK hP 3 2 rfl rfl (i_in hx_2157 (by omega)) dX12_reckonAll_255 ?_
              refine lv_topl (fun x_2158 ex_2158 => ?_)
              replace hE := hE.trans (Lt_in ex_2158)
              refine lv_aload_n hx hb dX12_reckonAll_256 rfl (lv_at hl 4 rfl) ?_
              refine va_get (ci := 12) (v := .ref q0) (C := RX12) (T := TX12) (N := 60) hx hb hts hw12 hown hK hP 0 rfl rfl 37 (by decide +kernel) (hts _ mm_X12_reckonAll_867) (fun _ h9 => h9) rfl dX12_reckonAll_257 ?_
              refine lv_iload_n hx hb dX12_reckonAll_260 rfl (lv_at hl 0 rfl) ?_
              refine va_lald hx hb hK hP 3 2 rfl rfl (i_in hx_2155 (by omega)) dX12_reckonAll_261 ?_
              refine lv_topl (fun x_2159 ex_2159 => ?_)
              replace hE := hE.trans (Lt_in ex_2159)
              refine kcl (S := Su) (wr := [(w0, .inl (K 0, 5500, .inl fw)), (e0, .inl (K 2, 13, .inr (.inl fe))), (q0, .inl (K 2, 400, .inr (.inl f_1824)))]) (va_runV (As := [.int x_2132, .long x_2158, .long x_2159]) (rest := [.int x_2156, .ref q0]) ⟨hx, hb, hml, hown, hts⟩ (v_reckon l D K m0 x_2132 x_2158 x_2159 m_0 m_1 m_2 (.ref w0) m_4 m_5 m_6 m_7 m_8 m_9 m_10 m_11 m_12 m_13 m_14 m_15 m_16 m_17 m_18 m_19 (.int 0) m_21 m_22 m_23 m_24 m_25 m_26 m_27 m_28 m_29 m_30 m_31 m_32 m_33 (.int lw) (.ref e0) m_36 (.ref q0) v_1823 (.long val) (.long sm) m_41 m_42 m_43 m_44 m_45 m_46 m_47 m_48 m_49 m_50 m_51 m_52 m_53 m_54 m_55 m_56 m_57 m_58 m_59 H.size (by first | omega | decide)) (cwV 3 hts gX12_reckonAll_X12_reckon rfl rfl rfl (by decide +kernel) ⟨Nat.le_of_ble_eq_true rfl, Nat.le_of_ble_eq_true rfl⟩) (mkV hK hN (hP.sub [0] rfl) (hD.sub [0] (by decide +kernel) rfl) (ci := 12) (q0 := 0) rfl rfl) rfl rfl hl.1 rfl (lv_room (Nat.le_of_ble_eq_true rfl)) dX12_reckonAll_262 ⟨Nat.le_of_ble_eq_true rfl, Nat.le_of_ble_eq_true rfl⟩) hP hD hS hA [0] [1, 2, 3] rfl rfl (by decide +kernel) (by decide +kernel) (fun r_2160 u_2161 H locs hw hP0 hD0 hS0 => ?_)
              clear hP hD hS
              have hP := hP0
              have hD := hD0
              have hS := hS0
              clear hP0 hD0 hS0
              replace hP : va_P D vwCl [(w0, .inl (K 0, 5500, .inl fw)), (e0, .inl (K 2, 13, .inr (.inl fe))), (q0, .inl (K 2, 400, .inr (.inl f_1824))), (m0, .inr (12, [m_0, m_1, m_2, .ref w0, m_4, m_5, m_6, m_7, m_8, m_9, m_10, m_11, m_12, m_13, m_14, m_15, m_16, m_17, m_18, m_19, .int 0, m_21, m_22, m_23, m_24, m_25, m_26, m_27, m_28, m_29, m_30, m_31, m_32, m_33, .int lw, .ref e0, m_36, .ref q0, .int (u_2161.2.2.2.1 0), .long val, .long sm, m_41, m_42, m_43, m_44, m_45, m_46, m_47, m_48, m_49, m_50, m_51, m_52, m_53, m_54, m_55, m_56, m_57, m_58, m_59]))] H := hP
              replace hD : va_D A [(w0, .inl (K 0, 5500, .inl fw)), (e0, .inl (K 2, 13, .inr (.inl fe))), (q0, .inl (K 2, 400, .inr (.inl f_1824))), (m0, .inr (12, [m_0, m_1, m_2, .ref w0, m_4, m_5, m_6, m_7, m_8, m_9, m_10, m_11, m_12, m_13, m_14, m_15, m_16, m_17, m_18, m_19, .int 0, m_21, m_22, m_23, m_24, m_25, m_26, m_27, m_28, m_29, m_30, m_31, m_32, m_33, .int lw, .ref e0, m_36, .ref q0, .int (u_2161.2.2.2.1 0), .long val, .long sm, m_41, m_42, m_43, m_44, m_45, m_46, m_47, m_48, m_49, m_50, m_51, m_52, m_53, m_54, m_55, m_56, m_57, m_58, m_59]))] := hD
              obtain ⟨k_2162, k_2163, -⟩ := hw
              replace hE := hE.trans (Lt2_in k_2163)
              refine va_last hx hb hK hP hD hS 2 2 rfl rfl (i_in hx_2156 (by omega)) dX12_reckonAll_265 (fun H locs hP0 hD0 hS0 => ?_)
              clear hP hD hS
              have hP := hP0
              have hD := hD0
              have hS := hS0
              clear hP0 hD0 hS0
              generalize hf_2164 : (vp_updL f_1824 (x_2156 : Int32).toNatClampNeg r_2160) = f_2164 at hP hD
              replace hE := hE.trans (Lt_in hf_2164.symm)
              replace hP : va_P D vwCl [(w0, .inl (K 0, 5500, .inl fw)), (e0, .inl (K 2, 13, .inr (.inl fe))), (q0, .inl (K 2, 400, .inr (.inl f_2164))), (m0, .inr (12, [m_0, m_1, m_2, .ref w0, m_4, m_5, m_6, m_7, m_8, m_9, m_10, m_11, m_12, m_13, m_14, m_15, m_16, m_17, m_18, m_19, .int 0, m_21, m_22, m_23, m_24, m_25, m_26, m_27, m_28, m_29, m_30, m_31, m_32, m_33, .int lw, .ref e0, m_36, .ref q0, .int (u_2161.2.2.2.1 0), .long val, .long sm, m_41, m_42, m_43, m_44, m_45, m_46, m_47, m_48, m_49, m_50, m_51, m_52, m_53, m_54, m_55, m_56, m_57, m_58, m_59]))] H := hP
              replace hD : va_D A [(w0, .inl (K 0, 5500, .inl fw)), (e0, .inl (K 2, 13, .inr (.inl fe))), (q0, .inl (K 2, 400, .inr (.inl f_2164))), (m0, .inr (12, [m_0, m_1, m_2, .ref w0, m_4, m_5, m_6, m_7, m_8, m_9, m_10, m_11, m_12, m_13, m_14, m_15, m_16, m_17, m_18, m_19, .int 0, m_21, m_22, m_23, m_24, m_25, m_26, m_27, m_28, m_29, m_30, m_31, m_32, m_33, .int lw, .ref e0, m_36, .ref q0, .int (u_2161.2.2.2.1 0), .long val, .long sm, m_41, m_42, m_43, m_44, m_45, m_46, m_47, m_48, m_49, m_50, m_51, m_52, m_53, m_54, m_55, m_56, m_57, m_58, m_59]))] := hD
              refine lv_aload_n hx hb dX12_reckonAll_266 rfl (lv_at hl 4 rfl) ?_
              refine lv_aload_n hx hb dX12_reckonAll_267 rfl (lv_at hl 4 rfl) ?_
              refine va_get (ci := 12) (v := .int (u_2161.2.2.2.1 0)) (C := RX12) (T := TX12) (N := 60) hx hb hts hw12 hown hK hP 3 rfl rfl 38 (by decide +kernel) (hts _ mm_X12_reckonAll_868) (fun _ h9 => h9) rfl dX12_reckonAll_268 ?_
              refine lv_if_ne (tgt := 294) hx hb dX12_reckonAll_271 (by decide +kernel) (fun c_2165 => ?_) (fun c_2165 => ?_)
              · have c_2165i := i_ne (x := (u_2161.2.2.2.1 0).toInt) (y := 0) rfl rfl c_2165
                replace hE := hE.trans (if_neg c_2165)
                refine lv_iconst (v := 1) hx hb dX12_reckonAll_294 (by decide +kernel) ?_
                refine lv_goto (tgt := 299) hx hb dX12_reckonAll_295 (by decide +kernel) ?_
                refine va_put (ci := 12) (v := .int 1) (ty := .boolean) (C := RX12) (T := TX12) (N := 60) hx hb hts hw12 tyX12 tyX12_ok nmX12 hown hK hP hD hS 3 rfl rfl 38 (by decide +kernel) (hts _ mm_X12_reckonAll_868) (fun _ h9 => h9) rfl (by decide +kernel) (by first | rfl | decide) (by first | rfl | decide) (Nat.le_of_ble_eq_true rfl) dX12_reckonAll_299 (fun H locs hP0 hD0 hS0 => ?_)
                clear hP hD hS
                have hP := hP0
                have hD := hD0
                have hS := hS0
                clear hP0 hD0 hS0
                replace hP : va_P D vwCl [(w0, .inl (K 0, 5500, .inl fw)), (e0, .inl (K 2, 13, .inr (.inl fe))), (q0, .inl (K 2, 400, .inr (.inl f_2164))), (m0, .inr (12, [m_0, m_1, m_2, .ref w0, m_4, m_5, m_6, m_7, m_8, m_9, m_10, m_11, m_12, m_13, m_14, m_15, m_16, m_17, m_18, m_19, .int 0, m_21, m_22, m_23, m_24, m_25, m_26, m_27, m_28, m_29, m_30, m_31, m_32, m_33, .int lw, .ref e0, m_36, .ref q0, .int 1, .long val, .long sm, m_41, m_42, m_43, m_44, m_45, m_46, m_47, m_48, m_49, m_50, m_51, m_52, m_53, m_54, m_55, m_56, m_57, m_58, m_59]))] H := hP
                replace hD : va_D A [(w0, .inl (K 0, 5500, .inl fw)), (e0, .inl (K 2, 13, .inr (.inl fe))), (q0, .inl (K 2, 400, .inr (.inl f_2164))), (m0, .inr (12, [m_0, m_1, m_2, .ref w0, m_4, m_5, m_6, m_7, m_8, m_9, m_10, m_11, m_12, m_13, m_14, m_15, m_16, m_17, m_18, m_19, .int 0, m_21, m_22, m_23, m_24, m_25, m_26, m_27, m_28, m_29, m_30, m_31, m_32, m_33, .int lw, .ref e0, m_36, .ref q0, .int 1, .long val, .long sm, m_41, m_42, m_43, m_44, m_45, m_46, m_47, m_48, m_49, m_50, m_51, m_52, m_53, m_54, m_55, m_56, m_57, m_58, m_59]))] := hD
                refine lv_goto (tgt := 367) hx hb dX12_reckonAll_302 (by decide +kernel) ?_
                refine lv_goto (tgt := 10) hx hb dX12_reckonAll_367 (by decide +kernel) ?_
                have hz_2166 : (1 : Int32).toInt = 1 := rfl
                exact ih_2060 x_2139 x_2155 1 f_2164 (by rw [hx_2139]; omega) (by rw [hx_2155]; omega) (by decide +kernel) (show (x_2155 : Int32).toInt = d (x_2139 : Int32).toInt by rw [hx_2139]; omega) (show x.toInt ≤ (x_2139 : Int32).toInt ∧ (x_2139 : Int32).toInt ≤ y.toInt by omega) (by omega) (hE.trans (by rw [hrec_2059])) _ _ (hP.sub [3, 0, 1, 2] rfl) (hD.sub [3, 0, 1, 2] (by decide +kernel) rfl) hS ls (lv_sub hl [1, 0, 4, 5] rfl)
              · have c_2165i := i_eq (x := (u_2161.2.2.2.1 0).toInt) (y := 0) rfl rfl c_2165
                replace hE := hE.trans (if_pos c_2165)
                refine lv_aload_n hx hb dX12_reckonAll_274 rfl (lv_at hl 4 rfl) ?_
                refine va_get (ci := 12) (v := .ref q0) (C := RX12) (T := TX12) (N := 60) hx hb hts hw12 hown hK hP 3 rfl rfl 37 (by decide +kernel) (hts _ mm_X12_reckonAll_867) (fun _ h9 => h9) rfl dX12_reckonAll_275 ?_
                refine lv_iload_n hx hb dX12_reckonAll_278 rfl (lv_at hl 0 rfl) ?_
                refine lv_iconst (v := 1) hx hb dX12_reckonAll_279 (by decide +kernel) ?_
                refine lv_isub hx hb dX12_reckonAll_280 ?_
                refine lv_topi (fun x_2167 ex_2167 => ?_)
                replace hE := hE.trans (Lt_in ex_2167)
                have hx_2167 : x_2167.toInt = ((v_1822.toInt + (-1)) - 1) := by rw [ex_2167]; exact i_sub hx_2155 (show (1 : Int32).toInt = 1 from rfl) (by omega)
                refine va_lald hx hb hK hP 2 2 rfl rfl (i_in hx_2167 (by omega)) dX12_reckonAll_281 ?_
                refine lv_topl (fun x_2168 ex_2168 => ?_)
                replace hE := hE.trans (Lt_in ex_2168)
                refine lv_ldc2 (v := (-1000000000)) hx hb hown (hts _ mm_X12_reckonAll_1012) dX12_reckonAll_282 ?_
                refine lv_ldc2 (v := 1000000000) hx hb hown (hts _ mm_X12_reckonAll_1013) dX12_reckonAll_285 ?_
                refine pci (va_runS (As := [.long x_2168, .long (-1000000000), .long 1000000000]) (rest := [.ref m0]) ⟨hx, hb, hml, hown, hts⟩ (v_in l D K x_2168.toInt (-1000000000) 1000000000 x_2168 (-1000000000) 1000000000 H.size rfl (show ((-1000000000) : Int64).toInt = (-1000000000) from rfl) (show (1000000000 : Int64).toInt = 1000000000 from rfl)) (va_cwS 3 hts gX12_reckonAll_X12_in rfl rfl rfl (by decide +kernel) ⟨Nat.le_of_ble_eq_true rfl, Nat.le_of_ble_eq_true rfl⟩) (mkS hK hN (va_P.nil) (va_D.nil (A := fun _ => True))) rfl rfl hl.1 rfl (lv_room (Nat.le_of_ble_eq_true rfl)) dX12_reckonAll_288 ⟨Nat.le_of_ble_eq_true rfl, Nat.le_of_ble_eq_true rfl⟩) (fun r_2169 hw => ?_)
                obtain ⟨hw, k_2170, -⟩ := hw
                replace hE := hE.trans (Lt_in k_2170)
                rcases hw with ⟨rfl, h_2171, h_2172⟩ | ⟨rfl, h_2173⟩
                · replace hE := (hE).trans (if_pos rfl)
                  refine lv_if_ne (tgt := 298) hx hb dX12_reckonAll_291 (by decide +kernel) (fun c_2174 => ?_) (fun c_2174 => absurd c_2174 (by decide +kernel))
                  refine lv_iconst (v := 0) hx hb dX12_reckonAll_298 (by decide +kernel) ?_
                  refine va_put (ci := 12) (v := .int 0) (ty := .boolean) (C := RX12) (T := TX12) (N := 60) hx hb hts hw12 tyX12 tyX12_ok nmX12 hown hK hP hD hS 3 rfl rfl 38 (by decide +kernel) (hts _ mm_X12_reckonAll_868) (fun _ h9 => h9) rfl (by decide +kernel) (by first | rfl | decide) (by first | rfl | decide) (Nat.le_of_ble_eq_true rfl) dX12_reckonAll_299 (fun H locs hP0 hD0 hS0 => ?_)
                  clear hP hD hS
                  have hP := hP0
                  have hD := hD0
                  have hS := hS0
                  clear hP0 hD0 hS0
                  replace hP : va_P D vwCl [(w0, .inl (K 0, 5500, .inl fw)), (e0, .inl (K 2, 13, .inr (.inl fe))), (q0, .inl (K 2, 400, .inr (.inl f_2164))), (m0, .inr (12, [m_0, m_1, m_2, .ref w0, m_4, m_5, m_6, m_7, m_8, m_9, m_10, m_11, m_12, m_13, m_14, m_15, m_16, m_17, m_18, m_19, .int 0, m_21, m_22, m_23, m_24, m_25, m_26, m_27, m_28, m_29, m_30, m_31, m_32, m_33, .int lw, .ref e0, m_36, .ref q0, .int 0, .long val, .long sm, m_41, m_42, m_43, m_44, m_45, m_46, m_47, m_48, m_49, m_50, m_51, m_52, m_53, m_54, m_55, m_56, m_57, m_58, m_59]))] H := hP
                  replace hD : va_D A [(w0, .inl (K 0, 5500, .inl fw)), (e0, .inl (K 2, 13, .inr (.inl fe))), (q0, .inl (K 2, 400, .inr (.inl f_2164))), (m0, .inr (12, [m_0, m_1, m_2, .ref w0, m_4, m_5, m_6, m_7, m_8, m_9, m_10, m_11, m_12, m_13, m_14, m_15, m_16, m_17, m_18, m_19, .int 0, m_21, m_22, m_23, m_24, m_25, m_26, m_27, m_28, m_29, m_30, m_31, m_32, m_33, .int lw, .ref e0, m_36, .ref q0, .int 0, .long val, .long sm, m_41, m_42, m_43, m_44, m_45, m_46, m_47, m_48, m_49, m_50, m_51, m_52, m_53, m_54, m_55, m_56, m_57, m_58, m_59]))] := hD
                  refine lv_goto (tgt := 367) hx hb dX12_reckonAll_302 (by decide +kernel) ?_
                  refine lv_goto (tgt := 10) hx hb dX12_reckonAll_367 (by decide +kernel) ?_
                  have hz_2175 : (0 : Int32).toInt = 0 := rfl
                  exact ih_2060 x_2139 x_2155 0 f_2164 (by rw [hx_2139]; omega) (by rw [hx_2155]; omega) (by decide +kernel) (show (x_2155 : Int32).toInt = d (x_2139 : Int32).toInt by rw [hx_2139]; omega) (show x.toInt ≤ (x_2139 : Int32).toInt ∧ (x_2139 : Int32).toInt ≤ y.toInt by omega) (by omega) (hE.trans (by rw [hrec_2059])) _ _ (hP.sub [3, 0, 1, 2] rfl) (hD.sub [3, 0, 1, 2] (by decide +kernel) rfl) hS ls (lv_sub hl [1, 0, 4, 5] rfl)
                · replace hE := (hE).trans (if_neg (by first | decide | (intro h9; have h8 := congrArg Int32.toInt h9; omega)))
                  refine lv_if_ne (tgt := 298) hx hb dX12_reckonAll_291 (by decide +kernel) (fun c_2176 => absurd (by decide +kernel) c_2176) (fun c_2176 => ?_)
                  refine lv_iconst (v := 1) hx hb dX12_reckonAll_294 (by decide +kernel) ?_
                  refine lv_goto (tgt := 299) hx hb dX12_reckonAll_295 (by decide +kernel) ?_
                  refine va_put (ci := 12) (v := .int 1) (ty := .boolean) (C := RX12) (T := TX12) (N := 60) hx hb hts hw12 tyX12 tyX12_ok nmX12 hown hK hP hD hS 3 rfl rfl 38 (by decide +kernel) (hts _ mm_X12_reckonAll_868) (fun _ h9 => h9) rfl (by decide +kernel) (by first | rfl | decide) (by first | rfl | decide) (Nat.le_of_ble_eq_true rfl) dX12_reckonAll_299 (fun H locs hP0 hD0 hS0 => ?_)
                  clear hP hD hS
                  have hP := hP0
                  have hD := hD0
                  have hS := hS0
                  clear hP0 hD0 hS0
                  replace hP : va_P D vwCl [(w0, .inl (K 0, 5500, .inl fw)), (e0, .inl (K 2, 13, .inr (.inl fe))), (q0, .inl (K 2, 400, .inr (.inl f_2164))), (m0, .inr (12, [m_0, m_1, m_2, .ref w0, m_4, m_5, m_6, m_7, m_8, m_9, m_10, m_11, m_12, m_13, m_14, m_15, m_16, m_17, m_18, m_19, .int 0, m_21, m_22, m_23, m_24, m_25, m_26, m_27, m_28, m_29, m_30, m_31, m_32, m_33, .int lw, .ref e0, m_36, .ref q0, .int 1, .long val, .long sm, m_41, m_42, m_43, m_44, m_45, m_46, m_47, m_48, m_49, m_50, m_51, m_52, m_53, m_54, m_55, m_56, m_57, m_58, m_59]))] H := hP
                  replace hD : va_D A [(w0, .inl (K 0, 5500, .inl fw)), (e0, .inl (K 2, 13, .inr (.inl fe))), (q0, .inl (K 2, 400, .inr (.inl f_2164))), (m0, .inr (12, [m_0, m_1, m_2, .ref w0, m_4, m_5, m_6, m_7, m_8, m_9, m_10, m_11, m_12, m_13, m_14, m_15, m_16, m_17, m_18, m_19, .int 0, m_21, m_22, m_23, m_24, m_25, m_26, m_27, m_28, m_29, m_30, m_31, m_32, m_33, .int lw, .ref e0, m_36, .ref q0, .int 1, .long val, .long sm, m_41, m_42, m_43, m_44, m_45, m_46, m_47, m_48, m_49, m_50, m_51, m_52, m_53, m_54, m_55, m_56, m_57, m_58, m_59]))] := hD
                  refine lv_goto (tgt := 367) hx hb dX12_reckonAll_302 (by decide +kernel) ?_
                  refine lv_goto (tgt := 10) hx hb dX12_reckonAll_367 (by decide +kernel) ?_
                  have hz_2177 : (1 : Int32).toInt = 1 := rfl
                  exact ih_2060 x_2139 x_2155 1 f_2164 (by rw [hx_2139]; omega) (by rw [hx_2155]; omega) (by decide +kernel) (show (x_2155 : Int32).toInt = d (x_2139 : Int32).toInt by rw [hx_2139]; omega) (show x.toInt ≤ (x_2139 : Int32).toInt ∧ (x_2139 : Int32).toInt ≤ y.toInt by omega) (by omega) (hE.trans (by rw [hrec_2059])) _ _ (hP.sub [3, 0, 1, 2] rfl) (hD.sub [3, 0, 1, 2] (by decide +kernel) rfl) hS ls (lv_sub hl [1, 0, 4, 5] rfl)
          · have c_2140i := i_nle (x := 20) (y := x_2132.toInt) rfl rfl c_2140
            replace hE := hE.trans (if_neg c_2140)
            replace hst : 0 ≤ x_2132.toInt ∧ x_2132.toInt ≤ 9 ∧ d (v_1821.toInt + 1) = d v_1821.toInt + 1 := by omega
            refine lv_aload_n hx hb dX12_reckonAll_107 rfl (lv_at hl 4 rfl) ?_
            refine va_get (ci := 12) (v := .ref q0) (C := RX12) (T := TX12) (N := 60) hx hb hts hw12 hown hK hP 0 rfl rfl 37 (by decide +kernel) (hts _ mm_X12_reckonAll_867) (fun _ h9 => h9) rfl dX12_reckonAll_108 ?_
            refine lv_iload_n hx hb dX12_reckonAll_111 rfl (lv_at hl 3 rfl) ?_
            refine lv_iload hx hb dX12_reckonAll_112 (lv_at hl 2 rfl) ?_
            refine lv_if_ne (tgt := 123) hx hb dX12_reckonAll_114 (by decide +kernel) (fun c_2178 => ?_) (fun c_2178 => ?_)
            · have c_2178i := i_ne (x := x_2132.toInt) (y := 0) rfl rfl c_2178
              replace hE := hE.trans (if_neg c_2178)
              refine lv_aload_n hx hb dX12_reckonAll_123 rfl (lv_at hl 4 rfl) ?_
              refine va_get (ci := 12) (v := .int 0) (C := RX12) (T := TX12) (N := 60) hx hb hts hw12 hown hK hP 0 rfl rfl 20 (by decide +kernel) (hts _ mm_X12_reckonAll_850) (fun _ h9 => h9) rfl dX12_reckonAll_124 ?_
              refine lv_if_ne (tgt := 140) hx hb dX12_reckonAll_127 (by decide +kernel) (fun c_2179 => absurd (by decide +kernel) c_2179) (fun c_2179 => ?_)
              refine lv_aload_n hx hb dX12_reckonAll_130 rfl (lv_at hl 4 rfl) ?_
              refine va_get (ci := 12) (v := .ref e0) (C := RX12) (T := TX12) (N := 60) hx hb hts hw12 hown hK hP 0 rfl rfl 35 (by decide +kernel) (hts _ mm_X12_reckonAll_865) (fun _ h9 => h9) rfl dX12_reckonAll_131 ?_
              refine lv_iload hx hb dX12_reckonAll_134 (lv_at hl 2 rfl) ?_
              refine va_lald hx hb hK hP 2 2 rfl rfl (i_in rfl (by omega)) dX12_reckonAll_136 ?_
              refine lv_topl (fun x_2180 ex_2180 => ?_)
              replace hE := hE.trans (Lt_in ex_2180)
              refine lv_goto (tgt := 221) hx hb dX12_reckonAll_137 (by decide +kernel) ?_
              refine va_last hx hb hK hP hD hS 3 2 rfl rfl (i_in rfl (by omega)) dX12_reckonAll_221 (fun H locs hP0 hD0 hS0 => ?_)
              clear hP hD hS
              have hP := hP0
              have hD := hD0
              have hS := hS0
              clear hP0 hD0 hS0
              generalize hf_2181 : (vp_updL f_1824 (v_1822 : Int32).toNatClampNeg x_2180) = f_2181 at hP hD
              replace hE := hE.trans (Lt_in hf_2181.symm)
              replace hP : va_P D vwCl [(m0, .inr (12, [m_0, m_1, m_2, .ref w0, m_4, m_5, m_6, m_7, m_8, m_9, m_10, m_11, m_12, m_13, m_14, m_15, m_16, m_17, m_18, m_19, .int 0, m_21, m_22, m_23, m_24, m_25, m_26, m_27, m_28, m_29, m_30, m_31, m_32, m_33, .int lw, .ref e0, m_36, .ref q0, .int v_1823, .long val, .long sm, m_41, m_42, m_43, m_44, m_45, m_46, m_47, m_48, m_49, m_50, m_51, m_52, m_53, m_54, m_55, m_56, m_57, m_58, m_59])), (w0, .inl (K 0, 5500, .inl fw)), (e0, .inl (K 2, 13, .inr (.inl fe))), (q0, .inl (K 2, 400, .inr (.inl f_2181)))] H := hP
              replace hD : va_D A [(m0, .inr (12, [m_0, m_1, m_2, .ref w0, m_4, m_5, m_6, m_7, m_8, m_9, m_10, m_11, m_12, m_13, m_14, m_15, m_16, m_17, m_18, m_19, .int 0, m_21, m_22, m_23, m_24, m_25, m_26, m_27, m_28, m_29, m_30, m_31, m_32, m_33, .int lw, .ref e0, m_36, .ref q0, .int v_1823, .long val, .long sm, m_41, m_42, m_43, m_44, m_45, m_46, m_47, m_48, m_49, m_50, m_51, m_52, m_53, m_54, m_55, m_56, m_57, m_58, m_59])), (w0, .inl (K 0, 5500, .inl fw)), (e0, .inl (K 2, 13, .inr (.inl fe))), (q0, .inl (K 2, 400, .inr (.inl f_2181)))] := hD
              obtain ⟨x_2182, ex_2182⟩ : ∃ y : Int32, y = v_1822 + Int32.ofInt 1 := ⟨_, rfl⟩
              replace hE := hE.trans (Lt_in ex_2182)
              have hx_2182 : x_2182.toInt = (v_1822.toInt + 1) := by rw [ex_2182]; exact i_add rfl (show (Int32.ofInt 1).toInt = 1 from rfl) (by omega)
              refine lv_iinc (v := x_2182) (lv' := [(3, .int x_2182), (4, .int x_2139), (6, .int x_2138), (5, .int x_2132), (0, .ref m0), (2, .int y)]) hx hb dX12_reckonAll_222 hl (k := 3) rfl (by rw [ex_2182]) (by decide +kernel) rfl (fun ls hl => ?_)
              refine lv_goto (tgt := 367) hx hb dX12_reckonAll_225 (by decide +kernel) ?_
              refine lv_goto (tgt := 10) hx hb dX12_reckonAll_367 (by decide +kernel) ?_
              exact ih_2060 x_2139 x_2182 v_1823 f_2181 (by rw [hx_2139]; omega) (by rw [hx_2182]; omega) (by omega) (show (x_2182 : Int32).toInt = d (x_2139 : Int32).toInt by rw [hx_2139]; omega) (show x.toInt ≤ (x_2139 : Int32).toInt ∧ (x_2139 : Int32).toInt ≤ y.toInt by omega) (by omega) (hE.trans (by rw [hrec_2059])) _ _ hP hD hS ls (lv_sub hl [1, 0, 4, 5] rfl)
            · have c_2178i := i_eq (x := x_2132.toInt) (y := 0) rfl rfl c_2178
              replace hE := hE.trans (if_pos c_2178)
              refine lv_iload hx hb dX12_reckonAll_117 (lv_at hl 1 rfl) ?_
              refine lv_i2l hx hb dX12_reckonAll_119 rfl ?_
              refine lv_topl (fun x_2183 ex_2183 => ?_)
              replace hE := hE.trans (Lt_in ex_2183)
              have hx_2183 : x_2183.toInt = x_2138.toInt := by rw [ex_2183]; exact i_wide rfl
              have hbx_2183 := i_rng (a := x_2138) rfl
              refine lv_goto (tgt := 221) hx hb dX12_reckonAll_120 (by decide +kernel) ?_
              refine va_last hx hb hK hP hD hS 3 2 rfl rfl (i_in rfl (by omega)) dX12_reckonAll_221 (fun H locs hP0 hD0 hS0 => ?_)
              clear hP hD hS
              have hP := hP0
              have hD := hD0
              have hS := hS0
              clear hP0 hD0 hS0
              generalize hf_2184 : (vp_updL f_1824 (v_1822 : Int32).toNatClampNeg x_2183) = f_2184 at hP hD
              replace hE := hE.trans (Lt_in hf_2184.symm)
              replace hP : va_P D vwCl [(m0, .inr (12, [m_0, m_1, m_2, .ref w0, m_4, m_5, m_6, m_7, m_8, m_9, m_10, m_11, m_12, m_13, m_14, m_15, m_16, m_17, m_18, m_19, .int 0, m_21, m_22, m_23, m_24, m_25, m_26, m_27, m_28, m_29, m_30, m_31, m_32, m_33, .int lw, .ref e0, m_36, .ref q0, .int v_1823, .long val, .long sm, m_41, m_42, m_43, m_44, m_45, m_46, m_47, m_48, m_49, m_50, m_51, m_52, m_53, m_54, m_55, m_56, m_57, m_58, m_59])), (w0, .inl (K 0, 5500, .inl fw)), (e0, .inl (K 2, 13, .inr (.inl fe))), (q0, .inl (K 2, 400, .inr (.inl f_2184)))] H := hP
              replace hD : va_D A [(m0, .inr (12, [m_0, m_1, m_2, .ref w0, m_4, m_5, m_6, m_7, m_8, m_9, m_10, m_11, m_12, m_13, m_14, m_15, m_16, m_17, m_18, m_19, .int 0, m_21, m_22, m_23, m_24, m_25, m_26, m_27, m_28, m_29, m_30, m_31, m_32, m_33, .int lw, .ref e0, m_36, .ref q0, .int v_1823, .long val, .long sm, m_41, m_42, m_43, m_44, m_45, m_46, m_47, m_48, m_49, m_50, m_51, m_52, m_53, m_54, m_55, m_56, m_57, m_58, m_59])), (w0, .inl (K 0, 5500, .inl fw)), (e0, .inl (K 2, 13, .inr (.inl fe))), (q0, .inl (K 2, 400, .inr (.inl f_2184)))] := hD
              obtain ⟨x_2185, ex_2185⟩ : ∃ y : Int32, y = v_1822 + Int32.ofInt 1 := ⟨_, rfl⟩
              replace hE := hE.trans (Lt_in ex_2185)
              have hx_2185 : x_2185.toInt = (v_1822.toInt + 1) := by rw [ex_2185]; exact i_add rfl (show (Int32.ofInt 1).toInt = 1 from rfl) (by omega)
              refine lv_iinc (v := x_2185) (lv' := [(3, .int x_2185), (4, .int x_2139), (6, .int x_2138), (5, .int x_2132), (0, .ref m0), (2, .int y)]) hx hb dX12_reckonAll_222 hl (k := 3) rfl (by rw [ex_2185]) (by decide +kernel) rfl (fun ls hl => ?_)
              refine lv_goto (tgt := 367) hx hb dX12_reckonAll_225 (by decide +kernel) ?_
              refine lv_goto (tgt := 10) hx hb dX12_reckonAll_367 (by decide +kernel) ?_
              exact ih_2060 x_2139 x_2185 v_1823 f_2184 (by rw [hx_2139]; omega) (by rw [hx_2185]; omega) (by omega) (show (x_2185 : Int32).toInt = d (x_2139 : Int32).toInt by rw [hx_2139]; omega) (show x.toInt ≤ (x_2139 : Int32).toInt ∧ (x_2139 : Int32).toInt ≤ y.toInt by omega) (by omega) (hE.trans (by rw [hrec_2059])) _ _ hP hD hS ls (lv_sub hl [1, 0, 4, 5] rfl)
  have hz_2186 : (0 : Int32).toInt = 0 := rfl
  have hz_2187 : (0 : Int32).toInt = 0 := rfl
  exact lp_2059 ((y.toInt - (x : Int32).toInt + 1 : Int).toNat + 1) x 0 0 frs (by omega) (by decide +kernel) (by decide +kernel) (show (0 : Int32).toInt = d (x : Int32).toInt by rw [d0]; rfl) (show x.toInt ≤ (x : Int32).toInt ∧ (x : Int32).toInt ≤ y.toInt by omega) (Nat.lt_succ_self _) hE _ _ hP hD hS ls (lv_sub hl [0, 1, 2, 4] rfl)
set_option maxRecDepth 100000 in
noncomputable def E_v_isSo_j59 (x : Int32) (lw : Int32) (sm : Int64) (fw : Nat → Int32) (fe : Nat → Int64) (v_195 : Int32) (v_196 : Int64) (f_197 : Nat → Int64) : Int32 × Int32 × Int64 × Int64 × (Nat → Int64) :=
  Lt (fw (x : Int32).toNatClampNeg : Int32) (fun x_210 => if x_210 = 3 then (((1, v_195, v_196, sm, f_197) : Int32 × Int32 × Int64 × Int64 × (Nat → Int64))) else (Lt (x + 3 : Int32) (fun x_212 => Lt (fw (x_212 : Int32).toNatClampNeg : Int32) (fun x_213 => Lt (x + 4 : Int32) (fun x_214 => Lt (fw (x_214 : Int32).toNatClampNeg : Int32) (fun x_215 => Lt2 (E_v_reckonAll x_213 x_215 lw v_195 v_196 sm fw fe f_197) (fun u_217_2_2_2_1_0 q0_u_217_2_2_2_1_0 => Lt2 q0_u_217_2_2_2_1_0 (fun u_217_2_2_2_2_1_0 u_217_2_2_1_0 => if u_217_2_2_2_1_0 = 0 then (((1, u_217_2_2_2_1_0, u_217_2_2_2_2_1_0, u_217_2_2_2_2_1_0, u_217_2_2_1_0) : Int32 × Int32 × Int64 × Int64 × (Nat → Int64))) else (((0, u_217_2_2_2_1_0, u_217_2_2_2_2_1_0, u_217_2_2_2_2_1_0, u_217_2_2_1_0) : Int32 × Int32 × Int64 × Int64 × (Nat → Int64)))))))))))
set_option maxRecDepth 100000 in
noncomputable def E_v_isSo_j57 (sm : Int64) (u_227_2_2_2_1_0 : Int32) (u_227_2_2_2_2_1_0 : Int64) (u_227_2_2_1_0 : Nat → Int64) : Int32 × Int32 × Int64 × Int64 × (Nat → Int64) :=
  ((0, u_227_2_2_2_1_0, u_227_2_2_2_2_1_0, sm, u_227_2_2_1_0) : Int32 × Int32 × Int64 × Int64 × (Nat → Int64))
set_option maxRecDepth 100000 in
noncomputable def E_v_isSo (x : Int32) (lw : Int32) (bro : Int32) (val : Int64) (sm : Int64) (fw : Nat → Int32) (fe : Nat → Int64) (frs : Nat → Int64) : Int32 × Int32 × Int64 × Int64 × (Nat → Int64) :=
  Lt (x + 5 : Int32) (fun x_177 => Lt (fw (x_177 : Int32).toNatClampNeg : Int32) (fun x_178 => Lt (x + 6 : Int32) (fun x_179 => Lt (fw (x_179 : Int32).toNatClampNeg : Int32) (fun x_180 => if x_180 ≤ x_178 then (E_v_isSo_j59 x lw sm fw fe bro val frs) else (Lt (x + 5 : Int32) (fun x_222 => Lt (fw (x_222 : Int32).toNatClampNeg : Int32) (fun x_223 => Lt (x + 6 : Int32) (fun x_224 => Lt (fw (x_224 : Int32).toNatClampNeg : Int32) (fun x_225 => Lt2 (E_v_reckonAll x_223 x_225 lw bro val sm fw fe frs) (fun u_227_2_2_2_1_0 q0_u_227_2_2_2_1_0 => Lt2 q0_u_227_2_2_2_1_0 (fun u_227_2_2_2_2_1_0 u_227_2_2_1_0 => if u_227_2_2_2_1_0 = 0 then (if (lg_cmp u_227_2_2_2_2_1_0 0) = 0 then (E_v_isSo_j57 sm u_227_2_2_2_1_0 u_227_2_2_2_2_1_0 u_227_2_2_1_0) else (E_v_isSo_j59 x lw sm fw fe u_227_2_2_2_1_0 u_227_2_2_2_2_1_0 u_227_2_2_1_0)) else (E_v_isSo_j57 sm u_227_2_2_2_1_0 u_227_2_2_2_2_1_0 u_227_2_2_1_0))))))))))))
set_option maxHeartbeats 4000000 in
set_option maxRecDepth 100000 in
theorem v_isSo (l : Launch) (D : va_G) (K : Nat → ClassId) (b : Nat) (c_ : Nat) (m0 : Nat) (x : Int32) (m_0 : Value) (m_1 : Value) (m_2 : Value) (w0 : Nat) (m_4 : Value) (m_5 : Value) (m_6 : Value) (m_7 : Value) (m_8 : Value) (m_9 : Value) (m_10 : Value) (m_11 : Value) (m_12 : Value) (m_13 : Value) (m_14 : Value) (m_15 : Value) (m_16 : Value) (m_17 : Value) (m_18 : Value) (m_19 : Value) (m_21 : Value) (m_22 : Value) (m_23 : Value) (m_24 : Value) (m_25 : Value) (m_26 : Value) (m_27 : Value) (m_28 : Value) (m_29 : Value) (m_30 : Value) (m_31 : Value) (m_32 : Value) (m_33 : Value) (lw : Int32) (e0 : Nat) (m_36 : Value) (q0 : Nat) (bro : Int32) (val : Int64) (sm : Int64) (m_41 : Value) (m_42 : Value) (m_43 : Value) (m_44 : Value) (m_45 : Value) (m_46 : Value) (m_47 : Value) (m_48 : Value) (m_49 : Value) (m_50 : Value) (m_51 : Value) (m_52 : Value) (m_53 : Value) (m_54 : Value) (m_55 : Value) (m_56 : Value) (m_57 : Value) (m_58 : Value) (m_59 : Value) (fw : Nat → Int32) (gr : Nat → Int32) (fe : Nat → Int64) (frs : Nat → Int64) (sz : Nat) (zbro : 0 ≤ bro.toInt ∧ bro.toInt ≤ 1) (hlw : lw.toInt = ((b : Nat) : Int)) (zb : 100 ≤ b ∧ b ≤ 4600) (hlaw : LawOK fw b) (hxk : x.toInt = ((b : Nat) : Int) + 2 + 8 * ((c_ : Nat) : Int)) (hc_ : ((c_ : Nat) : Int) < (fw (b + 1)).toInt) (hc12 : c_ < 12) (zfw : RwOK fw) (zgr : FzM gr fw) : Met l yX12_isSo wsX12_isSo ({ frames := 2, cells := 0, slots := 0, locals := 51 }) (va_Pc [.ref m0, .int x] (Pre D K [(m0, .inr (12, [m_0, m_1, m_2, .ref w0, m_4, m_5, m_6, m_7, m_8, m_9, m_10, m_11, m_12, m_13, m_14, m_15, m_16, m_17, m_18, m_19, .int 0, m_21, m_22, m_23, m_24, m_25, m_26, m_27, m_28, m_29, m_30, m_31, m_32, m_33, .int lw, .ref e0, m_36, .ref q0, .int bro, .long val, .long sm, m_41, m_42, m_43, m_44, m_45, m_46, m_47, m_48, m_49, m_50, m_51, m_52, m_53, m_54, m_55, m_56, m_57, m_58, m_59])), (w0, .inl (K 0, 5500, .inl fw)), (e0, .inl (K 2, 13, .inr (.inl fe))), (q0, .inl (K 2, 400, .inr (.inl frs)))] sz)) (va_Qi (S := Su) (fun (r : Int32) (u : Su) => (0 ≤ r.toInt ∧ r.toInt ≤ 1) ∧ (0 ≤ (u.2.2.2.1 0).toInt ∧ (u.2.2.2.1 0).toInt ≤ 1) ∧ ((r, (u.2.2.2.1 0), (u.2.2.2.2.1 0), (u.2.2.2.2.1 1), (u.2.2.1 0)) = E_v_isSo x lw bro val sm fw fe frs) ∧ True) (fun u t => Wd D (va_A [(m0, .inr (12, [m_0, m_1, m_2, .ref w0, m_4, m_5, m_6, m_7, m_8, m_9, m_10, m_11, m_12, m_13, m_14, m_15, m_16, m_17, m_18, m_19, .int 0, m_21, m_22, m_23, m_24, m_25, m_26, m_27, m_28, m_29, m_30, m_31, m_32, m_33, .int lw, .ref e0, m_36, .ref q0, .int bro, .long val, .long sm, m_41, m_42, m_43, m_44, m_45, m_46, m_47, m_48, m_49, m_50, m_51, m_52, m_53, m_54, m_55, m_56, m_57, m_58, m_59])), (w0, .inl (K 0, 5500, .inl fw)), (e0, .inl (K 2, 13, .inr (.inl fe))), (q0, .inl (K 2, 400, .inr (.inl frs)))] sz) ((fun u => [(m0, .inr (12, [m_0, m_1, m_2, .ref w0, m_4, m_5, m_6, m_7, m_8, m_9, m_10, m_11, m_12, m_13, m_14, m_15, m_16, m_17, m_18, m_19, .int 0, m_21, m_22, m_23, m_24, m_25, m_26, m_27, m_28, m_29, m_30, m_31, m_32, m_33, .int lw, .ref e0, m_36, .ref q0, .int (u.2.2.2.1 0), .long (u.2.2.2.2.1 0), .long (u.2.2.2.2.1 1), m_41, m_42, m_43, m_44, m_45, m_46, m_47, m_48, m_49, m_50, m_51, m_52, m_53, m_54, m_55, m_56, m_57, m_58, m_59])), (w0, .inl (K 0, 5500, .inl fw)), (e0, .inl (K 2, 13, .inr (.inl fe))), (q0, .inl (K 2, 400, .inr (.inl (u.2.2.1 0))))]) u) t) (va_A [(m0, .inr (12, [m_0, m_1, m_2, .ref w0, m_4, m_5, m_6, m_7, m_8, m_9, m_10, m_11, m_12, m_13, m_14, m_15, m_16, m_17, m_18, m_19, .int 0, m_21, m_22, m_23, m_24, m_25, m_26, m_27, m_28, m_29, m_30, m_31, m_32, m_33, .int lw, .ref e0, m_36, .ref q0, .int bro, .long val, .long sm, m_41, m_42, m_43, m_44, m_45, m_46, m_47, m_48, m_49, m_50, m_51, m_52, m_53, m_54, m_55, m_56, m_57, m_58, m_59])), (w0, .inl (K 0, 5500, .inl fw)), (e0, .inl (K 2, 13, .inr (.inl fe))), (q0, .inl (K 2, 400, .inr (.inl frs)))] sz)) 0 0 (va_A [(m0, .inr (12, [m_0, m_1, m_2, .ref w0, m_4, m_5, m_6, m_7, m_8, m_9, m_10, m_11, m_12, m_13, m_14, m_15, m_16, m_17, m_18, m_19, .int 0, m_21, m_22, m_23, m_24, m_25, m_26, m_27, m_28, m_29, m_30, m_31, m_32, m_33, .int lw, .ref e0, m_36, .ref q0, .int bro, .long val, .long sm, m_41, m_42, m_43, m_44, m_45, m_46, m_47, m_48, m_49, m_50, m_51, m_52, m_53, m_54, m_55, m_56, m_57, m_58, m_59])), (w0, .inl (K 0, 5500, .inl fw)), (e0, .inl (K 2, 13, .inr (.inl fe))), (q0, .inl (K 2, 400, .inr (.inl frs)))] sz) := by
  refine Met.ofW (cc := cX12_isSo) (maxL := 2) (ret := (some .boolean)) (by decide +kernel) rfl ?_
  intro p e s m args below meth c s₁ B hml hv
  obtain ⟨rfl, hsz, hP, hK, hD0, hN⟩ := hv
  have hx := B.exec
  have hb := B.bytes
  have hr := B.returns
  have hts := atoms_spec (ws := wsX12_isSo) B.pre
  have hown : s.vm.findClass RX12 = some m.cls := findClass_of_methodNamed B.named
  have hlocks := B.notSynchronized
  subst hsz
  have hD := hD0.self (sz := s.heap.size)
  generalize hAe : va_A [(m0, .inr (12, [m_0, m_1, m_2, .ref w0, m_4, m_5, m_6, m_7, m_8, m_9, m_10, m_11, m_12, m_13, m_14, m_15, m_16, m_17, m_18, m_19, .int 0, m_21, m_22, m_23, m_24, m_25, m_26, m_27, m_28, m_29, m_30, m_31, m_32, m_33, .int lw, .ref e0, m_36, .ref q0, .int bro, .long val, .long sm, m_41, m_42, m_43, m_44, m_45, m_46, m_47, m_48, m_49, m_50, m_51, m_52, m_53, m_54, m_55, m_56, m_57, m_58, m_59])), (w0, .inl (K 0, 5500, .inl fw)), (e0, .inl (K 2, 13, .inr (.inl fe))), (q0, .inl (K 2, 400, .inr (.inl frs)))] s.heap.size = A at hD ⊢
  have hA : ∀ q : Nat, s.heap.size ≤ q → A q := fun q h => by rw [← hAe]; exact Or.inr h
  clear hAe
  have hS : va_S A s.heap s.heap [] := va_S.rf
  replace hP : va_P D vwCl [(m0, .inr (12, [m_0, m_1, m_2, .ref w0, m_4, m_5, m_6, m_7, m_8, m_9, m_10, m_11, m_12, m_13, m_14, m_15, m_16, m_17, m_18, m_19, .int 0, m_21, m_22, m_23, m_24, m_25, m_26, m_27, m_28, m_29, m_30, m_31, m_32, m_33, .int lw, .ref e0, m_36, .ref q0, .int bro, .long val, .long sm, m_41, m_42, m_43, m_44, m_45, m_46, m_47, m_48, m_49, m_50, m_51, m_52, m_53, m_54, m_55, m_56, m_57, m_58, m_59])), (w0, .inl (K 0, 5500, .inl fw)), (e0, .inl (K 2, 13, .inr (.inl fe))), (q0, .inl (K 2, 400, .inr (.inl frs)))] s.heap := hP
  have hl := lv_entry [.ref m0, .int x] (n := 2) (Nat.le_of_ble_eq_true rfl)
  rw [lg_entry_eq]
  generalize (lg_sl [.ref m0, .int x] ++ List.replicate (2 - (lg_sl [.ref m0, .int x]).length) Slot.unset).toArray = ls at hl ⊢
  have hl : lv_has ls 2 [(0, .ref m0), (1, .int x)] := hl
  have hw12 : ∀ w ∈ wsX120, w ∈ wsX12_isSo := fun w h => (List.mem_cons_of_mem _ (List.mem_append_right _ h))
  generalize hQ : MQ below _ _ s _ _ _ = Q
  have hE := E_v_isSo.eq_def x lw bro val sm fw fe frs
  refine lv_aload_n hx hb dX12_isSo_0 rfl (lv_at hl 0 rfl) ?_
  refine va_get (ci := 12) (v := .ref w0) (C := RX12) (T := TX12) (N := 60) hx hb hts hw12 hown hK hP 0 rfl rfl 3 (by decide +kernel) (hts _ mm_X12_isSo_833) (fun _ h9 => h9) rfl dX12_isSo_1 ?_
  refine lv_iload_n hx hb dX12_isSo_4 rfl (lv_at hl 1 rfl) ?_
  refine lv_iconst (v := 5) hx hb dX12_isSo_5 (by decide +kernel) ?_
  refine lv_iadd hx hb dX12_isSo_6 ?_
  refine lv_topi (fun x_177 ex_177 => ?_)
  replace hE := hE.trans (Lt_in ex_177)
  have hx_177 : x_177.toInt = (x.toInt + 5) := by rw [ex_177]; exact i_add rfl (show (5 : Int32).toInt = 5 from rfl) (by omega)
  refine va_iald hx hb hK hP 1 0 rfl rfl (i_in hx_177 (by omega)) dX12_isSo_7 ?_
  refine lv_topi (fun x_178 ex_178 => ?_)
  replace hE := hE.trans (Lt_in ex_178)
  have ox_178 : x_178 = fw (b + 2 + 8 * c_ + 5) := by rw [ex_178, i_clamp hx_177, show ((x.toInt + 5)).toNat = b + 2 + 8 * c_ + 5 by omega]
  refine lv_aload_n hx hb dX12_isSo_8 rfl (lv_at hl 0 rfl) ?_
  refine va_get (ci := 12) (v := .ref w0) (C := RX12) (T := TX12) (N := 60) hx hb hts hw12 hown hK hP 0 rfl rfl 3 (by decide +kernel) (hts _ mm_X12_isSo_833) (fun _ h9 => h9) rfl dX12_isSo_9 ?_
  refine lv_iload_n hx hb dX12_isSo_12 rfl (lv_at hl 1 rfl) ?_
  refine lv_bipush (v := 6) hx hb dX12_isSo_13 (by decide +kernel) ?_
  refine lv_iadd hx hb dX12_isSo_15 ?_
  refine lv_topi (fun x_179 ex_179 => ?_)
  replace hE := hE.trans (Lt_in ex_179)
  have hx_179 : x_179.toInt = (x.toInt + 6) := by rw [ex_179]; exact i_add rfl (show (6 : Int32).toInt = 6 from rfl) (by omega)
  refine va_iald hx hb hK hP 1 0 rfl rfl (i_in hx_179 (by omega)) dX12_isSo_16 ?_
  refine lv_topi (fun x_180 ex_180 => ?_)
  replace hE := hE.trans (Lt_in ex_180)
  have ox_180 : x_180 = fw (b + 2 + 8 * c_ + 6) := by rw [ex_180, i_clamp hx_179, show ((x.toInt + 6)).toNat = b + 2 + 8 * c_ + 6 by omega]
  have j_209 : ∀ (v_195 : Int32) (v_196 : Int64) (f_197 : Nat → Int64) (hv_195 : 0 ≤ v_195.toInt ∧ v_195.toInt ≤ 1) (hE : E_v_isSo x lw bro val sm fw fe frs = E_v_isSo_j59 x lw sm fw fe v_195 v_196 f_197) (H : Heap) (locs : List Loc) (hP : va_P D vwCl [(m0, .inr (12, [m_0, m_1, m_2, .ref w0, m_4, m_5, m_6, m_7, m_8, m_9, m_10, m_11, m_12, m_13, m_14, m_15, m_16, m_17, m_18, m_19, .int 0, m_21, m_22, m_23, m_24, m_25, m_26, m_27, m_28, m_29, m_30, m_31, m_32, m_33, .int lw, .ref e0, m_36, .ref q0, .int v_195, .long v_196, .long sm, m_41, m_42, m_43, m_44, m_45, m_46, m_47, m_48, m_49, m_50, m_51, m_52, m_53, m_54, m_55, m_56, m_57, m_58, m_59])), (w0, .inl (K 0, 5500, .inl fw)), (e0, .inl (K 2, 13, .inr (.inl fe))), (q0, .inl (K 2, 400, .inr (.inl f_197)))] H) (hD : va_D A [(m0, .inr (12, [m_0, m_1, m_2, .ref w0, m_4, m_5, m_6, m_7, m_8, m_9, m_10, m_11, m_12, m_13, m_14, m_15, m_16, m_17, m_18, m_19, .int 0, m_21, m_22, m_23, m_24, m_25, m_26, m_27, m_28, m_29, m_30, m_31, m_32, m_33, .int lw, .ref e0, m_36, .ref q0, .int v_195, .long v_196, .long sm, m_41, m_42, m_43, m_44, m_45, m_46, m_47, m_48, m_49, m_50, m_51, m_52, m_53, m_54, m_55, m_56, m_57, m_58, m_59])), (w0, .inl (K 0, 5500, .inl fw)), (e0, .inl (K 2, 13, .inr (.inl fe))), (q0, .inl (K 2, 400, .inr (.inl f_197)))]) (hS : va_S A s.heap H locs) (ls : Array Slot) (hl : lv_has ls 2 [(0, .ref m0), (1, .int x)]), W p l e ({ frames := 2, cells := 0, slots := 0, locals := 51 }) s m (([.ref m0, .int x] : List Value).toArray) below meth c H locs 0 0 Q (F0 m 59 ls []) := by
    clear hE hP hD hS hl
    intro v_195 v_196 f_197 hv_195 hE H locs hP hD hS ls hl
    replace hE := hE.trans (E_v_isSo_j59.eq_def _ _ _ _ _ _ _ _)
    refine lv_aload_n hx hb dX12_isSo_59 rfl (lv_at hl 0 rfl) ?_
    refine va_get (ci := 12) (v := .ref w0) (C := RX12) (T := TX12) (N := 60) hx hb hts hw12 hown hK hP 0 rfl rfl 3 (by decide +kernel) (hts _ mm_X12_isSo_833) (fun _ h9 => h9) rfl dX12_isSo_60 ?_
    refine lv_iload_n hx hb dX12_isSo_63 rfl (lv_at hl 1 rfl) ?_
    refine va_iald hx hb hK hP 1 0 rfl rfl (i_in rfl (by omega)) dX12_isSo_64 ?_
    refine lv_topi (fun x_210 ex_210 => ?_)
    replace hE := hE.trans (Lt_in ex_210)
    refine lv_iconst (v := 3) hx hb dX12_isSo_65 (by decide +kernel) ?_
    refine lv_icmp_eq (tgt := 110) hx hb dX12_isSo_66 (by decide +kernel) (fun c_211 => ?_) (fun c_211 => ?_)
    · have c_211i := i_eq (x := x_210.toInt) (y := 3) rfl rfl c_211
      replace hE := hE.trans (if_pos c_211)
      refine lv_iconst (v := 1) hx hb dX12_isSo_110 (by decide +kernel) ?_
      rw [← hQ]
      have hP9 := hP.sub (ws' := [(m0, .inr (12, [m_0, m_1, m_2, .ref w0, m_4, m_5, m_6, m_7, m_8, m_9, m_10, m_11, m_12, m_13, m_14, m_15, m_16, m_17, m_18, m_19, .int 0, m_21, m_22, m_23, m_24, m_25, m_26, m_27, m_28, m_29, m_30, m_31, m_32, m_33, .int lw, .ref e0, m_36, .ref q0, .int v_195, .long v_196, .long sm, m_41, m_42, m_43, m_44, m_45, m_46, m_47, m_48, m_49, m_50, m_51, m_52, m_53, m_54, m_55, m_56, m_57, m_58, m_59])), (w0, .inl (K 0, 5500, .inl fw)), (e0, .inl (K 2, 13, .inr (.inl fe))), (q0, .inl (K 2, 400, .inr (.inl f_197)))]) [0, 1, 2, 3] rfl
      have hD9 := hD.sub (ws' := [(m0, .inr (12, [m_0, m_1, m_2, .ref w0, m_4, m_5, m_6, m_7, m_8, m_9, m_10, m_11, m_12, m_13, m_14, m_15, m_16, m_17, m_18, m_19, .int 0, m_21, m_22, m_23, m_24, m_25, m_26, m_27, m_28, m_29, m_30, m_31, m_32, m_33, .int lw, .ref e0, m_36, .ref q0, .int v_195, .long v_196, .long sm, m_41, m_42, m_43, m_44, m_45, m_46, m_47, m_48, m_49, m_50, m_51, m_52, m_53, m_54, m_55, m_56, m_57, m_58, m_59])), (w0, .inl (K 0, 5500, .inl fw)), (e0, .inl (K 2, 13, .inr (.inl fe))), (q0, .inl (K 2, 400, .inr (.inl f_197)))]) [0, 1, 2, 3] (by decide +kernel) rfl
      exact W.zret (v := 1) hx hb hr (by decide +kernel) (fun t ht hW => ⟨⟨1, ((fun _ => 0, fun _ => fun _ => 0, fun i => match i with | _ => f_197, fun i => match i with | _ => v_195, fun i => match i with | 0 => v_196 | _ => sm, fun _ => fun _ => none) : Su), rfl, ⟨(show 0 ≤ (1 : Int32).toInt ∧ (1 : Int32).toInt ≤ 1 by decide), (show 0 ≤ (v_195 : Int32).toInt ∧ (v_195 : Int32).toInt ≤ 1 by omega), hE.symm, trivial⟩, (⟨by rw [ht]; exact hP9, hD9⟩ : Wd D A _ t)⟩, hS.F ht⟩) hS.2.2 dX12_isSo_111
    · have c_211i := i_ne (x := x_210.toInt) (y := 3) rfl rfl c_211
      replace hE := hE.trans (if_neg c_211)
      refine lv_aload_n hx hb dX12_isSo_69 rfl (lv_at hl 0 rfl) ?_
      refine lv_aload_n hx hb dX12_isSo_70 rfl (lv_at hl 0 rfl) ?_
      refine va_get (ci := 12) (v := .ref w0) (C := RX12) (T := TX12) (N := 60) hx hb hts hw12 hown hK hP 0 rfl rfl 3 (by decide +kernel) (hts _ mm_X12_isSo_833) (fun _ h9 => h9) rfl dX12_isSo_71 ?_
      refine lv_iload_n hx hb dX12_isSo_74 rfl (lv_at hl 1 rfl) ?_
      refine lv_iconst (v := 3) hx hb dX12_isSo_75 (by decide +kernel) ?_
      refine lv_iadd hx hb dX12_isSo_76 ?_
      refine lv_topi (fun x_212 ex_212 => ?_)
      replace hE := hE.trans (Lt_in ex_212)
      have hx_212 : x_212.toInt = (x.toInt + 3) := by rw [ex_212]; exact i_add rfl (show (3 : Int32).toInt = 3 from rfl) (by omega)
      refine va_iald hx hb hK hP 1 0 rfl rfl (i_in hx_212 (by omega)) dX12_isSo_77 ?_
      refine lv_topi (fun x_213 ex_213 => ?_)
      replace hE := hE.trans (Lt_in ex_213)
      have ox_213 : x_213 = fw (b + 2 + 8 * c_ + 3) := by rw [ex_213, i_clamp hx_212, show ((x.toInt + 3)).toNat = b + 2 + 8 * c_ + 3 by omega]
      refine lv_aload_n hx hb dX12_isSo_78 rfl (lv_at hl 0 rfl) ?_
      refine va_get (ci := 12) (v := .ref w0) (C := RX12) (T := TX12) (N := 60) hx hb hts hw12 hown hK hP 0 rfl rfl 3 (by decide +kernel) (hts _ mm_X12_isSo_833) (fun _ h9 => h9) rfl dX12_isSo_79 ?_
      refine lv_iload_n hx hb dX12_isSo_82 rfl (lv_at hl 1 rfl) ?_
      refine lv_iconst (v := 4) hx hb dX12_isSo_83 (by decide +kernel) ?_
      refine lv_iadd hx hb dX12_isSo_84 ?_
      refine lv_topi (fun x_214 ex_214 => ?_)
      replace hE := hE.trans (Lt_in ex_214)
      have hx_214 : x_214.toInt = (x.toInt + 4) := by rw [ex_214]; exact i_add rfl (show (4 : Int32).toInt = 4 from rfl) (by omega)
      refine va_iald hx hb hK hP 1 0 rfl rfl (i_in hx_214 (by omega)) dX12_isSo_85 ?_
      refine lv_topi (fun x_215 ex_215 => ?_)
      replace hE := hE.trans (Lt_in ex_215)
      have ox_215 : x_215 = fw (b + 2 + 8 * c_ + 4) := by rw [ex_215, i_clamp hx_214, show ((x.toInt + 4)).toNat = b + 2 + 8 * c_ + 4 by omega]
      refine kcv (S := Su) (wr := []) (va_runV (As := [.int x_213, .int x_215]) (rest := []) ⟨hx, hb, hml, hown, hts⟩ (v_reckonAll l D K b m0 x_213 x_215 m_0 m_1 m_2 w0 m_4 m_5 m_6 m_7 m_8 m_9 m_10 m_11 m_12 m_13 m_14 m_15 m_16 m_17 m_18 m_19 m_21 m_22 m_23 m_24 m_25 m_26 m_27 m_28 m_29 m_30 m_31 m_32 m_33 lw e0 m_36 q0 v_195 v_196 sm m_41 m_42 m_43 m_44 m_45 m_46 m_47 m_48 m_49 m_50 m_51 m_52 m_53 m_54 m_55 m_56 m_57 m_58 m_59 fw gr fe f_197 H.size (by first | omega | decide) (by first | omega | decide) (by omega) (by rw [ox_213, ox_215]; exact (hlaw.2.2 c_ hc_).1) zfw zgr) (cwV 2 hts gX12_isSo_X12_reckonAll rfl rfl rfl (by decide +kernel) ⟨Nat.le_of_ble_eq_true rfl, Nat.le_of_ble_eq_true rfl⟩) (mkV hK hN (hP.sub [0, 1, 2, 3] rfl) (hD.sub [0, 1, 2, 3] (by decide +kernel) rfl) (ci := 12) (q0 := 0) rfl rfl) rfl rfl hl.1 rfl (lv_room (Nat.le_of_ble_eq_true rfl)) dX12_isSo_86 ⟨Nat.le_of_ble_eq_true rfl, Nat.le_of_ble_eq_true rfl⟩) hP hD hS hA [0, 1, 2, 3] [] rfl rfl (by decide +kernel) (by decide +kernel) (fun u_217 H locs hw hP0 hD0 hS0 => ?_)
      clear hP hD hS
      have hP := hP0
      have hD := hD0
      have hS := hS0
      clear hP0 hD0 hS0
      replace hP : va_P D vwCl [(m0, .inr (12, [m_0, m_1, m_2, .ref w0, m_4, m_5, m_6, m_7, m_8, m_9, m_10, m_11, m_12, m_13, m_14, m_15, m_16, m_17, m_18, m_19, .int 0, m_21, m_22, m_23, m_24, m_25, m_26, m_27, m_28, m_29, m_30, m_31, m_32, m_33, .int lw, .ref e0, m_36, .ref q0, .int (u_217.2.2.2.1 0), .long (u_217.2.2.2.2.1 0), .long sm, m_41, m_42, m_43, m_44, m_45, m_46, m_47, m_48, m_49, m_50, m_51, m_52, m_53, m_54, m_55, m_56, m_57, m_58, m_59])), (w0, .inl (K 0, 5500, .inl fw)), (e0, .inl (K 2, 13, .inr (.inl fe))), (q0, .inl (K 2, 400, .inr (.inl (u_217.2.2.1 0))))] H := hP
      replace hD : va_D A [(m0, .inr (12, [m_0, m_1, m_2, .ref w0, m_4, m_5, m_6, m_7, m_8, m_9, m_10, m_11, m_12, m_13, m_14, m_15, m_16, m_17, m_18, m_19, .int 0, m_21, m_22, m_23, m_24, m_25, m_26, m_27, m_28, m_29, m_30, m_31, m_32, m_33, .int lw, .ref e0, m_36, .ref q0, .int (u_217.2.2.2.1 0), .long (u_217.2.2.2.2.1 0), .long sm, m_41, m_42, m_43, m_44, m_45, m_46, m_47, m_48, m_49, m_50, m_51, m_52, m_53, m_54, m_55, m_56, m_57, m_58, m_59])), (w0, .inl (K 0, 5500, .inl fw)), (e0, .inl (K 2, 13, .inr (.inl fe))), (q0, .inl (K 2, 400, .inr (.inl (u_217.2.2.1 0))))] := hD
      obtain ⟨k_218, k_219, -⟩ := hw
      replace hE := (hE.trans (Lt2_in k_219)).trans (Lt2_in rfl)
      refine lv_aload_n hx hb dX12_isSo_89 rfl (lv_at hl 0 rfl) ?_
      refine lv_aload_n hx hb dX12_isSo_90 rfl (lv_at hl 0 rfl) ?_
      refine va_get (ci := 12) (v := .long (u_217.2.2.2.2.1 0)) (C := RX12) (T := TX12) (N := 60) hx hb hts hw12 hown hK hP 0 rfl rfl 39 (by decide +kernel) (hts _ mm_X12_isSo_869) (fun _ h9 => h9) rfl dX12_isSo_91 ?_
      refine va_put (ci := 12) (v := .long (u_217.2.2.2.2.1 0)) (ty := .long) (C := RX12) (T := TX12) (N := 60) hx hb hts hw12 tyX12 tyX12_ok nmX12 hown hK hP hD hS 0 rfl rfl 40 (by decide +kernel) (hts _ mm_X12_isSo_870) (fun _ h9 => h9) rfl (by decide +kernel) (by first | rfl | decide) (by first | rfl | decide) (Nat.le_of_ble_eq_true rfl) dX12_isSo_94 (fun H locs hP0 hD0 hS0 => ?_)
      clear hP hD hS
      have hP := hP0
      have hD := hD0
      have hS := hS0
      clear hP0 hD0 hS0
      replace hP : va_P D vwCl [(m0, .inr (12, [m_0, m_1, m_2, .ref w0, m_4, m_5, m_6, m_7, m_8, m_9, m_10, m_11, m_12, m_13, m_14, m_15, m_16, m_17, m_18, m_19, .int 0, m_21, m_22, m_23, m_24, m_25, m_26, m_27, m_28, m_29, m_30, m_31, m_32, m_33, .int lw, .ref e0, m_36, .ref q0, .int (u_217.2.2.2.1 0), .long (u_217.2.2.2.2.1 0), .long (u_217.2.2.2.2.1 0), m_41, m_42, m_43, m_44, m_45, m_46, m_47, m_48, m_49, m_50, m_51, m_52, m_53, m_54, m_55, m_56, m_57, m_58, m_59])), (w0, .inl (K 0, 5500, .inl fw)), (e0, .inl (K 2, 13, .inr (.inl fe))), (q0, .inl (K 2, 400, .inr (.inl (u_217.2.2.1 0))))] H := hP
      replace hD : va_D A [(m0, .inr (12, [m_0, m_1, m_2, .ref w0, m_4, m_5, m_6, m_7, m_8, m_9, m_10, m_11, m_12, m_13, m_14, m_15, m_16, m_17, m_18, m_19, .int 0, m_21, m_22, m_23, m_24, m_25, m_26, m_27, m_28, m_29, m_30, m_31, m_32, m_33, .int lw, .ref e0, m_36, .ref q0, .int (u_217.2.2.2.1 0), .long (u_217.2.2.2.2.1 0), .long (u_217.2.2.2.2.1 0), m_41, m_42, m_43, m_44, m_45, m_46, m_47, m_48, m_49, m_50, m_51, m_52, m_53, m_54, m_55, m_56, m_57, m_58, m_59])), (w0, .inl (K 0, 5500, .inl fw)), (e0, .inl (K 2, 13, .inr (.inl fe))), (q0, .inl (K 2, 400, .inr (.inl (u_217.2.2.1 0))))] := hD
      refine lv_aload_n hx hb dX12_isSo_97 rfl (lv_at hl 0 rfl) ?_
      refine va_get (ci := 12) (v := .int (u_217.2.2.2.1 0)) (C := RX12) (T := TX12) (N := 60) hx hb hts hw12 hown hK hP 0 rfl rfl 38 (by decide +kernel) (hts _ mm_X12_isSo_868) (fun _ h9 => h9) rfl dX12_isSo_98 ?_
      refine lv_if_ne (tgt := 108) hx hb dX12_isSo_101 (by decide +kernel) (fun c_220 => ?_) (fun c_220 => ?_)
      · have c_220i := i_ne (x := (u_217.2.2.2.1 0).toInt) (y := 0) rfl rfl c_220
        replace hE := hE.trans (if_neg c_220)
        refine lv_iconst (v := 0) hx hb dX12_isSo_108 (by decide +kernel) ?_
        rw [← hQ]
        have hP9 := hP.sub (ws' := [(m0, .inr (12, [m_0, m_1, m_2, .ref w0, m_4, m_5, m_6, m_7, m_8, m_9, m_10, m_11, m_12, m_13, m_14, m_15, m_16, m_17, m_18, m_19, .int 0, m_21, m_22, m_23, m_24, m_25, m_26, m_27, m_28, m_29, m_30, m_31, m_32, m_33, .int lw, .ref e0, m_36, .ref q0, .int (u_217.2.2.2.1 0), .long (u_217.2.2.2.2.1 0), .long (u_217.2.2.2.2.1 0), m_41, m_42, m_43, m_44, m_45, m_46, m_47, m_48, m_49, m_50, m_51, m_52, m_53, m_54, m_55, m_56, m_57, m_58, m_59])), (w0, .inl (K 0, 5500, .inl fw)), (e0, .inl (K 2, 13, .inr (.inl fe))), (q0, .inl (K 2, 400, .inr (.inl (u_217.2.2.1 0))))]) [0, 1, 2, 3] rfl
        have hD9 := hD.sub (ws' := [(m0, .inr (12, [m_0, m_1, m_2, .ref w0, m_4, m_5, m_6, m_7, m_8, m_9, m_10, m_11, m_12, m_13, m_14, m_15, m_16, m_17, m_18, m_19, .int 0, m_21, m_22, m_23, m_24, m_25, m_26, m_27, m_28, m_29, m_30, m_31, m_32, m_33, .int lw, .ref e0, m_36, .ref q0, .int (u_217.2.2.2.1 0), .long (u_217.2.2.2.2.1 0), .long (u_217.2.2.2.2.1 0), m_41, m_42, m_43, m_44, m_45, m_46, m_47, m_48, m_49, m_50, m_51, m_52, m_53, m_54, m_55, m_56, m_57, m_58, m_59])), (w0, .inl (K 0, 5500, .inl fw)), (e0, .inl (K 2, 13, .inr (.inl fe))), (q0, .inl (K 2, 400, .inr (.inl (u_217.2.2.1 0))))]) [0, 1, 2, 3] (by decide +kernel) rfl
        exact W.zret (v := 0) hx hb hr (by decide +kernel) (fun t ht hW => ⟨⟨0, ((fun _ => 0, fun _ => fun _ => 0, fun i => match i with | _ => (u_217.2.2.1 0), fun i => match i with | _ => (u_217.2.2.2.1 0), fun i => match i with | 0 => (u_217.2.2.2.2.1 0) | _ => (u_217.2.2.2.2.1 0), fun _ => fun _ => none) : Su), rfl, ⟨(show 0 ≤ (0 : Int32).toInt ∧ (0 : Int32).toInt ≤ 1 by decide), (show 0 ≤ ((u_217.2.2.2.1 0) : Int32).toInt ∧ ((u_217.2.2.2.1 0) : Int32).toInt ≤ 1 by omega), hE.symm, trivial⟩, (⟨by rw [ht]; exact hP9, hD9⟩ : Wd D A _ t)⟩, hS.F ht⟩) hS.2.2 dX12_isSo_109
      · have c_220i := i_eq (x := (u_217.2.2.2.1 0).toInt) (y := 0) rfl rfl c_220
        replace hE := hE.trans (if_pos c_220)
        refine lv_iconst (v := 1) hx hb dX12_isSo_104 (by decide +kernel) ?_
        refine lv_goto (tgt := 109) hx hb dX12_isSo_105 (by decide +kernel) ?_
        rw [← hQ]
        have hP9 := hP.sub (ws' := [(m0, .inr (12, [m_0, m_1, m_2, .ref w0, m_4, m_5, m_6, m_7, m_8, m_9, m_10, m_11, m_12, m_13, m_14, m_15, m_16, m_17, m_18, m_19, .int 0, m_21, m_22, m_23, m_24, m_25, m_26, m_27, m_28, m_29, m_30, m_31, m_32, m_33, .int lw, .ref e0, m_36, .ref q0, .int (u_217.2.2.2.1 0), .long (u_217.2.2.2.2.1 0), .long (u_217.2.2.2.2.1 0), m_41, m_42, m_43, m_44, m_45, m_46, m_47, m_48, m_49, m_50, m_51, m_52, m_53, m_54, m_55, m_56, m_57, m_58, m_59])), (w0, .inl (K 0, 5500, .inl fw)), (e0, .inl (K 2, 13, .inr (.inl fe))), (q0, .inl (K 2, 400, .inr (.inl (u_217.2.2.1 0))))]) [0, 1, 2, 3] rfl
        have hD9 := hD.sub (ws' := [(m0, .inr (12, [m_0, m_1, m_2, .ref w0, m_4, m_5, m_6, m_7, m_8, m_9, m_10, m_11, m_12, m_13, m_14, m_15, m_16, m_17, m_18, m_19, .int 0, m_21, m_22, m_23, m_24, m_25, m_26, m_27, m_28, m_29, m_30, m_31, m_32, m_33, .int lw, .ref e0, m_36, .ref q0, .int (u_217.2.2.2.1 0), .long (u_217.2.2.2.2.1 0), .long (u_217.2.2.2.2.1 0), m_41, m_42, m_43, m_44, m_45, m_46, m_47, m_48, m_49, m_50, m_51, m_52, m_53, m_54, m_55, m_56, m_57, m_58, m_59])), (w0, .inl (K 0, 5500, .inl fw)), (e0, .inl (K 2, 13, .inr (.inl fe))), (q0, .inl (K 2, 400, .inr (.inl (u_217.2.2.1 0))))]) [0, 1, 2, 3] (by decide +kernel) rfl
        exact W.zret (v := 1) hx hb hr (by decide +kernel) (fun t ht hW => ⟨⟨1, ((fun _ => 0, fun _ => fun _ => 0, fun i => match i with | _ => (u_217.2.2.1 0), fun i => match i with | _ => (u_217.2.2.2.1 0), fun i => match i with | 0 => (u_217.2.2.2.2.1 0) | _ => (u_217.2.2.2.2.1 0), fun _ => fun _ => none) : Su), rfl, ⟨(show 0 ≤ (1 : Int32).toInt ∧ (1 : Int32).toInt ≤ 1 by decide), (show 0 ≤ ((u_217.2.2.2.1 0) : Int32).toInt ∧ ((u_217.2.2.2.1 0) : Int32).toInt ≤ 1 by omega), hE.symm, trivial⟩, (⟨by rw [ht]; exact hP9, hD9⟩ : Wd D A _ t)⟩, hS.F ht⟩) hS.2.2 dX12_isSo_109
  refine lv_icmp_ge (tgt := 59) hx hb dX12_isSo_17 (by decide +kernel) (fun c_221 => ?_) (fun c_221 => ?_)
  · have c_221i := i_le (x := x_180.toInt) (y := x_178.toInt) rfl rfl c_221
    replace hE := hE.trans (if_pos c_221)
    exact j_209 bro val frs (by omega) hE _ _ hP hD hS ls (lv_sub hl [0, 1] rfl)
  · have c_221i := i_nle (x := x_180.toInt) (y := x_178.toInt) rfl rfl c_221
    replace hE := hE.trans (if_neg c_221)
    refine lv_aload_n hx hb dX12_isSo_20 rfl (lv_at hl 0 rfl) ?_
    refine lv_aload_n hx hb dX12_isSo_21 rfl (lv_at hl 0 rfl) ?_
    refine va_get (ci := 12) (v := .ref w0) (C := RX12) (T := TX12) (N := 60) hx hb hts hw12 hown hK hP 0 rfl rfl 3 (by decide +kernel) (hts _ mm_X12_isSo_833) (fun _ h9 => h9) rfl dX12_isSo_22 ?_
    refine lv_iload_n hx hb dX12_isSo_25 rfl (lv_at hl 1 rfl) ?_
    refine lv_iconst (v := 5) hx hb dX12_isSo_26 (by decide +kernel) ?_
    refine lv_iadd hx hb dX12_isSo_27 ?_
    refine lv_topi (fun x_222 ex_222 => ?_)
    replace hE := hE.trans (Lt_in ex_222)
    have hx_222 : x_222.toInt = (x.toInt + 5) := by rw [ex_222]; exact i_add rfl (show (5 : Int32).toInt = 5 from rfl) (by omega)
    refine va_iald hx hb hK hP 1 0 rfl rfl (i_in hx_222 (by omega)) dX12_isSo_28 ?_
    refine lv_topi (fun x_223 ex_223 => ?_)
    replace hE := hE.trans (Lt_in ex_223)
    have ox_223 : x_223 = fw (b + 2 + 8 * c_ + 5) := by rw [ex_223, i_clamp hx_222, show ((x.toInt + 5)).toNat = b + 2 + 8 * c_ + 5 by omega]
    refine lv_aload_n hx hb dX12_isSo_29 rfl (lv_at hl 0 rfl) ?_
    refine va_get (ci := 12) (v := .ref w0) (C := RX12) (T := TX12) (N := 60) hx hb hts hw12 hown hK hP 0 rfl rfl 3 (by decide +kernel) (hts _ mm_X12_isSo_833) (fun _ h9 => h9) rfl dX12_isSo_30 ?_
    refine lv_iload_n hx hb dX12_isSo_33 rfl (lv_at hl 1 rfl) ?_
    refine lv_bipush (v := 6) hx hb dX12_isSo_34 (by decide +kernel) ?_
    refine lv_iadd hx hb dX12_isSo_36 ?_
    refine lv_topi (fun x_224 ex_224 => ?_)
    replace hE := hE.trans (Lt_in ex_224)
    have hx_224 : x_224.toInt = (x.toInt + 6) := by rw [ex_224]; exact i_add rfl (show (6 : Int32).toInt = 6 from rfl) (by omega)
    refine va_iald hx hb hK hP 1 0 rfl rfl (i_in hx_224 (by omega)) dX12_isSo_37 ?_
    refine lv_topi (fun x_225 ex_225 => ?_)
    replace hE := hE.trans (Lt_in ex_225)
    have ox_225 : x_225 = fw (b + 2 + 8 * c_ + 6) := by rw [ex_225, i_clamp hx_224, show ((x.toInt + 6)).toNat = b + 2 + 8 * c_ + 6 by omega]
    refine kcv (S := Su) (wr := []) (va_runV (As := [.int x_223, .int x_225]) (rest := []) ⟨hx, hb, hml, hown, hts⟩ (v_reckonAll l D K b m0 x_223 x_225 m_0 m_1 m_2 w0 m_4 m_5 m_6 m_7 m_8 m_9 m_10 m_11 m_12 m_13 m_14 m_15 m_16 m_17 m_18 m_19 m_21 m_22 m_23 m_24 m_25 m_26 m_27 m_28 m_29 m_30 m_31 m_32 m_33 lw e0 m_36 q0 bro val sm m_41 m_42 m_43 m_44 m_45 m_46 m_47 m_48 m_49 m_50 m_51 m_52 m_53 m_54 m_55 m_56 m_57 m_58 m_59 fw gr fe frs s.heap.size (by first | omega | decide) (by first | omega | decide) (by omega) (by rw [ox_223, ox_225]; exact (hlaw.2.2 c_ hc_).2) zfw zgr) (cwV 2 hts gX12_isSo_X12_reckonAll rfl rfl rfl (by decide +kernel) ⟨Nat.le_of_ble_eq_true rfl, Nat.le_of_ble_eq_true rfl⟩) (mkV hK hN (hP.sub [0, 1, 2, 3] rfl) (hD.sub [0, 1, 2, 3] (by decide +kernel) rfl) (ci := 12) (q0 := 0) rfl rfl) rfl rfl hl.1 rfl (lv_room (Nat.le_of_ble_eq_true rfl)) dX12_isSo_38 ⟨Nat.le_of_ble_eq_true rfl, Nat.le_of_ble_eq_true rfl⟩) hP hD hS hA [0, 1, 2, 3] [] rfl rfl (by decide +kernel) (by decide +kernel) (fun u_227 H locs hw hP0 hD0 hS0 => ?_)
    clear hP hD hS
    have hP := hP0
    have hD := hD0
    have hS := hS0
    clear hP0 hD0 hS0
    replace hP : va_P D vwCl [(m0, .inr (12, [m_0, m_1, m_2, .ref w0, m_4, m_5, m_6, m_7, m_8, m_9, m_10, m_11, m_12, m_13, m_14, m_15, m_16, m_17, m_18, m_19, .int 0, m_21, m_22, m_23, m_24, m_25, m_26, m_27, m_28, m_29, m_30, m_31, m_32, m_33, .int lw, .ref e0, m_36, .ref q0, .int (u_227.2.2.2.1 0), .long (u_227.2.2.2.2.1 0), .long sm, m_41, m_42, m_43, m_44, m_45, m_46, m_47, m_48, m_49, m_50, m_51, m_52, m_53, m_54, m_55, m_56, m_57, m_58, m_59])), (w0, .inl (K 0, 5500, .inl fw)), (e0, .inl (K 2, 13, .inr (.inl fe))), (q0, .inl (K 2, 400, .inr (.inl (u_227.2.2.1 0))))] H := hP
    replace hD : va_D A [(m0, .inr (12, [m_0, m_1, m_2, .ref w0, m_4, m_5, m_6, m_7, m_8, m_9, m_10, m_11, m_12, m_13, m_14, m_15, m_16, m_17, m_18, m_19, .int 0, m_21, m_22, m_23, m_24, m_25, m_26, m_27, m_28, m_29, m_30, m_31, m_32, m_33, .int lw, .ref e0, m_36, .ref q0, .int (u_227.2.2.2.1 0), .long (u_227.2.2.2.2.1 0), .long sm, m_41, m_42, m_43, m_44, m_45, m_46, m_47, m_48, m_49, m_50, m_51, m_52, m_53, m_54, m_55, m_56, m_57, m_58, m_59])), (w0, .inl (K 0, 5500, .inl fw)), (e0, .inl (K 2, 13, .inr (.inl fe))), (q0, .inl (K 2, 400, .inr (.inl (u_227.2.2.1 0))))] := hD
    obtain ⟨k_228, k_229, -⟩ := hw
    replace hE := (hE.trans (Lt2_in k_229)).trans (Lt2_in rfl)
    refine lv_aload_n hx hb dX12_isSo_41 rfl (lv_at hl 0 rfl) ?_
    refine va_get (ci := 12) (v := .int (u_227.2.2.2.1 0)) (C := RX12) (T := TX12) (N := 60) hx hb hts hw12 hown hK hP 0 rfl rfl 38 (by decide +kernel) (hts _ mm_X12_isSo_868) (fun _ h9 => h9) rfl dX12_isSo_42 ?_
    have j_232 : ∀ (hE : E_v_isSo x lw bro val sm fw fe frs = E_v_isSo_j57 sm (u_227.2.2.2.1 0) (u_227.2.2.2.2.1 0) (u_227.2.2.1 0)) (H : Heap) (locs : List Loc) (hP : va_P D vwCl [(m0, .inr (12, [m_0, m_1, m_2, .ref w0, m_4, m_5, m_6, m_7, m_8, m_9, m_10, m_11, m_12, m_13, m_14, m_15, m_16, m_17, m_18, m_19, .int 0, m_21, m_22, m_23, m_24, m_25, m_26, m_27, m_28, m_29, m_30, m_31, m_32, m_33, .int lw, .ref e0, m_36, .ref q0, .int (u_227.2.2.2.1 0), .long (u_227.2.2.2.2.1 0), .long sm, m_41, m_42, m_43, m_44, m_45, m_46, m_47, m_48, m_49, m_50, m_51, m_52, m_53, m_54, m_55, m_56, m_57, m_58, m_59])), (w0, .inl (K 0, 5500, .inl fw)), (e0, .inl (K 2, 13, .inr (.inl fe))), (q0, .inl (K 2, 400, .inr (.inl (u_227.2.2.1 0))))] H) (hD : va_D A [(m0, .inr (12, [m_0, m_1, m_2, .ref w0, m_4, m_5, m_6, m_7, m_8, m_9, m_10, m_11, m_12, m_13, m_14, m_15, m_16, m_17, m_18, m_19, .int 0, m_21, m_22, m_23, m_24, m_25, m_26, m_27, m_28, m_29, m_30, m_31, m_32, m_33, .int lw, .ref e0, m_36, .ref q0, .int (u_227.2.2.2.1 0), .long (u_227.2.2.2.2.1 0), .long sm, m_41, m_42, m_43, m_44, m_45, m_46, m_47, m_48, m_49, m_50, m_51, m_52, m_53, m_54, m_55, m_56, m_57, m_58, m_59])), (w0, .inl (K 0, 5500, .inl fw)), (e0, .inl (K 2, 13, .inr (.inl fe))), (q0, .inl (K 2, 400, .inr (.inl (u_227.2.2.1 0))))]) (hS : va_S A s.heap H locs) (ls : Array Slot) (hl : lv_has ls 2 []), W p l e ({ frames := 2, cells := 0, slots := 0, locals := 51 }) s m (([.ref m0, .int x] : List Value).toArray) below meth c H locs 0 0 Q (F0 m 57 ls []) := by
      clear hE hP hD hS hl
      intro hE H locs hP hD hS ls hl
      replace hE := hE.trans (E_v_isSo_j57.eq_def _ _ _ _)
      refine lv_iconst (v := 0) hx hb dX12_isSo_57 (by decide +kernel) ?_
      rw [← hQ]
      have hP9 := hP.sub (ws' := [(m0, .inr (12, [m_0, m_1, m_2, .ref w0, m_4, m_5, m_6, m_7, m_8, m_9, m_10, m_11, m_12, m_13, m_14, m_15, m_16, m_17, m_18, m_19, .int 0, m_21, m_22, m_23, m_24, m_25, m_26, m_27, m_28, m_29, m_30, m_31, m_32, m_33, .int lw, .ref e0, m_36, .ref q0, .int (u_227.2.2.2.1 0), .long (u_227.2.2.2.2.1 0), .long sm, m_41, m_42, m_43, m_44, m_45, m_46, m_47, m_48, m_49, m_50, m_51, m_52, m_53, m_54, m_55, m_56, m_57, m_58, m_59])), (w0, .inl (K 0, 5500, .inl fw)), (e0, .inl (K 2, 13, .inr (.inl fe))), (q0, .inl (K 2, 400, .inr (.inl (u_227.2.2.1 0))))]) [0, 1, 2, 3] rfl
      have hD9 := hD.sub (ws' := [(m0, .inr (12, [m_0, m_1, m_2, .ref w0, m_4, m_5, m_6, m_7, m_8, m_9, m_10, m_11, m_12, m_13, m_14, m_15, m_16, m_17, m_18, m_19, .int 0, m_21, m_22, m_23, m_24, m_25, m_26, m_27, m_28, m_29, m_30, m_31, m_32, m_33, .int lw, .ref e0, m_36, .ref q0, .int (u_227.2.2.2.1 0), .long (u_227.2.2.2.2.1 0), .long sm, m_41, m_42, m_43, m_44, m_45, m_46, m_47, m_48, m_49, m_50, m_51, m_52, m_53, m_54, m_55, m_56, m_57, m_58, m_59])), (w0, .inl (K 0, 5500, .inl fw)), (e0, .inl (K 2, 13, .inr (.inl fe))), (q0, .inl (K 2, 400, .inr (.inl (u_227.2.2.1 0))))]) [0, 1, 2, 3] (by decide +kernel) rfl
      exact W.zret (v := 0) hx hb hr (by decide +kernel) (fun t ht hW => ⟨⟨0, ((fun _ => 0, fun _ => fun _ => 0, fun i => match i with | _ => (u_227.2.2.1 0), fun i => match i with | _ => (u_227.2.2.2.1 0), fun i => match i with | 0 => (u_227.2.2.2.2.1 0) | _ => sm, fun _ => fun _ => none) : Su), rfl, ⟨(show 0 ≤ (0 : Int32).toInt ∧ (0 : Int32).toInt ≤ 1 by decide), (show 0 ≤ ((u_227.2.2.2.1 0) : Int32).toInt ∧ ((u_227.2.2.2.1 0) : Int32).toInt ≤ 1 by omega), hE.symm, trivial⟩, (⟨by rw [ht]; exact hP9, hD9⟩ : Wd D A _ t)⟩, hS.F ht⟩) hS.2.2 dX12_isSo_58
    refine lv_if_ne (tgt := 57) hx hb dX12_isSo_45 (by decide +kernel) (fun c_233 => ?_) (fun c_233 => ?_)
    · have c_233i := i_ne (x := (u_227.2.2.2.1 0).toInt) (y := 0) rfl rfl c_233
      replace hE := hE.trans (if_neg c_233)
      exact j_232   hE _ _ hP hD hS ls (lv_sub hl [] rfl)
    · have c_233i := i_eq (x := (u_227.2.2.2.1 0).toInt) (y := 0) rfl rfl c_233
      replace hE := hE.trans (if_pos c_233)
      refine lv_aload_n hx hb dX12_isSo_48 rfl (lv_at hl 0 rfl) ?_
      refine va_get (ci := 12) (v := .long (u_227.2.2.2.2.1 0)) (C := RX12) (T := TX12) (N := 60) hx hb hts hw12 hown hK hP 0 rfl rfl 39 (by decide +kernel) (hts _ mm_X12_isSo_869) (fun _ h9 => h9) rfl dX12_isSo_49 ?_
      refine lv_lconst (v := 0) hx hb dX12_isSo_52 (by decide +kernel) ?_
      refine W.lcmp hx hb dX12_isSo_53 ?_
      refine lv_if_ne (tgt := 59) hx hb dX12_isSo_54 (by decide +kernel) (fun c_234 => ?_) (fun c_234 => ?_)
      · have c_234i := l_ne (x := (u_227.2.2.2.2.1 0).toInt) (y := 0) rfl rfl (fun q => c_234 ((lg_cmp_eq (u_227.2.2.2.2.1 0) 0).mpr q))
        replace hE := hE.trans (if_neg c_234)
        exact j_209 (u_227.2.2.2.1 0) (u_227.2.2.2.2.1 0) (u_227.2.2.1 0) (by omega) hE _ _ hP hD hS ls (lv_sub hl [0, 1] rfl)
      · have c_234i := l_eq (x := (u_227.2.2.2.2.1 0).toInt) (y := 0) rfl rfl ((lg_cmp_eq (u_227.2.2.2.2.1 0) 0).mp c_234)
        replace hE := hE.trans (if_pos c_234)
        exact j_232   hE _ _ hP hD hS ls (lv_sub hl [] rfl)
set_option maxRecDepth 100000 in
noncomputable def E_v_tells_j213 (v_803 : Int32) (rec_877 : Int32 → Int64 → Int32 → Int64 → Int64 → (Nat → Int64) → (Int64 × Int32 × Int32 × Int64 × Int64 × (Nat → Int64) × (Nat → Int64))) (v_894 : Int64) (v_895 : Int32) (v_896 : Int64) (v_897 : Int64) (f_898 : Nat → Int64) : Int64 × Int32 × Int32 × Int64 × Int64 × (Nat → Int64) × (Nat → Int64) :=
  Lt (v_803 + Int32.ofInt 1 : Int32) (fun x_901 => rec_877 x_901 v_894 v_895 v_896 v_897 f_898)
set_option maxRecDepth 100000 in
noncomputable def E_v_tells_l148 (y : Int32) (fw : Nat → Int32) (x_629 : Int32) (f_662 : Nat → Int64) (rec_877 : Int32 → Int64 → Int32 → Int64 → Int64 → (Nat → Int64) → (Int64 × Int32 × Int32 × Int64 × Int64 × (Nat → Int64) × (Nat → Int64))) (v_803 : Int32) (v_804 : Int64) (v_805 : Int32) (v_806 : Int64) (v_807 : Int64) (f_808 : Nat → Int64) : Int64 × Int32 × Int32 × Int64 × Int64 × (Nat → Int64) × (Nat → Int64) :=
  Lt (x_629 + 1 : Int32) (fun x_879 => Lt (fw (x_879 : Int32).toNatClampNeg : Int32) (fun x_880 => if x_880 ≤ v_803 then (((v_804, x_629, v_805, v_806, v_807, f_662, f_808) : Int64 × Int32 × Int32 × Int64 × Int64 × (Nat → Int64) × (Nat → Int64))) else (Lt (x_629 + 2 : Int32) (fun x_882 => Lt (8 * v_803 : Int32) (fun x_883 => Lt (x_882 + x_883 : Int32) (fun x_884 => Lt (fw (x_884 : Int32).toNatClampNeg : Int32) (fun x_885 => if x_885 = y then (Lt2 (E_v_isSo x_884 x_629 v_805 v_806 v_807 fw f_662 f_808) (fun r_903 q0_r_903 => Lt2 q0_r_903 (fun u_904_2_2_2_1_0 q1_u_904_2_2_2_1_0 => Lt2 q1_u_904_2_2_2_1_0 (fun u_904_2_2_2_2_1_0 q2_u_904_2_2_2_2_1_0 => Lt2 q2_u_904_2_2_2_2_1_0 (fun u_904_2_2_2_2_1_1 u_904_2_2_1_0 => if r_903 = 0 then (E_v_tells_j213 v_803 rec_877 v_804 u_904_2_2_2_1_0 u_904_2_2_2_2_1_0 u_904_2_2_2_2_1_1 u_904_2_2_1_0) else (if y = 3 then (E_v_tells_j213 v_803 rec_877 1 u_904_2_2_2_1_0 u_904_2_2_2_2_1_0 u_904_2_2_2_2_1_1 u_904_2_2_1_0) else (E_v_tells_j213 v_803 rec_877 u_904_2_2_2_2_1_1 u_904_2_2_2_1_0 u_904_2_2_2_2_1_0 u_904_2_2_2_2_1_1 u_904_2_2_1_0))))))) else (E_v_tells_j213 v_803 rec_877 v_804 v_805 v_806 v_807 f_808))))))))
set_option maxRecDepth 100000 in
noncomputable def E_v_tells (x : Int32) (y : Int32) (z : Int32) (w : Int32) (v : Int64) (lw : Int32) (bro : Int32) (val : Int64) (sm : Int64) (fw : Nat → Int32) (fe : Nat → Int64) (frs : Nat → Int64) : Int64 × Int32 × Int32 × Int64 × Int64 × (Nat → Int64) × (Nat → Int64) :=
  if x = (-1) then (((v, lw, bro, val, sm, fe, frs) : Int64 × Int32 × Int32 × Int64 × Int64 × (Nat → Int64) × (Nat → Int64))) else (Lt (900 * x : Int32) (fun x_628 => Lt (100 + x_628 : Int32) (fun x_629 => Lt ((z : Int32).toInt64 : Int64) (fun x_630 => Lt (vp_updL fe (1 : Int32).toNatClampNeg x_630 : Nat → Int64) (fun f_631 => Lt (35 + z : Int32) (fun x_632 => Lt (fw (x_632 : Int32).toNatClampNeg : Int32) (fun x_633 => Lt ((x_633 : Int32).toInt64 : Int64) (fun x_634 => Lt (vp_updL f_631 (2 : Int32).toNatClampNeg x_634 : Nat → Int64) (fun f_635 => Lt (43 + z : Int32) (fun x_636 => Lt (fw (x_636 : Int32).toNatClampNeg : Int32) (fun x_637 => Lt ((x_637 : Int32).toInt64 : Int64) (fun x_638 => Lt (vp_updL f_635 (3 : Int32).toNatClampNeg x_638 : Nat → Int64) (fun f_639 => Lt (11 + z : Int32) (fun x_640 => Lt (fw (x_640 : Int32).toNatClampNeg : Int32) (fun x_641 => Lt ((x_641 : Int32).toInt64 : Int64) (fun x_642 => Lt (vp_updL f_639 (4 : Int32).toNatClampNeg x_642 : Nat → Int64) (fun f_643 => Lt (19 + z : Int32) (fun x_644 => Lt (fw (x_644 : Int32).toNatClampNeg : Int32) (fun x_645 => Lt ((x_645 : Int32).toInt64 : Int64) (fun x_646 => Lt (vp_updL f_643 (5 : Int32).toNatClampNeg x_646 : Nat → Int64) (fun f_647 => Lt (E_v_term_0 fw) (fun r_648 => Lt ((r_648 : Int32).toInt64 : Int64) (fun x_651 => Lt (vp_updL f_647 (6 : Int32).toNatClampNeg x_651 : Nat → Int64) (fun f_652 => Lt (E_v_term 1 fw) (fun r_653 => Lt ((r_653 : Int32).toInt64 : Int64) (fun x_655 => Lt (vp_updL f_652 (7 : Int32).toNatClampNeg x_655 : Nat → Int64) (fun f_656 => Lt (E_v_term 5 fw) (fun r_657 => Lt ((r_657 : Int32).toInt64 : Int64) (fun x_659 => Lt (vp_updL f_656 (8 : Int32).toNatClampNeg x_659 : Nat → Int64) (fun f_660 => Lt ((w : Int32).toInt64 : Int64) (fun x_661 => Lt (vp_updL f_660 (9 : Int32).toNatClampNeg x_661 : Nat → Int64) (fun f_662 => Lp (α := Int32 → Int64 → Int32 → Int64 → Int64 → (Nat → Int64) → (Int64 × Int32 × Int32 × Int64 × Int64 × (Nat → Int64) × (Nat → Int64))) (E_v_tells_l148 y fw x_629 f_662) (fun _ _ _ _ _ _ => ((0, 0, 0, 0, 0, fun _ => 0, fun _ => 0) : Int64 × Int32 × Int32 × Int64 × Int64 × (Nat → Int64) × (Nat → Int64))) ((13 - (0 : Int32).toInt : Int).toNat + 1) 0 v bro val sm frs))))))))))))))))))))))))))))))))
set_option maxHeartbeats 4000000 in
set_option maxRecDepth 100000 in
theorem v_tells (l : Launch) (D : va_G) (K : Nat → ClassId) (m0 : Nat) (x : Int32) (y : Int32) (z : Int32) (w : Int32) (v : Int64) (m_0 : Value) (m_1 : Value) (m_2 : Value) (w0 : Nat) (m_4 : Value) (m_5 : Value) (m_6 : Value) (m_7 : Value) (m_8 : Value) (m_9 : Value) (m_10 : Value) (m_11 : Value) (m_12 : Value) (m_13 : Value) (m_14 : Value) (m_15 : Value) (m_16 : Value) (m_17 : Value) (m_18 : Value) (m_19 : Value) (m_21 : Value) (m_22 : Value) (m_23 : Value) (m_24 : Value) (m_25 : Value) (m_26 : Value) (m_27 : Value) (m_28 : Value) (m_29 : Value) (m_30 : Value) (m_31 : Value) (m_32 : Value) (m_33 : Value) (lw : Int32) (e0 : Nat) (m_36 : Value) (q0 : Nat) (bro : Int32) (val : Int64) (sm : Int64) (m_41 : Value) (m_42 : Value) (m_43 : Value) (m_44 : Value) (m_45 : Value) (m_46 : Value) (m_47 : Value) (m_48 : Value) (m_49 : Value) (m_50 : Value) (m_51 : Value) (m_52 : Value) (m_53 : Value) (m_54 : Value) (m_55 : Value) (m_56 : Value) (m_57 : Value) (m_58 : Value) (m_59 : Value) (fw : Nat → Int32) (gr : Nat → Int32) (fe : Nat → Int64) (frs : Nat → Int64) (sz : Nat) (zbro : 0 ≤ bro.toInt ∧ bro.toInt ≤ 1) (zx : (-1) ≤ x.toInt ∧ x.toInt ≤ 5) (zz : 0 ≤ z.toInt ∧ z.toInt ≤ 7) (zfw : RwOK fw) (zgr : FzM gr fw) : Met l yX12_tells wsX12_tells ({ frames := 3, cells := 0, slots := 0, locals := 72 }) (va_Pc [.ref m0, .int x, .int y, .int z, .int w, .long v] (Pre D K [(m0, .inr (12, [m_0, m_1, m_2, .ref w0, m_4, m_5, m_6, m_7, m_8, m_9, m_10, m_11, m_12, m_13, m_14, m_15, m_16, m_17, m_18, m_19, .int 0, m_21, m_22, m_23, m_24, m_25, m_26, m_27, m_28, m_29, m_30, m_31, m_32, m_33, .int lw, .ref e0, m_36, .ref q0, .int bro, .long val, .long sm, m_41, m_42, m_43, m_44, m_45, m_46, m_47, m_48, m_49, m_50, m_51, m_52, m_53, m_54, m_55, m_56, m_57, m_58, m_59])), (w0, .inl (K 0, 5500, .inl fw)), (e0, .inl (K 2, 13, .inr (.inl fe))), (q0, .inl (K 2, 400, .inr (.inl frs)))] sz)) (va_Ql (S := Su) (fun (r : Int64) (u : Su) => (0 ≤ (u.2.2.2.1 1).toInt ∧ (u.2.2.2.1 1).toInt ≤ 1) ∧ ((r, (u.2.2.2.1 0), (u.2.2.2.1 1), (u.2.2.2.2.1 0), (u.2.2.2.2.1 1), (u.2.2.1 0), (u.2.2.1 1)) = E_v_tells x y z w v lw bro val sm fw fe frs) ∧ True) (fun u t => Wd D (va_A [(m0, .inr (12, [m_0, m_1, m_2, .ref w0, m_4, m_5, m_6, m_7, m_8, m_9, m_10, m_11, m_12, m_13, m_14, m_15, m_16, m_17, m_18, m_19, .int 0, m_21, m_22, m_23, m_24, m_25, m_26, m_27, m_28, m_29, m_30, m_31, m_32, m_33, .int lw, .ref e0, m_36, .ref q0, .int bro, .long val, .long sm, m_41, m_42, m_43, m_44, m_45, m_46, m_47, m_48, m_49, m_50, m_51, m_52, m_53, m_54, m_55, m_56, m_57, m_58, m_59])), (w0, .inl (K 0, 5500, .inl fw)), (e0, .inl (K 2, 13, .inr (.inl fe))), (q0, .inl (K 2, 400, .inr (.inl frs)))] sz) ((fun u => [(m0, .inr (12, [m_0, m_1, m_2, .ref w0, m_4, m_5, m_6, m_7, m_8, m_9, m_10, m_11, m_12, m_13, m_14, m_15, m_16, m_17, m_18, m_19, .int 0, m_21, m_22, m_23, m_24, m_25, m_26, m_27, m_28, m_29, m_30, m_31, m_32, m_33, .int (u.2.2.2.1 0), .ref e0, m_36, .ref q0, .int (u.2.2.2.1 1), .long (u.2.2.2.2.1 0), .long (u.2.2.2.2.1 1), m_41, m_42, m_43, m_44, m_45, m_46, m_47, m_48, m_49, m_50, m_51, m_52, m_53, m_54, m_55, m_56, m_57, m_58, m_59])), (w0, .inl (K 0, 5500, .inl fw)), (e0, .inl (K 2, 13, .inr (.inl (u.2.2.1 0)))), (q0, .inl (K 2, 400, .inr (.inl (u.2.2.1 1))))]) u) t) (va_A [(m0, .inr (12, [m_0, m_1, m_2, .ref w0, m_4, m_5, m_6, m_7, m_8, m_9, m_10, m_11, m_12, m_13, m_14, m_15, m_16, m_17, m_18, m_19, .int 0, m_21, m_22, m_23, m_24, m_25, m_26, m_27, m_28, m_29, m_30, m_31, m_32, m_33, .int lw, .ref e0, m_36, .ref q0, .int bro, .long val, .long sm, m_41, m_42, m_43, m_44, m_45, m_46, m_47, m_48, m_49, m_50, m_51, m_52, m_53, m_54, m_55, m_56, m_57, m_58, m_59])), (w0, .inl (K 0, 5500, .inl fw)), (e0, .inl (K 2, 13, .inr (.inl fe))), (q0, .inl (K 2, 400, .inr (.inl frs)))] sz)) 0 0 (va_A [(m0, .inr (12, [m_0, m_1, m_2, .ref w0, m_4, m_5, m_6, m_7, m_8, m_9, m_10, m_11, m_12, m_13, m_14, m_15, m_16, m_17, m_18, m_19, .int 0, m_21, m_22, m_23, m_24, m_25, m_26, m_27, m_28, m_29, m_30, m_31, m_32, m_33, .int lw, .ref e0, m_36, .ref q0, .int bro, .long val, .long sm, m_41, m_42, m_43, m_44, m_45, m_46, m_47, m_48, m_49, m_50, m_51, m_52, m_53, m_54, m_55, m_56, m_57, m_58, m_59])), (w0, .inl (K 0, 5500, .inl fw)), (e0, .inl (K 2, 13, .inr (.inl fe))), (q0, .inl (K 2, 400, .inr (.inl frs)))] sz) := by
  refine Met.ofW (cc := cX12_tells) (maxL := 11) (ret := (some .long)) (by decide +kernel) rfl ?_
  intro p e s m args below meth c s₁ B hml hv
  obtain ⟨rfl, hsz, hP, hK, hD0, hN⟩ := hv
  have hx := B.exec
  have hb := B.bytes
  have hr := B.returns
  have hts := atoms_spec (ws := wsX12_tells) B.pre
  have hown : s.vm.findClass RX12 = some m.cls := findClass_of_methodNamed B.named
  have hlocks := B.notSynchronized
  subst hsz
  have hD := hD0.self (sz := s.heap.size)
  generalize hAe : va_A [(m0, .inr (12, [m_0, m_1, m_2, .ref w0, m_4, m_5, m_6, m_7, m_8, m_9, m_10, m_11, m_12, m_13, m_14, m_15, m_16, m_17, m_18, m_19, .int 0, m_21, m_22, m_23, m_24, m_25, m_26, m_27, m_28, m_29, m_30, m_31, m_32, m_33, .int lw, .ref e0, m_36, .ref q0, .int bro, .long val, .long sm, m_41, m_42, m_43, m_44, m_45, m_46, m_47, m_48, m_49, m_50, m_51, m_52, m_53, m_54, m_55, m_56, m_57, m_58, m_59])), (w0, .inl (K 0, 5500, .inl fw)), (e0, .inl (K 2, 13, .inr (.inl fe))), (q0, .inl (K 2, 400, .inr (.inl frs)))] s.heap.size = A at hD ⊢
  have hA : ∀ q : Nat, s.heap.size ≤ q → A q := fun q h => by rw [← hAe]; exact Or.inr h
  clear hAe
  have hS : va_S A s.heap s.heap [] := va_S.rf
  replace hP : va_P D vwCl [(m0, .inr (12, [m_0, m_1, m_2, .ref w0, m_4, m_5, m_6, m_7, m_8, m_9, m_10, m_11, m_12, m_13, m_14, m_15, m_16, m_17, m_18, m_19, .int 0, m_21, m_22, m_23, m_24, m_25, m_26, m_27, m_28, m_29, m_30, m_31, m_32, m_33, .int lw, .ref e0, m_36, .ref q0, .int bro, .long val, .long sm, m_41, m_42, m_43, m_44, m_45, m_46, m_47, m_48, m_49, m_50, m_51, m_52, m_53, m_54, m_55, m_56, m_57, m_58, m_59])), (w0, .inl (K 0, 5500, .inl fw)), (e0, .inl (K 2, 13, .inr (.inl fe))), (q0, .inl (K 2, 400, .inr (.inl frs)))] s.heap := hP
  have hl := lv_entry [.ref m0, .int x, .int y, .int z, .int w, .long v] (n := 11) (Nat.le_of_ble_eq_true rfl)
  rw [lg_entry_eq]
  generalize (lg_sl [.ref m0, .int x, .int y, .int z, .int w, .long v] ++ List.replicate (11 - (lg_sl [.ref m0, .int x, .int y, .int z, .int w, .long v]).length) Slot.unset).toArray = ls at hl ⊢
  have hl : lv_has ls 11 [(0, .ref m0), (1, .int x), (2, .int y), (3, .int z), (4, .int w), (5, .long v)] := hl
  have hw12 : ∀ w ∈ wsX120, w ∈ wsX12_tells := fun w h => (List.mem_cons_of_mem _ (List.mem_append_right _ h))
  generalize hQ : MQ below _ _ s _ _ _ = Q
  have hE := E_v_tells.eq_def x y z w v lw bro val sm fw fe frs
  refine lv_iload_n hx hb dX12_tells_0 rfl (lv_at hl 1 rfl) ?_
  refine lv_iconst (v := (-1)) hx hb dX12_tells_1 (by decide +kernel) ?_
  refine lv_icmp_ne (tgt := 8) hx hb dX12_tells_2 (by decide +kernel) (fun c_627 => ?_) (fun c_627 => ?_)
  · have c_627i := i_ne (x := x.toInt) (y := (-1)) rfl rfl c_627
    replace hE := hE.trans (if_neg c_627)
    obtain ⟨bb, hbb⟩ : ∃ bb : Nat, bb = 100 + 900 * x.toInt.toNat := ⟨_, rfl⟩
    have hlaw : LawOK fw bb := by rw [hbb]; exact zfw.2 _ (by omega)
    have zbb : 100 ≤ bb ∧ bb ≤ 4600 := by omega
    refine lv_aload_n hx hb dX12_tells_8 rfl (lv_at hl 0 rfl) ?_
    refine lv_bipush (v := 100) hx hb dX12_tells_9 (by decide +kernel) ?_
    refine lv_sipush (v := 900) hx hb dX12_tells_11 (by decide +kernel) ?_
    refine lv_iload_n hx hb dX12_tells_14 rfl (lv_at hl 1 rfl) ?_
    refine lv_imul hx hb dX12_tells_15 ?_
    refine lv_topi (fun x_628 ex_628 => ?_)
    replace hE := hE.trans (Lt_in ex_628)
    have hx_628 : x_628.toInt = (900 * x.toInt) := by rw [ex_628]; exact i_mul (show (900 : Int32).toInt = 900 from rfl) rfl (by omega)
    refine lv_iadd hx hb dX12_tells_16 ?_
    refine lv_topi (fun x_629 ex_629 => ?_)
    replace hE := hE.trans (Lt_in ex_629)
    have hx_629 : x_629.toInt = (100 + (900 * x.toInt)) := by rw [ex_629]; exact i_add (show (100 : Int32).toInt = 100 from rfl) hx_628 (by omega)
    refine va_put (ci := 12) (v := .int x_629) (ty := .int) (C := RX12) (T := TX12) (N := 60) hx hb hts hw12 tyX12 tyX12_ok nmX12 hown hK hP hD hS 0 rfl rfl 34 (by decide +kernel) (hts _ mm_X12_tells_864) (fun _ h9 => h9) rfl (by decide +kernel) (by first | rfl | decide) (by first | rfl | decide) (Nat.le_of_ble_eq_true rfl) dX12_tells_17 (fun H locs hP0 hD0 hS0 => ?_)
    clear hP hD hS
    have hP := hP0
    have hD := hD0
    have hS := hS0
    clear hP0 hD0 hS0
    replace hP : va_P D vwCl [(m0, .inr (12, [m_0, m_1, m_2, .ref w0, m_4, m_5, m_6, m_7, m_8, m_9, m_10, m_11, m_12, m_13, m_14, m_15, m_16, m_17, m_18, m_19, .int 0, m_21, m_22, m_23, m_24, m_25, m_26, m_27, m_28, m_29, m_30, m_31, m_32, m_33, .int x_629, .ref e0, m_36, .ref q0, .int bro, .long val, .long sm, m_41, m_42, m_43, m_44, m_45, m_46, m_47, m_48, m_49, m_50, m_51, m_52, m_53, m_54, m_55, m_56, m_57, m_58, m_59])), (w0, .inl (K 0, 5500, .inl fw)), (e0, .inl (K 2, 13, .inr (.inl fe))), (q0, .inl (K 2, 400, .inr (.inl frs)))] H := hP
    replace hD : va_D A [(m0, .inr (12, [m_0, m_1, m_2, .ref w0, m_4, m_5, m_6, m_7, m_8, m_9, m_10, m_11, m_12, m_13, m_14, m_15, m_16, m_17, m_18, m_19, .int 0, m_21, m_22, m_23, m_24, m_25, m_26, m_27, m_28, m_29, m_30, m_31, m_32, m_33, .int x_629, .ref e0, m_36, .ref q0, .int bro, .long val, .long sm, m_41, m_42, m_43, m_44, m_45, m_46, m_47, m_48, m_49, m_50, m_51, m_52, m_53, m_54, m_55, m_56, m_57, m_58, m_59])), (w0, .inl (K 0, 5500, .inl fw)), (e0, .inl (K 2, 13, .inr (.inl fe))), (q0, .inl (K 2, 400, .inr (.inl frs)))] := hD
    refine lv_aload_n hx hb dX12_tells_20 rfl (lv_at hl 0 rfl) ?_
    refine va_get (ci := 12) (v := .ref e0) (C := RX12) (T := TX12) (N := 60) hx hb hts hw12 hown hK hP 0 rfl rfl 35 (by decide +kernel) (hts _ mm_X12_tells_865) (fun _ h9 => h9) rfl dX12_tells_21 ?_
    refine lv_iconst (v := 1) hx hb dX12_tells_24 (by decide +kernel) ?_
    refine lv_iload_n hx hb dX12_tells_25 rfl (lv_at hl 3 rfl) ?_
    refine lv_i2l hx hb dX12_tells_26 rfl ?_
    refine lv_topl (fun x_630 ex_630 => ?_)
    replace hE := hE.trans (Lt_in ex_630)
    have hx_630 : x_630.toInt = z.toInt := by rw [ex_630]; exact i_wide rfl
    refine va_last hx hb hK hP hD hS 2 2 rfl rfl (i_in (x := 1) rfl (by omega)) dX12_tells_27 (fun H locs hP0 hD0 hS0 => ?_)
    clear hP hD hS
    have hP := hP0
    have hD := hD0
    have hS := hS0
    clear hP0 hD0 hS0
    generalize hf_631 : (vp_updL fe (1 : Int32).toNatClampNeg x_630) = f_631 at hP hD
    replace hE := hE.trans (Lt_in hf_631.symm)
    replace hP : va_P D vwCl [(m0, .inr (12, [m_0, m_1, m_2, .ref w0, m_4, m_5, m_6, m_7, m_8, m_9, m_10, m_11, m_12, m_13, m_14, m_15, m_16, m_17, m_18, m_19, .int 0, m_21, m_22, m_23, m_24, m_25, m_26, m_27, m_28, m_29, m_30, m_31, m_32, m_33, .int x_629, .ref e0, m_36, .ref q0, .int bro, .long val, .long sm, m_41, m_42, m_43, m_44, m_45, m_46, m_47, m_48, m_49, m_50, m_51, m_52, m_53, m_54, m_55, m_56, m_57, m_58, m_59])), (w0, .inl (K 0, 5500, .inl fw)), (e0, .inl (K 2, 13, .inr (.inl f_631))), (q0, .inl (K 2, 400, .inr (.inl frs)))] H := hP
    replace hD : va_D A [(m0, .inr (12, [m_0, m_1, m_2, .ref w0, m_4, m_5, m_6, m_7, m_8, m_9, m_10, m_11, m_12, m_13, m_14, m_15, m_16, m_17, m_18, m_19, .int 0, m_21, m_22, m_23, m_24, m_25, m_26, m_27, m_28, m_29, m_30, m_31, m_32, m_33, .int x_629, .ref e0, m_36, .ref q0, .int bro, .long val, .long sm, m_41, m_42, m_43, m_44, m_45, m_46, m_47, m_48, m_49, m_50, m_51, m_52, m_53, m_54, m_55, m_56, m_57, m_58, m_59])), (w0, .inl (K 0, 5500, .inl fw)), (e0, .inl (K 2, 13, .inr (.inl f_631))), (q0, .inl (K 2, 400, .inr (.inl frs)))] := hD
    refine lv_aload_n hx hb dX12_tells_28 rfl (lv_at hl 0 rfl) ?_
    refine va_get (ci := 12) (v := .ref e0) (C := RX12) (T := TX12) (N := 60) hx hb hts hw12 hown hK hP 0 rfl rfl 35 (by decide +kernel) (hts _ mm_X12_tells_865) (fun _ h9 => h9) rfl dX12_tells_29 ?_
    refine lv_iconst (v := 2) hx hb dX12_tells_32 (by decide +kernel) ?_
    refine lv_aload_n hx hb dX12_tells_33 rfl (lv_at hl 0 rfl) ?_
    refine va_get (ci := 12) (v := .ref w0) (C := RX12) (T := TX12) (N := 60) hx hb hts hw12 hown hK hP 0 rfl rfl 3 (by decide +kernel) (hts _ mm_X12_tells_833) (fun _ h9 => h9) rfl dX12_tells_34 ?_
    refine lv_bipush (v := 35) hx hb dX12_tells_37 (by decide +kernel) ?_
    refine lv_iload_n hx hb dX12_tells_39 rfl (lv_at hl 3 rfl) ?_
    refine lv_iadd hx hb dX12_tells_40 ?_
    refine lv_topi (fun x_632 ex_632 => ?_)
    replace hE := hE.trans (Lt_in ex_632)
    have hx_632 : x_632.toInt = (35 + z.toInt) := by rw [ex_632]; exact i_add (show (35 : Int32).toInt = 35 from rfl) rfl (by omega)
    refine va_iald hx hb hK hP 1 0 rfl rfl (i_in hx_632 (by omega)) dX12_tells_41 ?_
    refine lv_topi (fun x_633 ex_633 => ?_)
    replace hE := hE.trans (Lt_in ex_633)
    have px_633 := RwOK.at zfw hx_632 (show 0 ≤ (35 + z.toInt) ∧ (35 + z.toInt) < 100 by omega)
    rw [← ex_633] at px_633
    have hx_633 := PR.r_35 px_633 (by omega)
    refine lv_i2l hx hb dX12_tells_42 rfl ?_
    refine lv_topl (fun x_634 ex_634 => ?_)
    replace hE := hE.trans (Lt_in ex_634)
    have hx_634 : x_634.toInt = x_633.toInt := by rw [ex_634]; exact i_wide rfl
    refine va_last hx hb hK hP hD hS 2 2 rfl rfl (i_in (x := 2) rfl (by omega)) dX12_tells_43 (fun H locs hP0 hD0 hS0 => ?_)
    clear hP hD hS
    have hP := hP0
    have hD := hD0
    have hS := hS0
    clear hP0 hD0 hS0
    generalize hf_635 : (vp_updL f_631 (2 : Int32).toNatClampNeg x_634) = f_635 at hP hD
    replace hE := hE.trans (Lt_in hf_635.symm)
    replace hP : va_P D vwCl [(m0, .inr (12, [m_0, m_1, m_2, .ref w0, m_4, m_5, m_6, m_7, m_8, m_9, m_10, m_11, m_12, m_13, m_14, m_15, m_16, m_17, m_18, m_19, .int 0, m_21, m_22, m_23, m_24, m_25, m_26, m_27, m_28, m_29, m_30, m_31, m_32, m_33, .int x_629, .ref e0, m_36, .ref q0, .int bro, .long val, .long sm, m_41, m_42, m_43, m_44, m_45, m_46, m_47, m_48, m_49, m_50, m_51, m_52, m_53, m_54, m_55, m_56, m_57, m_58, m_59])), (w0, .inl (K 0, 5500, .inl fw)), (e0, .inl (K 2, 13, .inr (.inl f_635))), (q0, .inl (K 2, 400, .inr (.inl frs)))] H := hP
    replace hD : va_D A [(m0, .inr (12, [m_0, m_1, m_2, .ref w0, m_4, m_5, m_6, m_7, m_8, m_9, m_10, m_11, m_12, m_13, m_14, m_15, m_16, m_17, m_18, m_19, .int 0, m_21, m_22, m_23, m_24, m_25, m_26, m_27, m_28, m_29, m_30, m_31, m_32, m_33, .int x_629, .ref e0, m_36, .ref q0, .int bro, .long val, .long sm, m_41, m_42, m_43, m_44, m_45, m_46, m_47, m_48, m_49, m_50, m_51, m_52, m_53, m_54, m_55, m_56, m_57, m_58, m_59])), (w0, .inl (K 0, 5500, .inl fw)), (e0, .inl (K 2, 13, .inr (.inl f_635))), (q0, .inl (K 2, 400, .inr (.inl frs)))] := hD
    refine lv_aload_n hx hb dX12_tells_44 rfl (lv_at hl 0 rfl) ?_
    refine va_get (ci := 12) (v := .ref e0) (C := RX12) (T := TX12) (N := 60) hx hb hts hw12 hown hK hP 0 rfl rfl 35 (by decide +kernel) (hts _ mm_X12_tells_865) (fun _ h9 => h9) rfl dX12_tells_45 ?_
    refine lv_iconst (v := 3) hx hb dX12_tells_48 (by decide +kernel) ?_
    refine lv_aload_n hx hb dX12_tells_49 rfl (lv_at hl 0 rfl) ?_
    refine va_get (ci := 12) (v := .ref w0) (C := RX12) (T := TX12) (N := 60) hx hb hts hw12 hown hK hP 0 rfl rfl 3 (by decide +kernel) (hts _ mm_X12_tells_833) (fun _ h9 => h9) rfl dX12_tells_50 ?_
    refine lv_bipush (v := 43) hx hb dX12_tells_53 (by decide +kernel) ?_
    refine lv_iload_n hx hb dX12_tells_55 rfl (lv_at hl 3 rfl) ?_
    refine lv_iadd hx hb dX12_tells_56 ?_
    refine lv_topi (fun x_636 ex_636 => ?_)
    replace hE := hE.trans (Lt_in ex_636)
    have hx_636 : x_636.toInt = (43 + z.toInt) := by rw [ex_636]; exact i_add (show (43 : Int32).toInt = 43 from rfl) rfl (by omega)
    refine va_iald hx hb hK hP 1 0 rfl rfl (i_in hx_636 (by omega)) dX12_tells_57 ?_
    refine lv_topi (fun x_637 ex_637 => ?_)
    replace hE := hE.trans (Lt_in ex_637)
    have px_637 := RwOK.at zfw hx_636 (show 0 ≤ (43 + z.toInt) ∧ (43 + z.toInt) < 100 by omega)
    rw [← ex_637] at px_637
    refine lv_i2l hx hb dX12_tells_58 rfl ?_
    refine lv_topl (fun x_638 ex_638 => ?_)
    replace hE := hE.trans (Lt_in ex_638)
    have hx_638 : x_638.toInt = x_637.toInt := by rw [ex_638]; exact i_wide rfl
    have hbx_638 := i_rng (a := x_637) rfl
    refine va_last hx hb hK hP hD hS 2 2 rfl rfl (i_in (x := 3) rfl (by omega)) dX12_tells_59 (fun H locs hP0 hD0 hS0 => ?_)
    clear hP hD hS
    have hP := hP0
    have hD := hD0
    have hS := hS0
    clear hP0 hD0 hS0
    generalize hf_639 : (vp_updL f_635 (3 : Int32).toNatClampNeg x_638) = f_639 at hP hD
    replace hE := hE.trans (Lt_in hf_639.symm)
    replace hP : va_P D vwCl [(m0, .inr (12, [m_0, m_1, m_2, .ref w0, m_4, m_5, m_6, m_7, m_8, m_9, m_10, m_11, m_12, m_13, m_14, m_15, m_16, m_17, m_18, m_19, .int 0, m_21, m_22, m_23, m_24, m_25, m_26, m_27, m_28, m_29, m_30, m_31, m_32, m_33, .int x_629, .ref e0, m_36, .ref q0, .int bro, .long val, .long sm, m_41, m_42, m_43, m_44, m_45, m_46, m_47, m_48, m_49, m_50, m_51, m_52, m_53, m_54, m_55, m_56, m_57, m_58, m_59])), (w0, .inl (K 0, 5500, .inl fw)), (e0, .inl (K 2, 13, .inr (.inl f_639))), (q0, .inl (K 2, 400, .inr (.inl frs)))] H := hP
    replace hD : va_D A [(m0, .inr (12, [m_0, m_1, m_2, .ref w0, m_4, m_5, m_6, m_7, m_8, m_9, m_10, m_11, m_12, m_13, m_14, m_15, m_16, m_17, m_18, m_19, .int 0, m_21, m_22, m_23, m_24, m_25, m_26, m_27, m_28, m_29, m_30, m_31, m_32, m_33, .int x_629, .ref e0, m_36, .ref q0, .int bro, .long val, .long sm, m_41, m_42, m_43, m_44, m_45, m_46, m_47, m_48, m_49, m_50, m_51, m_52, m_53, m_54, m_55, m_56, m_57, m_58, m_59])), (w0, .inl (K 0, 5500, .inl fw)), (e0, .inl (K 2, 13, .inr (.inl f_639))), (q0, .inl (K 2, 400, .inr (.inl frs)))] := hD
    refine lv_aload_n hx hb dX12_tells_60 rfl (lv_at hl 0 rfl) ?_
    refine va_get (ci := 12) (v := .ref e0) (C := RX12) (T := TX12) (N := 60) hx hb hts hw12 hown hK hP 0 rfl rfl 35 (by decide +kernel) (hts _ mm_X12_tells_865) (fun _ h9 => h9) rfl dX12_tells_61 ?_
    refine lv_iconst (v := 4) hx hb dX12_tells_64 (by decide +kernel) ?_
    refine lv_aload_n hx hb dX12_tells_65 rfl (lv_at hl 0 rfl) ?_
    refine va_get (ci := 12) (v := .ref w0) (C := RX12) (T := TX12) (N := 60) hx hb hts hw12 hown hK hP 0 rfl rfl 3 (by decide +kernel) (hts _ mm_X12_tells_833) (fun _ h9 => h9) rfl dX12_tells_66 ?_
    refine lv_bipush (v := 11) hx hb dX12_tells_69 (by decide +kernel) ?_
    refine lv_iload_n hx hb dX12_tells_71 rfl (lv_at hl 3 rfl) ?_
    refine lv_iadd hx hb dX12_tells_72 ?_
    refine lv_topi (fun x_640 ex_640 => ?_)
    replace hE := hE.trans (Lt_in ex_640)
    have hx_640 : x_640.toInt = (11 + z.toInt) := by rw [ex_640]; exact i_add (show (11 : Int32).toInt = 11 from rfl) rfl (by omega)
    refine va_iald hx hb hK hP 1 0 rfl rfl (i_in hx_640 (by omega)) dX12_tells_73 ?_
    refine lv_topi (fun x_641 ex_641 => ?_)
    replace hE := hE.trans (Lt_in ex_641)
    have px_641 := RwOK.at zfw hx_640 (show 0 ≤ (11 + z.toInt) ∧ (11 + z.toInt) < 100 by omega)
    rw [← ex_641] at px_641
    have hx_641 := PR.r_11 px_641 (by omega)
    refine lv_i2l hx hb dX12_tells_74 rfl ?_
    refine lv_topl (fun x_642 ex_642 => ?_)
    replace hE := hE.trans (Lt_in ex_642)
    have hx_642 : x_642.toInt = x_641.toInt := by rw [ex_642]; exact i_wide rfl
    refine va_last hx hb hK hP hD hS 2 2 rfl rfl (i_in (x := 4) rfl (by omega)) dX12_tells_75 (fun H locs hP0 hD0 hS0 => ?_)
    clear hP hD hS
    have hP := hP0
    have hD := hD0
    have hS := hS0
    clear hP0 hD0 hS0
    generalize hf_643 : (vp_updL f_639 (4 : Int32).toNatClampNeg x_642) = f_643 at hP hD
    replace hE := hE.trans (Lt_in hf_643.symm)
    replace hP : va_P D vwCl [(m0, .inr (12, [m_0, m_1, m_2, .ref w0, m_4, m_5, m_6, m_7, m_8, m_9, m_10, m_11, m_12, m_13, m_14, m_15, m_16, m_17, m_18, m_19, .int 0, m_21, m_22, m_23, m_24, m_25, m_26, m_27, m_28, m_29, m_30, m_31, m_32, m_33, .int x_629, .ref e0, m_36, .ref q0, .int bro, .long val, .long sm, m_41, m_42, m_43, m_44, m_45, m_46, m_47, m_48, m_49, m_50, m_51, m_52, m_53, m_54, m_55, m_56, m_57, m_58, m_59])), (w0, .inl (K 0, 5500, .inl fw)), (e0, .inl (K 2, 13, .inr (.inl f_643))), (q0, .inl (K 2, 400, .inr (.inl frs)))] H := hP
    replace hD : va_D A [(m0, .inr (12, [m_0, m_1, m_2, .ref w0, m_4, m_5, m_6, m_7, m_8, m_9, m_10, m_11, m_12, m_13, m_14, m_15, m_16, m_17, m_18, m_19, .int 0, m_21, m_22, m_23, m_24, m_25, m_26, m_27, m_28, m_29, m_30, m_31, m_32, m_33, .int x_629, .ref e0, m_36, .ref q0, .int bro, .long val, .long sm, m_41, m_42, m_43, m_44, m_45, m_46, m_47, m_48, m_49, m_50, m_51, m_52, m_53, m_54, m_55, m_56, m_57, m_58, m_59])), (w0, .inl (K 0, 5500, .inl fw)), (e0, .inl (K 2, 13, .inr (.inl f_643))), (q0, .inl (K 2, 400, .inr (.inl frs)))] := hD
    refine lv_aload_n hx hb dX12_tells_76 rfl (lv_at hl 0 rfl) ?_
    refine va_get (ci := 12) (v := .ref e0) (C := RX12) (T := TX12) (N := 60) hx hb hts hw12 hown hK hP 0 rfl rfl 35 (by decide +kernel) (hts _ mm_X12_tells_865) (fun _ h9 => h9) rfl dX12_tells_77 ?_
    refine lv_iconst (v := 5) hx hb dX12_tells_80 (by decide +kernel) ?_
    refine lv_aload_n hx hb dX12_tells_81 rfl (lv_at hl 0 rfl) ?_
    refine va_get (ci := 12) (v := .ref w0) (C := RX12) (T := TX12) (N := 60) hx hb hts hw12 hown hK hP 0 rfl rfl 3 (by decide +kernel) (hts _ mm_X12_tells_833) (fun _ h9 => h9) rfl dX12_tells_82 ?_
    refine lv_bipush (v := 19) hx hb dX12_tells_85 (by decide +kernel) ?_
    refine lv_iload_n hx hb dX12_tells_87 rfl (lv_at hl 3 rfl) ?_
    refine lv_iadd hx hb dX12_tells_88 ?_
    refine lv_topi (fun x_644 ex_644 => ?_)
    replace hE := hE.trans (Lt_in ex_644)
    have hx_644 : x_644.toInt = (19 + z.toInt) := by rw [ex_644]; exact i_add (show (19 : Int32).toInt = 19 from rfl) rfl (by omega)
    refine va_iald hx hb hK hP 1 0 rfl rfl (i_in hx_644 (by omega)) dX12_tells_89 ?_
    refine lv_topi (fun x_645 ex_645 => ?_)
    replace hE := hE.trans (Lt_in ex_645)
    have px_645 := RwOK.at zfw hx_644 (show 0 ≤ (19 + z.toInt) ∧ (19 + z.toInt) < 100 by omega)
    rw [← ex_645] at px_645
    refine lv_i2l hx hb dX12_tells_90 rfl ?_
    refine lv_topl (fun x_646 ex_646 => ?_)
    replace hE := hE.trans (Lt_in ex_646)
    have hx_646 : x_646.toInt = x_645.toInt := by rw [ex_646]; exact i_wide rfl
    have hbx_646 := i_rng (a := x_645) rfl
    refine va_last hx hb hK hP hD hS 2 2 rfl rfl (i_in (x := 5) rfl (by omega)) dX12_tells_91 (fun H locs hP0 hD0 hS0 => ?_)
    clear hP hD hS
    have hP := hP0
    have hD := hD0
    have hS := hS0
    clear hP0 hD0 hS0
    generalize hf_647 : (vp_updL f_643 (5 : Int32).toNatClampNeg x_646) = f_647 at hP hD
    replace hE := hE.trans (Lt_in hf_647.symm)
    replace hP : va_P D vwCl [(m0, .inr (12, [m_0, m_1, m_2, .ref w0, m_4, m_5, m_6, m_7, m_8, m_9, m_10, m_11, m_12, m_13, m_14, m_15, m_16, m_17, m_18, m_19, .int 0, m_21, m_22, m_23, m_24, m_25, m_26, m_27, m_28, m_29, m_30, m_31, m_32, m_33, .int x_629, .ref e0, m_36, .ref q0, .int bro, .long val, .long sm, m_41, m_42, m_43, m_44, m_45, m_46, m_47, m_48, m_49, m_50, m_51, m_52, m_53, m_54, m_55, m_56, m_57, m_58, m_59])), (w0, .inl (K 0, 5500, .inl fw)), (e0, .inl (K 2, 13, .inr (.inl f_647))), (q0, .inl (K 2, 400, .inr (.inl frs)))] H := hP
    replace hD : va_D A [(m0, .inr (12, [m_0, m_1, m_2, .ref w0, m_4, m_5, m_6, m_7, m_8, m_9, m_10, m_11, m_12, m_13, m_14, m_15, m_16, m_17, m_18, m_19, .int 0, m_21, m_22, m_23, m_24, m_25, m_26, m_27, m_28, m_29, m_30, m_31, m_32, m_33, .int x_629, .ref e0, m_36, .ref q0, .int bro, .long val, .long sm, m_41, m_42, m_43, m_44, m_45, m_46, m_47, m_48, m_49, m_50, m_51, m_52, m_53, m_54, m_55, m_56, m_57, m_58, m_59])), (w0, .inl (K 0, 5500, .inl fw)), (e0, .inl (K 2, 13, .inr (.inl f_647))), (q0, .inl (K 2, 400, .inr (.inl frs)))] := hD
    refine lv_aload_n hx hb dX12_tells_92 rfl (lv_at hl 0 rfl) ?_
    refine va_get (ci := 12) (v := .ref e0) (C := RX12) (T := TX12) (N := 60) hx hb hts hw12 hown hK hP 0 rfl rfl 35 (by decide +kernel) (hts _ mm_X12_tells_865) (fun _ h9 => h9) rfl dX12_tells_93 ?_
    refine lv_bipush (v := 6) hx hb dX12_tells_96 (by decide +kernel) ?_
    refine lv_aload_n hx hb dX12_tells_98 rfl (lv_at hl 0 rfl) ?_
    refine lv_iconst (v := 0) hx hb dX12_tells_99 (by decide +kernel) ?_
    refine pci (va_runV (As := [.int 0]) (rest := [.int 6, .ref e0]) ⟨hx, hb, hml, hown, hts⟩ (v_term_0 l D K m0 m_0 m_1 m_2 w0 m_4 m_5 m_6 m_7 m_8 m_9 m_10 m_11 m_12 m_13 m_14 m_15 m_16 m_17 m_18 m_19 (.int 0) m_21 m_22 m_23 m_24 m_25 m_26 m_27 m_28 m_29 m_30 m_31 m_32 m_33 (.int x_629) (.ref e0) m_36 (.ref q0) (.int bro) (.long val) (.long sm) m_41 m_42 m_43 m_44 m_45 m_46 m_47 m_48 m_49 m_50 m_51 m_52 m_53 m_54 m_55 m_56 m_57 m_58 m_59 fw H.size zfw) (cwV 1 hts gX12_tells_X12_term rfl rfl rfl (by decide +kernel) ⟨Nat.le_of_ble_eq_true rfl, Nat.le_of_ble_eq_true rfl⟩) (mkV hK hN (hP.sub [0, 1] rfl) (hD.sub [0, 1] (by decide +kernel) rfl) (ci := 12) (q0 := 0) rfl rfl) rfl rfl hl.1 rfl (lv_room (Nat.le_of_ble_eq_true rfl)) dX12_tells_100 ⟨Nat.le_of_ble_eq_true rfl, Nat.le_of_ble_eq_true rfl⟩) (fun r_648 hw => ?_)
    obtain ⟨h_650, k_649, -⟩ := hw
    replace hE := hE.trans (Lt_in k_649)
    refine lv_i2l hx hb dX12_tells_103 rfl ?_
    refine lv_topl (fun x_651 ex_651 => ?_)
    replace hE := hE.trans (Lt_in ex_651)
    have hx_651 : x_651.toInt = r_648.toInt := by rw [ex_651]; exact i_wide rfl
    refine va_last hx hb hK hP hD hS 2 2 rfl rfl (i_in (x := 6) rfl (by omega)) dX12_tells_104 (fun H locs hP0 hD0 hS0 => ?_)
    clear hP hD hS
    have hP := hP0
    have hD := hD0
    have hS := hS0
    clear hP0 hD0 hS0
    generalize hf_652 : (vp_updL f_647 (6 : Int32).toNatClampNeg x_651) = f_652 at hP hD
    replace hE := hE.trans (Lt_in hf_652.symm)
    replace hP : va_P D vwCl [(m0, .inr (12, [m_0, m_1, m_2, .ref w0, m_4, m_5, m_6, m_7, m_8, m_9, m_10, m_11, m_12, m_13, m_14, m_15, m_16, m_17, m_18, m_19, .int 0, m_21, m_22, m_23, m_24, m_25, m_26, m_27, m_28, m_29, m_30, m_31, m_32, m_33, .int x_629, .ref e0, m_36, .ref q0, .int bro, .long val, .long sm, m_41, m_42, m_43, m_44, m_45, m_46, m_47, m_48, m_49, m_50, m_51, m_52, m_53, m_54, m_55, m_56, m_57, m_58, m_59])), (w0, .inl (K 0, 5500, .inl fw)), (e0, .inl (K 2, 13, .inr (.inl f_652))), (q0, .inl (K 2, 400, .inr (.inl frs)))] H := hP
    replace hD : va_D A [(m0, .inr (12, [m_0, m_1, m_2, .ref w0, m_4, m_5, m_6, m_7, m_8, m_9, m_10, m_11, m_12, m_13, m_14, m_15, m_16, m_17, m_18, m_19, .int 0, m_21, m_22, m_23, m_24, m_25, m_26, m_27, m_28, m_29, m_30, m_31, m_32, m_33, .int x_629, .ref e0, m_36, .ref q0, .int bro, .long val, .long sm, m_41, m_42, m_43, m_44, m_45, m_46, m_47, m_48, m_49, m_50, m_51, m_52, m_53, m_54, m_55, m_56, m_57, m_58, m_59])), (w0, .inl (K 0, 5500, .inl fw)), (e0, .inl (K 2, 13, .inr (.inl f_652))), (q0, .inl (K 2, 400, .inr (.inl frs)))] := hD
    refine lv_aload_n hx hb dX12_tells_105 rfl (lv_at hl 0 rfl) ?_
    refine va_get (ci := 12) (v := .ref e0) (C := RX12) (T := TX12) (N := 60) hx hb hts hw12 hown hK hP 0 rfl rfl 35 (by decide +kernel) (hts _ mm_X12_tells_865) (fun _ h9 => h9) rfl dX12_tells_106 ?_
    refine lv_bipush (v := 7) hx hb dX12_tells_109 (by decide +kernel) ?_
    refine lv_aload_n hx hb dX12_tells_111 rfl (lv_at hl 0 rfl) ?_
    refine lv_iconst (v := 1) hx hb dX12_tells_112 (by decide +kernel) ?_
    refine pci (va_runV (As := [.int 1]) (rest := [.int 7, .ref e0]) ⟨hx, hb, hml, hown, hts⟩ (v_term l D K m0 1 m_0 m_1 m_2 w0 m_4 m_5 m_6 m_7 m_8 m_9 m_10 m_11 m_12 m_13 m_14 m_15 m_16 m_17 m_18 m_19 (.int 0) m_21 m_22 m_23 m_24 m_25 m_26 m_27 m_28 m_29 m_30 m_31 m_32 m_33 (.int x_629) (.ref e0) m_36 (.ref q0) (.int bro) (.long val) (.long sm) m_41 m_42 m_43 m_44 m_45 m_46 m_47 m_48 m_49 m_50 m_51 m_52 m_53 m_54 m_55 m_56 m_57 m_58 m_59 fw H.size (by first | omega | decide) zfw) (cwV 1 hts gX12_tells_X12_term rfl rfl rfl (by decide +kernel) ⟨Nat.le_of_ble_eq_true rfl, Nat.le_of_ble_eq_true rfl⟩) (mkV hK hN (hP.sub [0, 1] rfl) (hD.sub [0, 1] (by decide +kernel) rfl) (ci := 12) (q0 := 0) rfl rfl) rfl rfl hl.1 rfl (lv_room (Nat.le_of_ble_eq_true rfl)) dX12_tells_113 ⟨Nat.le_of_ble_eq_true rfl, Nat.le_of_ble_eq_true rfl⟩) (fun r_653 hw => ?_)
    obtain ⟨k_654, -⟩ := hw
    replace hE := hE.trans (Lt_in k_654)
    refine lv_i2l hx hb dX12_tells_116 rfl ?_
    refine lv_topl (fun x_655 ex_655 => ?_)
    replace hE := hE.trans (Lt_in ex_655)
    have hx_655 : x_655.toInt = r_653.toInt := by rw [ex_655]; exact i_wide rfl
    refine va_last hx hb hK hP hD hS 2 2 rfl rfl (i_in (x := 7) rfl (by omega)) dX12_tells_117 (fun H locs hP0 hD0 hS0 => ?_)
    clear hP hD hS
    have hP := hP0
    have hD := hD0
    have hS := hS0
    clear hP0 hD0 hS0
    generalize hf_656 : (vp_updL f_652 (7 : Int32).toNatClampNeg x_655) = f_656 at hP hD
    replace hE := hE.trans (Lt_in hf_656.symm)
    replace hP : va_P D vwCl [(m0, .inr (12, [m_0, m_1, m_2, .ref w0, m_4, m_5, m_6, m_7, m_8, m_9, m_10, m_11, m_12, m_13, m_14, m_15, m_16, m_17, m_18, m_19, .int 0, m_21, m_22, m_23, m_24, m_25, m_26, m_27, m_28, m_29, m_30, m_31, m_32, m_33, .int x_629, .ref e0, m_36, .ref q0, .int bro, .long val, .long sm, m_41, m_42, m_43, m_44, m_45, m_46, m_47, m_48, m_49, m_50, m_51, m_52, m_53, m_54, m_55, m_56, m_57, m_58, m_59])), (w0, .inl (K 0, 5500, .inl fw)), (e0, .inl (K 2, 13, .inr (.inl f_656))), (q0, .inl (K 2, 400, .inr (.inl frs)))] H := hP
    replace hD : va_D A [(m0, .inr (12, [m_0, m_1, m_2, .ref w0, m_4, m_5, m_6, m_7, m_8, m_9, m_10, m_11, m_12, m_13, m_14, m_15, m_16, m_17, m_18, m_19, .int 0, m_21, m_22, m_23, m_24, m_25, m_26, m_27, m_28, m_29, m_30, m_31, m_32, m_33, .int x_629, .ref e0, m_36, .ref q0, .int bro, .long val, .long sm, m_41, m_42, m_43, m_44, m_45, m_46, m_47, m_48, m_49, m_50, m_51, m_52, m_53, m_54, m_55, m_56, m_57, m_58, m_59])), (w0, .inl (K 0, 5500, .inl fw)), (e0, .inl (K 2, 13, .inr (.inl f_656))), (q0, .inl (K 2, 400, .inr (.inl frs)))] := hD
    refine lv_aload_n hx hb dX12_tells_118 rfl (lv_at hl 0 rfl) ?_
    refine va_get (ci := 12) (v := .ref e0) (C := RX12) (T := TX12) (N := 60) hx hb hts hw12 hown hK hP 0 rfl rfl 35 (by decide +kernel) (hts _ mm_X12_tells_865) (fun _ h9 => h9) rfl dX12_tells_119 ?_
    refine lv_bipush (v := 8) hx hb dX12_tells_122 (by decide +kernel) ?_
    refine lv_aload_n hx hb dX12_tells_124 rfl (lv_at hl 0 rfl) ?_
    refine lv_iconst (v := 5) hx hb dX12_tells_125 (by decide +kernel) ?_
    refine pci (va_runV (As := [.int 5]) (rest := [.int 8, .ref e0]) ⟨hx, hb, hml, hown, hts⟩ (v_term l D K m0 5 m_0 m_1 m_2 w0 m_4 m_5 m_6 m_7 m_8 m_9 m_10 m_11 m_12 m_13 m_14 m_15 m_16 m_17 m_18 m_19 (.int 0) m_21 m_22 m_23 m_24 m_25 m_26 m_27 m_28 m_29 m_30 m_31 m_32 m_33 (.int x_629) (.ref e0) m_36 (.ref q0) (.int bro) (.long val) (.long sm) m_41 m_42 m_43 m_44 m_45 m_46 m_47 m_48 m_49 m_50 m_51 m_52 m_53 m_54 m_55 m_56 m_57 m_58 m_59 fw H.size (by first | omega | decide) zfw) (cwV 1 hts gX12_tells_X12_term rfl rfl rfl (by decide +kernel) ⟨Nat.le_of_ble_eq_true rfl, Nat.le_of_ble_eq_true rfl⟩) (mkV hK hN (hP.sub [0, 1] rfl) (hD.sub [0, 1] (by decide +kernel) rfl) (ci := 12) (q0 := 0) rfl rfl) rfl rfl hl.1 rfl (lv_room (Nat.le_of_ble_eq_true rfl)) dX12_tells_126 ⟨Nat.le_of_ble_eq_true rfl, Nat.le_of_ble_eq_true rfl⟩) (fun r_657 hw => ?_)
    obtain ⟨k_658, -⟩ := hw
    replace hE := hE.trans (Lt_in k_658)
    refine lv_i2l hx hb dX12_tells_129 rfl ?_
    refine lv_topl (fun x_659 ex_659 => ?_)
    replace hE := hE.trans (Lt_in ex_659)
    have hx_659 : x_659.toInt = r_657.toInt := by rw [ex_659]; exact i_wide rfl
    refine va_last hx hb hK hP hD hS 2 2 rfl rfl (i_in (x := 8) rfl (by omega)) dX12_tells_130 (fun H locs hP0 hD0 hS0 => ?_)
    clear hP hD hS
    have hP := hP0
    have hD := hD0
    have hS := hS0
    clear hP0 hD0 hS0
    generalize hf_660 : (vp_updL f_656 (8 : Int32).toNatClampNeg x_659) = f_660 at hP hD
    replace hE := hE.trans (Lt_in hf_660.symm)
    replace hP : va_P D vwCl [(m0, .inr (12, [m_0, m_1, m_2, .ref w0, m_4, m_5, m_6, m_7, m_8, m_9, m_10, m_11, m_12, m_13, m_14, m_15, m_16, m_17, m_18, m_19, .int 0, m_21, m_22, m_23, m_24, m_25, m_26, m_27, m_28, m_29, m_30, m_31, m_32, m_33, .int x_629, .ref e0, m_36, .ref q0, .int bro, .long val, .long sm, m_41, m_42, m_43, m_44, m_45, m_46, m_47, m_48, m_49, m_50, m_51, m_52, m_53, m_54, m_55, m_56, m_57, m_58, m_59])), (w0, .inl (K 0, 5500, .inl fw)), (e0, .inl (K 2, 13, .inr (.inl f_660))), (q0, .inl (K 2, 400, .inr (.inl frs)))] H := hP
    replace hD : va_D A [(m0, .inr (12, [m_0, m_1, m_2, .ref w0, m_4, m_5, m_6, m_7, m_8, m_9, m_10, m_11, m_12, m_13, m_14, m_15, m_16, m_17, m_18, m_19, .int 0, m_21, m_22, m_23, m_24, m_25, m_26, m_27, m_28, m_29, m_30, m_31, m_32, m_33, .int x_629, .ref e0, m_36, .ref q0, .int bro, .long val, .long sm, m_41, m_42, m_43, m_44, m_45, m_46, m_47, m_48, m_49, m_50, m_51, m_52, m_53, m_54, m_55, m_56, m_57, m_58, m_59])), (w0, .inl (K 0, 5500, .inl fw)), (e0, .inl (K 2, 13, .inr (.inl f_660))), (q0, .inl (K 2, 400, .inr (.inl frs)))] := hD
    refine lv_aload_n hx hb dX12_tells_131 rfl (lv_at hl 0 rfl) ?_
    refine va_get (ci := 12) (v := .ref e0) (C := RX12) (T := TX12) (N := 60) hx hb hts hw12 hown hK hP 0 rfl rfl 35 (by decide +kernel) (hts _ mm_X12_tells_865) (fun _ h9 => h9) rfl dX12_tells_132 ?_
    refine lv_bipush (v := 9) hx hb dX12_tells_135 (by decide +kernel) ?_
    refine lv_iload hx hb dX12_tells_137 (lv_at hl 4 rfl) ?_
    refine lv_i2l hx hb dX12_tells_139 rfl ?_
    refine lv_topl (fun x_661 ex_661 => ?_)
    replace hE := hE.trans (Lt_in ex_661)
    have hx_661 : x_661.toInt = w.toInt := by rw [ex_661]; exact i_wide rfl
    have hbx_661 := i_rng (a := w) rfl
    refine va_last hx hb hK hP hD hS 2 2 rfl rfl (i_in (x := 9) rfl (by omega)) dX12_tells_140 (fun H locs hP0 hD0 hS0 => ?_)
    clear hP hD hS
    have hP := hP0
    have hD := hD0
    have hS := hS0
    clear hP0 hD0 hS0
    generalize hf_662 : (vp_updL f_660 (9 : Int32).toNatClampNeg x_661) = f_662 at hP hD
    replace hE := hE.trans (Lt_in hf_662.symm)
    replace hP : va_P D vwCl [(m0, .inr (12, [m_0, m_1, m_2, .ref w0, m_4, m_5, m_6, m_7, m_8, m_9, m_10, m_11, m_12, m_13, m_14, m_15, m_16, m_17, m_18, m_19, .int 0, m_21, m_22, m_23, m_24, m_25, m_26, m_27, m_28, m_29, m_30, m_31, m_32, m_33, .int x_629, .ref e0, m_36, .ref q0, .int bro, .long val, .long sm, m_41, m_42, m_43, m_44, m_45, m_46, m_47, m_48, m_49, m_50, m_51, m_52, m_53, m_54, m_55, m_56, m_57, m_58, m_59])), (w0, .inl (K 0, 5500, .inl fw)), (e0, .inl (K 2, 13, .inr (.inl f_662))), (q0, .inl (K 2, 400, .inr (.inl frs)))] H := hP
    replace hD : va_D A [(m0, .inr (12, [m_0, m_1, m_2, .ref w0, m_4, m_5, m_6, m_7, m_8, m_9, m_10, m_11, m_12, m_13, m_14, m_15, m_16, m_17, m_18, m_19, .int 0, m_21, m_22, m_23, m_24, m_25, m_26, m_27, m_28, m_29, m_30, m_31, m_32, m_33, .int x_629, .ref e0, m_36, .ref q0, .int bro, .long val, .long sm, m_41, m_42, m_43, m_44, m_45, m_46, m_47, m_48, m_49, m_50, m_51, m_52, m_53, m_54, m_55, m_56, m_57, m_58, m_59])), (w0, .inl (K 0, 5500, .inl fw)), (e0, .inl (K 2, 13, .inr (.inl f_662))), (q0, .inl (K 2, 400, .inr (.inl frs)))] := hD
    refine lv_lload hx hb dX12_tells_141 (lv_at hl 5 rfl) ?_
    refine lv_lstore (lv' := [(7, .long v), (0, .ref m0), (1, .int x), (2, .int y), (3, .int z), (4, .int w), (5, .long v)]) hx hb dX12_tells_143 hl (by decide +kernel) rfl (fun ls hl => ?_)
    refine lv_iconst (v := 0) hx hb dX12_tells_145 (by decide +kernel) ?_
    refine lv_istore (lv' := [(9, .int 0), (7, .long v), (0, .ref m0), (1, .int x), (2, .int y), (3, .int z), (4, .int w), (5, .long v)]) hx hb dX12_tells_146 hl (by decide +kernel) rfl (fun ls hl => ?_)
    have lp_877 : ∀ (nn_ : Nat) (v_803 : Int32) (v_804 : Int64) (v_805 : Int32) (v_806 : Int64) (v_807 : Int64) (f_808 : Nat → Int64) (hv_803 : 0 ≤ v_803.toInt ∧ v_803.toInt ≤ 12) (hv_805 : 0 ≤ v_805.toInt ∧ v_805.toInt ≤ 1) (hn : (13 - v_803.toInt : Int).toNat < nn_) (hE : E_v_tells x y z w v lw bro val sm fw fe frs = Lp (α := Int32 → Int64 → Int32 → Int64 → Int64 → (Nat → Int64) → (Int64 × Int32 × Int32 × Int64 × Int64 × (Nat → Int64) × (Nat → Int64))) (E_v_tells_l148 y fw x_629 f_662) (fun _ _ _ _ _ _ => ((0, 0, 0, 0, 0, fun _ => 0, fun _ => 0) : Int64 × Int32 × Int32 × Int64 × Int64 × (Nat → Int64) × (Nat → Int64))) nn_ v_803 v_804 v_805 v_806 v_807 f_808) (H : Heap) (locs : List Loc) (hP : va_P D vwCl [(m0, .inr (12, [m_0, m_1, m_2, .ref w0, m_4, m_5, m_6, m_7, m_8, m_9, m_10, m_11, m_12, m_13, m_14, m_15, m_16, m_17, m_18, m_19, .int 0, m_21, m_22, m_23, m_24, m_25, m_26, m_27, m_28, m_29, m_30, m_31, m_32, m_33, .int x_629, .ref e0, m_36, .ref q0, .int v_805, .long v_806, .long v_807, m_41, m_42, m_43, m_44, m_45, m_46, m_47, m_48, m_49, m_50, m_51, m_52, m_53, m_54, m_55, m_56, m_57, m_58, m_59])), (w0, .inl (K 0, 5500, .inl fw)), (e0, .inl (K 2, 13, .inr (.inl f_662))), (q0, .inl (K 2, 400, .inr (.inl f_808)))] H) (hD : va_D A [(m0, .inr (12, [m_0, m_1, m_2, .ref w0, m_4, m_5, m_6, m_7, m_8, m_9, m_10, m_11, m_12, m_13, m_14, m_15, m_16, m_17, m_18, m_19, .int 0, m_21, m_22, m_23, m_24, m_25, m_26, m_27, m_28, m_29, m_30, m_31, m_32, m_33, .int x_629, .ref e0, m_36, .ref q0, .int v_805, .long v_806, .long v_807, m_41, m_42, m_43, m_44, m_45, m_46, m_47, m_48, m_49, m_50, m_51, m_52, m_53, m_54, m_55, m_56, m_57, m_58, m_59])), (w0, .inl (K 0, 5500, .inl fw)), (e0, .inl (K 2, 13, .inr (.inl f_662))), (q0, .inl (K 2, 400, .inr (.inl f_808)))]) (hS : va_S A s.heap H locs) (ls : Array Slot) (hl : lv_has ls 11 [(9, .int v_803), (7, .long v_804), (0, .ref m0), (2, .int y)]), W p l e ({ frames := 3, cells := 0, slots := 0, locals := 72 }) s m (([.ref m0, .int x, .int y, .int z, .int w, .long v] : List Value).toArray) below meth c H locs 0 0 Q (F0 m 148 ls []) := by
      clear hE hP hD hS hl
      intro nn_
      induction nn_ with
      | zero =>
        intro v_803 v_804 v_805 v_806 v_807 f_808 hv_803 hv_805 hn hE H locs hP hD hS ls hl
        exact absurd hn (Nat.not_lt_zero _)
      | succ nn_ ih_878 =>
        intro v_803 v_804 v_805 v_806 v_807 f_808 hv_803 hv_805 hn hE H locs hP hD hS ls hl
        replace hE : E_v_tells x y z w v lw bro val sm fw fe frs = E_v_tells_l148 y fw x_629 f_662 (Lp (α := Int32 → Int64 → Int32 → Int64 → Int64 → (Nat → Int64) → (Int64 × Int32 × Int32 × Int64 × Int64 × (Nat → Int64) × (Nat → Int64))) (E_v_tells_l148 y fw x_629 f_662) (fun _ _ _ _ _ _ => ((0, 0, 0, 0, 0, fun _ => 0, fun _ => 0) : Int64 × Int32 × Int32 × Int64 × Int64 × (Nat → Int64) × (Nat → Int64))) nn_) v_803 v_804 v_805 v_806 v_807 f_808 := hE
        obtain ⟨rec_877, hrec_877⟩ : ∃ z9, z9 = Lp (α := Int32 → Int64 → Int32 → Int64 → Int64 → (Nat → Int64) → (Int64 × Int32 × Int32 × Int64 × Int64 × (Nat → Int64) × (Nat → Int64))) (E_v_tells_l148 y fw x_629 f_662) (fun _ _ _ _ _ _ => ((0, 0, 0, 0, 0, fun _ => 0, fun _ => 0) : Int64 × Int32 × Int32 × Int64 × Int64 × (Nat → Int64) × (Nat → Int64))) nn_ := ⟨_, rfl⟩
        rw [← hrec_877] at hE
        replace hE := hE.trans (E_v_tells_l148.eq_def _ _ _ _ _ _ _ _ _ _ _)
        refine lv_iload hx hb dX12_tells_148 (lv_at hl 0 rfl) ?_
        refine lv_aload_n hx hb dX12_tells_150 rfl (lv_at hl 2 rfl) ?_
        refine va_get (ci := 12) (v := .ref w0) (C := RX12) (T := TX12) (N := 60) hx hb hts hw12 hown hK hP 0 rfl rfl 3 (by decide +kernel) (hts _ mm_X12_tells_833) (fun _ h9 => h9) rfl dX12_tells_151 ?_
        refine lv_aload_n hx hb dX12_tells_154 rfl (lv_at hl 2 rfl) ?_
        refine va_get (ci := 12) (v := .int x_629) (C := RX12) (T := TX12) (N := 60) hx hb hts hw12 hown hK hP 0 rfl rfl 34 (by decide +kernel) (hts _ mm_X12_tells_864) (fun _ h9 => h9) rfl dX12_tells_155 ?_
        refine lv_iconst (v := 1) hx hb dX12_tells_158 (by decide +kernel) ?_
        refine lv_iadd hx hb dX12_tells_159 ?_
        refine lv_topi (fun x_879 ex_879 => ?_)
        replace hE := hE.trans (Lt_in ex_879)
        have hx_879 : x_879.toInt = ((100 + (900 * x.toInt)) + 1) := by rw [ex_879]; exact i_add hx_629 (show (1 : Int32).toInt = 1 from rfl) (by omega)
        refine va_iald hx hb hK hP 1 0 rfl rfl (i_in hx_879 (by omega)) dX12_tells_160 ?_
        refine lv_topi (fun x_880 ex_880 => ?_)
        replace hE := hE.trans (Lt_in ex_880)
        have ox_880 : x_880 = fw (bb + 1) := by rw [ex_880, i_clamp hx_879, show (((100 + (900 * x.toInt)) + 1)).toNat = bb + 1 by omega]
        have hx_880 : 0 ≤ x_880.toInt ∧ x_880.toInt ≤ 12 := by rw [ox_880]; exact ⟨hlaw.1, hlaw.2.1⟩
        refine lv_icmp_ge (tgt := 219) hx hb dX12_tells_161 (by decide +kernel) (fun c_881 => ?_) (fun c_881 => ?_)
        · have c_881i := i_le (x := x_880.toInt) (y := v_803.toInt) rfl rfl c_881
          replace hE := hE.trans (if_pos c_881)
          refine lv_lload hx hb dX12_tells_219 (lv_at hl 1 rfl) ?_
          rw [← hQ]
          have hP9 := hP.sub (ws' := [(m0, .inr (12, [m_0, m_1, m_2, .ref w0, m_4, m_5, m_6, m_7, m_8, m_9, m_10, m_11, m_12, m_13, m_14, m_15, m_16, m_17, m_18, m_19, .int 0, m_21, m_22, m_23, m_24, m_25, m_26, m_27, m_28, m_29, m_30, m_31, m_32, m_33, .int x_629, .ref e0, m_36, .ref q0, .int v_805, .long v_806, .long v_807, m_41, m_42, m_43, m_44, m_45, m_46, m_47, m_48, m_49, m_50, m_51, m_52, m_53, m_54, m_55, m_56, m_57, m_58, m_59])), (w0, .inl (K 0, 5500, .inl fw)), (e0, .inl (K 2, 13, .inr (.inl f_662))), (q0, .inl (K 2, 400, .inr (.inl f_808)))]) [0, 1, 2, 3] rfl
          have hD9 := hD.sub (ws' := [(m0, .inr (12, [m_0, m_1, m_2, .ref w0, m_4, m_5, m_6, m_7, m_8, m_9, m_10, m_11, m_12, m_13, m_14, m_15, m_16, m_17, m_18, m_19, .int 0, m_21, m_22, m_23, m_24, m_25, m_26, m_27, m_28, m_29, m_30, m_31, m_32, m_33, .int x_629, .ref e0, m_36, .ref q0, .int v_805, .long v_806, .long v_807, m_41, m_42, m_43, m_44, m_45, m_46, m_47, m_48, m_49, m_50, m_51, m_52, m_53, m_54, m_55, m_56, m_57, m_58, m_59])), (w0, .inl (K 0, 5500, .inl fw)), (e0, .inl (K 2, 13, .inr (.inl f_662))), (q0, .inl (K 2, 400, .inr (.inl f_808)))]) [0, 1, 2, 3] (by decide +kernel) rfl
          exact W.lret (v := v_804) hx hb hr (fun t ht hW => ⟨⟨v_804, ((fun _ => 0, fun _ => fun _ => 0, fun i => match i with | 0 => f_662 | _ => f_808, fun i => match i with | 0 => x_629 | _ => v_805, fun i => match i with | 0 => v_806 | _ => v_807, fun _ => fun _ => none) : Su), rfl, ⟨(show 0 ≤ (v_805 : Int32).toInt ∧ (v_805 : Int32).toInt ≤ 1 by omega), hE.symm, trivial⟩, (⟨by rw [ht]; exact hP9, hD9⟩ : Wd D A _ t)⟩, hS.F ht⟩) hS.2.2 dX12_tells_221
        · have c_881i := i_nle (x := x_880.toInt) (y := v_803.toInt) rfl rfl c_881
          replace hE := hE.trans (if_neg c_881)
          refine lv_aload_n hx hb dX12_tells_164 rfl (lv_at hl 2 rfl) ?_
          refine va_get (ci := 12) (v := .int x_629) (C := RX12) (T := TX12) (N := 60) hx hb hts hw12 hown hK hP 0 rfl rfl 34 (by decide +kernel) (hts _ mm_X12_tells_864) (fun _ h9 => h9) rfl dX12_tells_165 ?_
          refine lv_iconst (v := 2) hx hb dX12_tells_168 (by decide +kernel) ?_
          refine lv_iadd hx hb dX12_tells_169 ?_
          refine lv_topi (fun x_882 ex_882 => ?_)
          replace hE := hE.trans (Lt_in ex_882)
          have hx_882 : x_882.toInt = ((100 + (900 * x.toInt)) + 2) := by rw [ex_882]; exact i_add hx_629 (show (2 : Int32).toInt = 2 from rfl) (by omega)
          refine lv_bipush (v := 8) hx hb dX12_tells_170 (by decide +kernel) ?_
          refine lv_iload hx hb dX12_tells_172 (lv_at hl 0 rfl) ?_
          refine lv_imul hx hb dX12_tells_174 ?_
          refine lv_topi (fun x_883 ex_883 => ?_)
          replace hE := hE.trans (Lt_in ex_883)
          have hx_883 : x_883.toInt = (8 * v_803.toInt) := by rw [ex_883]; exact i_mul (show (8 : Int32).toInt = 8 from rfl) rfl (by omega)
          refine lv_iadd hx hb dX12_tells_175 ?_
          refine lv_topi (fun x_884 ex_884 => ?_)
          replace hE := hE.trans (Lt_in ex_884)
          have hx_884 : x_884.toInt = (((100 + (900 * x.toInt)) + 2) + (8 * v_803.toInt)) := by rw [ex_884]; exact i_add hx_882 hx_883 (by omega)
          refine lv_istore (lv' := [(10, .int x_884), (9, .int v_803), (7, .long v_804), (0, .ref m0), (2, .int y)]) hx hb dX12_tells_176 hl (by decide +kernel) rfl (fun ls hl => ?_)
          refine lv_aload_n hx hb dX12_tells_178 rfl (lv_at hl 3 rfl) ?_
          refine va_get (ci := 12) (v := .ref w0) (C := RX12) (T := TX12) (N := 60) hx hb hts hw12 hown hK hP 0 rfl rfl 3 (by decide +kernel) (hts _ mm_X12_tells_833) (fun _ h9 => h9) rfl dX12_tells_179 ?_
          refine lv_iload hx hb dX12_tells_182 (lv_at hl 0 rfl) ?_
          refine va_iald hx hb hK hP 1 0 rfl rfl (i_in hx_884 (by omega)) dX12_tells_184 ?_
          refine lv_topi (fun x_885 ex_885 => ?_)
          replace hE := hE.trans (Lt_in ex_885)
          refine lv_iload_n hx hb dX12_tells_185 rfl (lv_at hl 4 rfl) ?_
          have j_900 : ∀ (v_894 : Int64) (v_895 : Int32) (v_896 : Int64) (v_897 : Int64) (f_898 : Nat → Int64) (hv_895 : 0 ≤ v_895.toInt ∧ v_895.toInt ≤ 1) (hE : E_v_tells x y z w v lw bro val sm fw fe frs = E_v_tells_j213 v_803 rec_877 v_894 v_895 v_896 v_897 f_898) (H : Heap) (locs : List Loc) (hP : va_P D vwCl [(m0, .inr (12, [m_0, m_1, m_2, .ref w0, m_4, m_5, m_6, m_7, m_8, m_9, m_10, m_11, m_12, m_13, m_14, m_15, m_16, m_17, m_18, m_19, .int 0, m_21, m_22, m_23, m_24, m_25, m_26, m_27, m_28, m_29, m_30, m_31, m_32, m_33, .int x_629, .ref e0, m_36, .ref q0, .int v_895, .long v_896, .long v_897, m_41, m_42, m_43, m_44, m_45, m_46, m_47, m_48, m_49, m_50, m_51, m_52, m_53, m_54, m_55, m_56, m_57, m_58, m_59])), (w0, .inl (K 0, 5500, .inl fw)), (e0, .inl (K 2, 13, .inr (.inl f_662))), (q0, .inl (K 2, 400, .inr (.inl f_898)))] H) (hD : va_D A [(m0, .inr (12, [m_0, m_1, m_2, .ref w0, m_4, m_5, m_6, m_7, m_8, m_9, m_10, m_11, m_12, m_13, m_14, m_15, m_16, m_17, m_18, m_19, .int 0, m_21, m_22, m_23, m_24, m_25, m_26, m_27, m_28, m_29, m_30, m_31, m_32, m_33, .int x_629, .ref e0, m_36, .ref q0, .int v_895, .long v_896, .long v_897, m_41, m_42, m_43, m_44, m_45, m_46, m_47, m_48, m_49, m_50, m_51, m_52, m_53, m_54, m_55, m_56, m_57, m_58, m_59])), (w0, .inl (K 0, 5500, .inl fw)), (e0, .inl (K 2, 13, .inr (.inl f_662))), (q0, .inl (K 2, 400, .inr (.inl f_898)))]) (hS : va_S A s.heap H locs) (ls : Array Slot) (hl : lv_has ls 11 [(9, .int v_803), (7, .long v_894), (0, .ref m0), (2, .int y)]), W p l e ({ frames := 3, cells := 0, slots := 0, locals := 72 }) s m (([.ref m0, .int x, .int y, .int z, .int w, .long v] : List Value).toArray) below meth c H locs 0 0 Q (F0 m 213 ls []) := by
            clear hE hP hD hS hl
            intro v_894 v_895 v_896 v_897 f_898 hv_895 hE H locs hP hD hS ls hl
            replace hE := hE.trans (E_v_tells_j213.eq_def _ _ _ _ _ _ _)
            obtain ⟨x_901, ex_901⟩ : ∃ y : Int32, y = v_803 + Int32.ofInt 1 := ⟨_, rfl⟩
            replace hE := hE.trans (Lt_in ex_901)
            have hx_901 : x_901.toInt = (v_803.toInt + 1) := by rw [ex_901]; exact i_add rfl (show (Int32.ofInt 1).toInt = 1 from rfl) (by omega)
            refine lv_iinc (v := x_901) (lv' := [(9, .int x_901), (7, .long v_894), (0, .ref m0), (2, .int y)]) hx hb dX12_tells_213 hl (k := 0) rfl (by rw [ex_901]) (by decide +kernel) rfl (fun ls hl => ?_)
            refine lv_goto (tgt := 148) hx hb dX12_tells_216 (by decide +kernel) ?_
            exact ih_878 x_901 v_894 v_895 v_896 v_897 f_898 (by rw [hx_901]; omega) (by omega) (by omega) (hE.trans (by rw [hrec_877])) _ _ hP hD hS ls (lv_sub hl [0, 1, 2, 3] rfl)
          refine lv_icmp_ne (tgt := 213) hx hb dX12_tells_186 (by decide +kernel) (fun c_902 => ?_) (fun c_902 => ?_)
          · have c_902i := i_ne (x := x_885.toInt) (y := y.toInt) rfl rfl c_902
            replace hE := hE.trans (if_neg c_902)
            exact j_900 v_804 v_805 v_806 v_807 f_808 (by omega) hE _ _ hP hD hS ls (lv_sub hl [1, 2, 3, 4] rfl)
          · have c_902i := i_eq (x := x_885.toInt) (y := y.toInt) rfl rfl c_902
            replace hE := hE.trans (if_pos c_902)
            refine lv_aload_n hx hb dX12_tells_189 rfl (lv_at hl 3 rfl) ?_
            refine lv_iload hx hb dX12_tells_190 (lv_at hl 0 rfl) ?_
            refine kci (S := Su) (wr := []) (va_runV (As := [.int x_884]) (rest := []) ⟨hx, hb, hml, hown, hts⟩ (v_isSo l D K bb ((v_803.toInt).toNat) m0 x_884 m_0 m_1 m_2 w0 m_4 m_5 m_6 m_7 m_8 m_9 m_10 m_11 m_12 m_13 m_14 m_15 m_16 m_17 m_18 m_19 m_21 m_22 m_23 m_24 m_25 m_26 m_27 m_28 m_29 m_30 m_31 m_32 m_33 x_629 e0 m_36 q0 v_805 v_806 v_807 m_41 m_42 m_43 m_44 m_45 m_46 m_47 m_48 m_49 m_50 m_51 m_52 m_53 m_54 m_55 m_56 m_57 m_58 m_59 fw gr f_662 f_808 H.size (by first | omega | decide) (by first | omega | decide) (by omega) hlaw (by first | omega | decide) (by rw [← ox_880]; omega) (by omega) zfw zgr) (cwV 1 hts gX12_tells_X12_isSo rfl rfl rfl (by decide +kernel) ⟨Nat.le_of_ble_eq_true rfl, Nat.le_of_ble_eq_true rfl⟩) (mkV hK hN (hP.sub [0, 1, 2, 3] rfl) (hD.sub [0, 1, 2, 3] (by decide +kernel) rfl) (ci := 12) (q0 := 0) rfl rfl) rfl rfl hl.1 rfl (lv_room (Nat.le_of_ble_eq_true rfl)) dX12_tells_192 ⟨Nat.le_of_ble_eq_true rfl, Nat.le_of_ble_eq_true rfl⟩) hP hD hS hA [0, 1, 2, 3] [] rfl rfl (by decide +kernel) (by decide +kernel) (fun r_903 u_904 H locs hw hP0 hD0 hS0 => ?_)
            clear hP hD hS
            have hP := hP0
            have hD := hD0
            have hS := hS0
            clear hP0 hD0 hS0
            replace hP : va_P D vwCl [(m0, .inr (12, [m_0, m_1, m_2, .ref w0, m_4, m_5, m_6, m_7, m_8, m_9, m_10, m_11, m_12, m_13, m_14, m_15, m_16, m_17, m_18, m_19, .int 0, m_21, m_22, m_23, m_24, m_25, m_26, m_27, m_28, m_29, m_30, m_31, m_32, m_33, .int x_629, .ref e0, m_36, .ref q0, .int (u_904.2.2.2.1 0), .long (u_904.2.2.2.2.1 0), .long (u_904.2.2.2.2.1 1), m_41, m_42, m_43, m_44, m_45, m_46, m_47, m_48, m_49, m_50, m_51, m_52, m_53, m_54, m_55, m_56, m_57, m_58, m_59])), (w0, .inl (K 0, 5500, .inl fw)), (e0, .inl (K 2, 13, .inr (.inl f_662))), (q0, .inl (K 2, 400, .inr (.inl (u_904.2.2.1 0))))] H := hP
            replace hD : va_D A [(m0, .inr (12, [m_0, m_1, m_2, .ref w0, m_4, m_5, m_6, m_7, m_8, m_9, m_10, m_11, m_12, m_13, m_14, m_15, m_16, m_17, m_18, m_19, .int 0, m_21, m_22, m_23, m_24, m_25, m_26, m_27, m_28, m_29, m_30, m_31, m_32, m_33, .int x_629, .ref e0, m_36, .ref q0, .int (u_904.2.2.2.1 0), .long (u_904.2.2.2.2.1 0), .long (u_904.2.2.2.2.1 1), m_41, m_42, m_43, m_44, m_45, m_46, m_47, m_48, m_49, m_50, m_51, m_52, m_53, m_54, m_55, m_56, m_57, m_58, m_59])), (w0, .inl (K 0, 5500, .inl fw)), (e0, .inl (K 2, 13, .inr (.inl f_662))), (q0, .inl (K 2, 400, .inr (.inl (u_904.2.2.1 0))))] := hD
            obtain ⟨h_907, k_905, k_906, -⟩ := hw
            replace hE := (((hE.trans (Lt2_in k_906)).trans (Lt2_in rfl)).trans (Lt2_in rfl)).trans (Lt2_in rfl)
            refine lv_if_eq (tgt := 213) hx hb dX12_tells_195 (by decide +kernel) (fun c_908 => ?_) (fun c_908 => ?_)
            · have c_908i := i_eq (x := r_903.toInt) (y := 0) rfl rfl c_908
              replace hE := hE.trans (if_pos c_908)
              exact j_900 v_804 (u_904.2.2.2.1 0) (u_904.2.2.2.2.1 0) (u_904.2.2.2.2.1 1) (u_904.2.2.1 0) (by omega) hE _ _ hP hD hS ls (lv_sub hl [1, 2, 3, 4] rfl)
            · have c_908i := i_ne (x := r_903.toInt) (y := 0) rfl rfl c_908
              replace hE := hE.trans (if_neg c_908)
              refine lv_iload_n hx hb dX12_tells_198 rfl (lv_at hl 4 rfl) ?_
              refine lv_iconst (v := 3) hx hb dX12_tells_199 (by decide +kernel) ?_
              refine lv_icmp_ne (tgt := 207) hx hb dX12_tells_200 (by decide +kernel) (fun c_909 => ?_) (fun c_909 => ?_)
              · have c_909i := i_ne (x := y.toInt) (y := 3) rfl rfl c_909
                replace hE := hE.trans (if_neg c_909)
                refine lv_aload_n hx hb dX12_tells_207 rfl (lv_at hl 3 rfl) ?_
                refine va_get (ci := 12) (v := .long (u_904.2.2.2.2.1 1)) (C := RX12) (T := TX12) (N := 60) hx hb hts hw12 hown hK hP 0 rfl rfl 40 (by decide +kernel) (hts _ mm_X12_tells_870) (fun _ h9 => h9) rfl dX12_tells_208 ?_
                refine lv_lstore (lv' := [(7, .long (u_904.2.2.2.2.1 1)), (10, .int x_884), (9, .int v_803), (0, .ref m0), (2, .int y)]) hx hb dX12_tells_211 hl (by decide +kernel) rfl (fun ls hl => ?_)
                exact j_900 (u_904.2.2.2.2.1 1) (u_904.2.2.2.1 0) (u_904.2.2.2.2.1 0) (u_904.2.2.2.2.1 1) (u_904.2.2.1 0) (by omega) hE _ _ hP hD hS ls (lv_sub hl [2, 0, 3, 4] rfl)
              · have c_909i := i_eq (x := y.toInt) (y := 3) rfl rfl c_909
                replace hE := hE.trans (if_pos c_909)
                refine lv_lconst (v := 1) hx hb dX12_tells_203 (by decide +kernel) ?_
                refine lv_goto (tgt := 211) hx hb dX12_tells_204 (by decide +kernel) ?_
                refine lv_lstore (lv' := [(7, .long 1), (10, .int x_884), (9, .int v_803), (0, .ref m0), (2, .int y)]) hx hb dX12_tells_211 hl (by decide +kernel) rfl (fun ls hl => ?_)
                exact j_900 1 (u_904.2.2.2.1 0) (u_904.2.2.2.2.1 0) (u_904.2.2.2.2.1 1) (u_904.2.2.1 0) (by omega) hE _ _ hP hD hS ls (lv_sub hl [2, 0, 3, 4] rfl)
    exact lp_877 ((13 - (0 : Int32).toInt : Int).toNat + 1) 0 v bro val sm frs (by decide +kernel) (by omega) (Nat.lt_succ_self _) hE _ _ hP hD hS ls (lv_sub hl [0, 1, 2, 4] rfl)
  · have c_627i := i_eq (x := x.toInt) (y := (-1)) rfl rfl c_627
    replace hE := hE.trans (if_pos c_627)
    refine lv_lload hx hb dX12_tells_5 (lv_at hl 5 rfl) ?_
    rw [← hQ]
    have hP9 := hP.sub (ws' := [(m0, .inr (12, [m_0, m_1, m_2, .ref w0, m_4, m_5, m_6, m_7, m_8, m_9, m_10, m_11, m_12, m_13, m_14, m_15, m_16, m_17, m_18, m_19, .int 0, m_21, m_22, m_23, m_24, m_25, m_26, m_27, m_28, m_29, m_30, m_31, m_32, m_33, .int lw, .ref e0, m_36, .ref q0, .int bro, .long val, .long sm, m_41, m_42, m_43, m_44, m_45, m_46, m_47, m_48, m_49, m_50, m_51, m_52, m_53, m_54, m_55, m_56, m_57, m_58, m_59])), (w0, .inl (K 0, 5500, .inl fw)), (e0, .inl (K 2, 13, .inr (.inl fe))), (q0, .inl (K 2, 400, .inr (.inl frs)))]) [0, 1, 2, 3] rfl
    have hD9 := hD.sub (ws' := [(m0, .inr (12, [m_0, m_1, m_2, .ref w0, m_4, m_5, m_6, m_7, m_8, m_9, m_10, m_11, m_12, m_13, m_14, m_15, m_16, m_17, m_18, m_19, .int 0, m_21, m_22, m_23, m_24, m_25, m_26, m_27, m_28, m_29, m_30, m_31, m_32, m_33, .int lw, .ref e0, m_36, .ref q0, .int bro, .long val, .long sm, m_41, m_42, m_43, m_44, m_45, m_46, m_47, m_48, m_49, m_50, m_51, m_52, m_53, m_54, m_55, m_56, m_57, m_58, m_59])), (w0, .inl (K 0, 5500, .inl fw)), (e0, .inl (K 2, 13, .inr (.inl fe))), (q0, .inl (K 2, 400, .inr (.inl frs)))]) [0, 1, 2, 3] (by decide +kernel) rfl
    exact W.lret (v := v) hx hb hr (fun t ht hW => ⟨⟨v, ((fun _ => 0, fun _ => fun _ => 0, fun i => match i with | 0 => fe | _ => frs, fun i => match i with | 0 => lw | _ => bro, fun i => match i with | 0 => val | _ => sm, fun _ => fun _ => none) : Su), rfl, ⟨(show 0 ≤ (bro : Int32).toInt ∧ (bro : Int32).toInt ≤ 1 by omega), hE.symm, trivial⟩, (⟨by rw [ht]; exact hP9, hD9⟩ : Wd D A _ t)⟩, hS.F ht⟩) hS.2.2 dX12_tells_7
