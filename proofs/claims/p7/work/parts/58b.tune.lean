theorem dX12_layTunes_0 : decode cX12_layTunes 0 = .ok (.iconst 0, 1) := by decide +kernel
theorem dX12_layTunes_1 : decode cX12_layTunes 1 = .ok (.istore_n 2, 1) := by decide +kernel
theorem dX12_layTunes_2 : decode cX12_layTunes 2 = .ok (.iconst 0, 1) := by decide +kernel
theorem dX12_layTunes_3 : decode cX12_layTunes 3 = .ok (.istore_n 3, 1) := by decide +kernel
theorem dX12_layTunes_4 : decode cX12_layTunes 4 = .ok (.iload_n 3, 1) := by decide +kernel
theorem dX12_layTunes_5 : decode cX12_layTunes 5 = .ok (.aload_n 0, 1) := by decide +kernel
theorem dX12_layTunes_6 : decode cX12_layTunes 6 = .ok (.getfield 13, 3) := by decide +kernel
theorem dX12_layTunes_9 : decode cX12_layTunes 9 = .ok (.iconst 0, 1) := by decide +kernel
theorem dX12_layTunes_10 : decode cX12_layTunes 10 = .ok (.iaload, 1) := by decide +kernel
theorem dX12_layTunes_11 : decode cX12_layTunes 11 = .ok (.if_icmp .ge 32, 3) := by decide +kernel
theorem dX12_layTunes_14 : decode cX12_layTunes 14 = .ok (.aload_n 0, 1) := by decide +kernel
theorem dX12_layTunes_15 : decode cX12_layTunes 15 = .ok (.getfield 13, 3) := by decide +kernel
theorem dX12_layTunes_18 : decode cX12_layTunes 18 = .ok (.bipush 43, 2) := by decide +kernel
theorem dX12_layTunes_20 : decode cX12_layTunes 20 = .ok (.iload_n 3, 1) := by decide +kernel
theorem dX12_layTunes_21 : decode cX12_layTunes 21 = .ok (.iadd, 1) := by decide +kernel
theorem dX12_layTunes_22 : decode cX12_layTunes 22 = .ok (.iaload, 1) := by decide +kernel
theorem dX12_layTunes_23 : decode cX12_layTunes 23 = .ok (.iload_n 1, 1) := by decide +kernel
theorem dX12_layTunes_24 : decode cX12_layTunes 24 = .ok (.if_icmp .ne 13, 3) := by decide +kernel
theorem dX12_layTunes_37 : decode cX12_layTunes 37 = .ok (.iinc 3 1, 3) := by decide +kernel
theorem dX12_layTunes_40 : decode cX12_layTunes 40 = .ok (.goto (-36), 3) := by decide +kernel
theorem dX12_layTunes_27 : decode cX12_layTunes 27 = .ok (.aload_n 0, 1) := by decide +kernel
theorem dX12_layTunes_28 : decode cX12_layTunes 28 = .ok (.getfield 129, 3) := by decide +kernel
theorem dX12_layTunes_31 : decode cX12_layTunes 31 = .ok (.iload_n 2, 1) := by decide +kernel
theorem dX12_layTunes_32 : decode cX12_layTunes 32 = .ok (.iload_n 3, 1) := by decide +kernel
theorem dX12_layTunes_33 : decode cX12_layTunes 33 = .ok (.iastore, 1) := by decide +kernel
theorem dX12_layTunes_34 : decode cX12_layTunes 34 = .ok (.iinc 2 1, 3) := by decide +kernel
theorem dX12_layTunes_43 : decode cX12_layTunes 43 = .ok (.iconst 0, 1) := by decide +kernel
theorem dX12_layTunes_44 : decode cX12_layTunes 44 = .ok (.istore_n 3, 1) := by decide +kernel
theorem dX12_layTunes_45 : decode cX12_layTunes 45 = .ok (.iload_n 3, 1) := by decide +kernel
theorem dX12_layTunes_46 : decode cX12_layTunes 46 = .ok (.sipush 128, 3) := by decide +kernel
theorem dX12_layTunes_49 : decode cX12_layTunes 49 = .ok (.if_icmp .ge 22, 3) := by decide +kernel
theorem dX12_layTunes_52 : decode cX12_layTunes 52 = .ok (.aload_n 0, 1) := by decide +kernel
theorem dX12_layTunes_53 : decode cX12_layTunes 53 = .ok (.getfield 126, 3) := by decide +kernel
theorem dX12_layTunes_56 : decode cX12_layTunes 56 = .ok (.sipush 128, 3) := by decide +kernel
theorem dX12_layTunes_59 : decode cX12_layTunes 59 = .ok (.iload_n 2, 1) := by decide +kernel
theorem dX12_layTunes_60 : decode cX12_layTunes 60 = .ok (.imul, 1) := by decide +kernel
theorem dX12_layTunes_61 : decode cX12_layTunes 61 = .ok (.iload_n 3, 1) := by decide +kernel
theorem dX12_layTunes_62 : decode cX12_layTunes 62 = .ok (.iadd, 1) := by decide +kernel
theorem dX12_layTunes_63 : decode cX12_layTunes 63 = .ok (.iconst 0, 1) := by decide +kernel
theorem dX12_layTunes_64 : decode cX12_layTunes 64 = .ok (.iastore, 1) := by decide +kernel
theorem dX12_layTunes_65 : decode cX12_layTunes 65 = .ok (.iinc 3 1, 3) := by decide +kernel
theorem dX12_layTunes_68 : decode cX12_layTunes 68 = .ok (.goto (-23), 3) := by decide +kernel
theorem dX12_layTunes_71 : decode cX12_layTunes 71 = .ok (.iload_n 2, 1) := by decide +kernel
theorem dX12_layTunes_72 : decode cX12_layTunes 72 = .ok (.iconst 1, 1) := by decide +kernel
theorem dX12_layTunes_73 : decode cX12_layTunes 73 = .ok (.isub, 1) := by decide +kernel
theorem dX12_layTunes_74 : decode cX12_layTunes 74 = .ok (.istore_n 3, 1) := by decide +kernel
theorem dX12_layTunes_75 : decode cX12_layTunes 75 = .ok (.iload_n 3, 1) := by decide +kernel
theorem dX12_layTunes_76 : decode cX12_layTunes 76 = .ok (.ifCond .lt 89, 3) := by decide +kernel
theorem dX12_layTunes_79 : decode cX12_layTunes 79 = .ok (.iconst 0, 1) := by decide +kernel
theorem dX12_layTunes_80 : decode cX12_layTunes 80 = .ok (.istore 4, 2) := by decide +kernel
theorem dX12_layTunes_82 : decode cX12_layTunes 82 = .ok (.iload 4, 2) := by decide +kernel
theorem dX12_layTunes_84 : decode cX12_layTunes 84 = .ok (.sipush 128, 3) := by decide +kernel
theorem dX12_layTunes_87 : decode cX12_layTunes 87 = .ok (.if_icmp .ge 72, 3) := by decide +kernel
theorem dX12_layTunes_90 : decode cX12_layTunes 90 = .ok (.ldc_w 476, 3) := by decide +kernel
theorem dX12_layTunes_93 : decode cX12_layTunes 93 = .ok (.istore 5, 2) := by decide +kernel
theorem dX12_layTunes_95 : decode cX12_layTunes 95 = .ok (.iconst 0, 1) := by decide +kernel
theorem dX12_layTunes_96 : decode cX12_layTunes 96 = .ok (.istore 6, 2) := by decide +kernel
theorem dX12_layTunes_98 : decode cX12_layTunes 98 = .ok (.iload 6, 2) := by decide +kernel
theorem dX12_layTunes_100 : decode cX12_layTunes 100 = .ok (.bipush 7, 2) := by decide +kernel
theorem dX12_layTunes_102 : decode cX12_layTunes 102 = .ok (.if_icmp .ge 36, 3) := by decide +kernel
theorem dX12_layTunes_105 : decode cX12_layTunes 105 = .ok (.aload_n 0, 1) := by decide +kernel
theorem dX12_layTunes_106 : decode cX12_layTunes 106 = .ok (.iload_n 3, 1) := by decide +kernel
theorem dX12_layTunes_107 : decode cX12_layTunes 107 = .ok (.iload 4, 2) := by decide +kernel
theorem dX12_layTunes_109 : decode cX12_layTunes 109 = .ok (.iload 6, 2) := by decide +kernel
theorem dX12_layTunes_111 : decode cX12_layTunes 111 = .ok (.invokevirtual 509, 3) := by decide +kernel
theorem dX12_layTunes_114 : decode cX12_layTunes 114 = .ok (.istore 7, 2) := by decide +kernel
theorem dX12_layTunes_116 : decode cX12_layTunes 116 = .ok (.iload 7, 2) := by decide +kernel
theorem dX12_layTunes_118 : decode cX12_layTunes 118 = .ok (.iload 5, 2) := by decide +kernel
theorem dX12_layTunes_120 : decode cX12_layTunes 120 = .ok (.if_icmp .ge 8, 3) := by decide +kernel
theorem dX12_layTunes_128 : decode cX12_layTunes 128 = .ok (.iload 5, 2) := by decide +kernel
theorem dX12_layTunes_130 : decode cX12_layTunes 130 = .ok (.istore 5, 2) := by decide +kernel
theorem dX12_layTunes_132 : decode cX12_layTunes 132 = .ok (.iinc 6 1, 3) := by decide +kernel
theorem dX12_layTunes_135 : decode cX12_layTunes 135 = .ok (.goto (-37), 3) := by decide +kernel
theorem dX12_layTunes_123 : decode cX12_layTunes 123 = .ok (.iload 7, 2) := by decide +kernel
theorem dX12_layTunes_125 : decode cX12_layTunes 125 = .ok (.goto 5, 3) := by decide +kernel
theorem dX12_layTunes_138 : decode cX12_layTunes 138 = .ok (.aload_n 0, 1) := by decide +kernel
theorem dX12_layTunes_139 : decode cX12_layTunes 139 = .ok (.getfield 126, 3) := by decide +kernel
theorem dX12_layTunes_142 : decode cX12_layTunes 142 = .ok (.sipush 128, 3) := by decide +kernel
theorem dX12_layTunes_145 : decode cX12_layTunes 145 = .ok (.iload_n 3, 1) := by decide +kernel
theorem dX12_layTunes_146 : decode cX12_layTunes 146 = .ok (.imul, 1) := by decide +kernel
theorem dX12_layTunes_147 : decode cX12_layTunes 147 = .ok (.iload 4, 2) := by decide +kernel
theorem dX12_layTunes_149 : decode cX12_layTunes 149 = .ok (.iadd, 1) := by decide +kernel
theorem dX12_layTunes_150 : decode cX12_layTunes 150 = .ok (.iload 5, 2) := by decide +kernel
theorem dX12_layTunes_152 : decode cX12_layTunes 152 = .ok (.iastore, 1) := by decide +kernel
theorem dX12_layTunes_153 : decode cX12_layTunes 153 = .ok (.iinc 4 1, 3) := by decide +kernel
theorem dX12_layTunes_156 : decode cX12_layTunes 156 = .ok (.goto (-74), 3) := by decide +kernel
theorem dX12_layTunes_159 : decode cX12_layTunes 159 = .ok (.iinc 3 (-1), 3) := by decide +kernel
theorem dX12_layTunes_162 : decode cX12_layTunes 162 = .ok (.goto (-87), 3) := by decide +kernel
theorem dX12_layTunes_165 : decode cX12_layTunes 165 = .ok (.iload_n 2, 1) := by decide +kernel
theorem dX12_layTunes_166 : decode cX12_layTunes 166 = .ok (.ireturn, 1) := by decide +kernel
theorem dX12_tune_0 : decode cX12_tune 0 = .ok (.aload_n 0, 1) := by decide +kernel
theorem dX12_tune_1 : decode cX12_tune 1 = .ok (.iconst 0, 1) := by decide +kernel
theorem dX12_tune_2 : decode cX12_tune 2 = .ok (.putfield 158, 3) := by decide +kernel
theorem dX12_tune_5 : decode cX12_tune 5 = .ok (.iload_n 1, 1) := by decide +kernel
theorem dX12_tune_6 : decode cX12_tune 6 = .ok (.i2l, 1) := by decide +kernel
theorem dX12_tune_7 : decode cX12_tune 7 = .ok (.lconst 0, 1) := by decide +kernel
theorem dX12_tune_8 : decode cX12_tune 8 = .ok (.ldc2_w 191, 3) := by decide +kernel
theorem dX12_tune_11 : decode cX12_tune 11 = .ok (.invokestatic 178, 3) := by decide +kernel
theorem dX12_tune_14 : decode cX12_tune 14 = .ok (.ifCond .eq 36, 3) := by decide +kernel
theorem dX12_tune_17 : decode cX12_tune 17 = .ok (.iload_n 2, 1) := by decide +kernel
theorem dX12_tune_18 : decode cX12_tune 18 = .ok (.ifCond .lt 32, 3) := by decide +kernel
theorem dX12_tune_21 : decode cX12_tune 21 = .ok (.iload_n 2, 1) := by decide +kernel
theorem dX12_tune_22 : decode cX12_tune 22 = .ok (.ifCond .le 30, 3) := by decide +kernel
theorem dX12_tune_25 : decode cX12_tune 25 = .ok (.aload_n 0, 1) := by decide +kernel
theorem dX12_tune_26 : decode cX12_tune 26 = .ok (.iload_n 2, 1) := by decide +kernel
theorem dX12_tune_27 : decode cX12_tune 27 = .ok (.iconst 1, 1) := by decide +kernel
theorem dX12_tune_28 : decode cX12_tune 28 = .ok (.isub, 1) := by decide +kernel
theorem dX12_tune_29 : decode cX12_tune 29 = .ok (.invokevirtual 197, 3) := by decide +kernel
theorem dX12_tune_32 : decode cX12_tune 32 = .ok (.ifCond .eq 18, 3) := by decide +kernel
theorem dX12_tune_35 : decode cX12_tune 35 = .ok (.aload_n 0, 1) := by decide +kernel
theorem dX12_tune_36 : decode cX12_tune 36 = .ok (.getfield 13, 3) := by decide +kernel
theorem dX12_tune_39 : decode cX12_tune 39 = .ok (.bipush 43, 2) := by decide +kernel
theorem dX12_tune_41 : decode cX12_tune 41 = .ok (.iload_n 2, 1) := by decide +kernel
theorem dX12_tune_42 : decode cX12_tune 42 = .ok (.iadd, 1) := by decide +kernel
theorem dX12_tune_43 : decode cX12_tune 43 = .ok (.iconst 1, 1) := by decide +kernel
theorem dX12_tune_44 : decode cX12_tune 44 = .ok (.isub, 1) := by decide +kernel
theorem dX12_tune_45 : decode cX12_tune 45 = .ok (.iaload, 1) := by decide +kernel
theorem dX12_tune_46 : decode cX12_tune 46 = .ok (.iload_n 1, 1) := by decide +kernel
theorem dX12_tune_47 : decode cX12_tune 47 = .ok (.if_icmp .eq 5, 3) := by decide +kernel
theorem dX12_tune_52 : decode cX12_tune 52 = .ok (.aload_n 0, 1) := by decide +kernel
theorem dX12_tune_53 : decode cX12_tune 53 = .ok (.iload_n 1, 1) := by decide +kernel
theorem dX12_tune_54 : decode cX12_tune 54 = .ok (.invokevirtual 512, 3) := by decide +kernel
theorem dX12_tune_57 : decode cX12_tune 57 = .ok (.istore_n 3, 1) := by decide +kernel
theorem dX12_tune_58 : decode cX12_tune 58 = .ok (.iload_n 2, 1) := by decide +kernel
theorem dX12_tune_59 : decode cX12_tune 59 = .ok (.ifCond .ne 10, 3) := by decide +kernel
theorem dX12_tune_69 : decode cX12_tune 69 = .ok (.iconst 0, 1) := by decide +kernel
theorem dX12_tune_70 : decode cX12_tune 70 = .ok (.istore 4, 2) := by decide +kernel
theorem dX12_tune_72 : decode cX12_tune 72 = .ok (.iconst 0, 1) := by decide +kernel
theorem dX12_tune_73 : decode cX12_tune 73 = .ok (.istore 5, 2) := by decide +kernel
theorem dX12_tune_75 : decode cX12_tune 75 = .ok (.iload 5, 2) := by decide +kernel
theorem dX12_tune_77 : decode cX12_tune 77 = .ok (.iload_n 3, 1) := by decide +kernel
theorem dX12_tune_78 : decode cX12_tune 78 = .ok (.if_icmp .ge 70, 3) := by decide +kernel
theorem dX12_tune_81 : decode cX12_tune 81 = .ok (.iconst 0, 1) := by decide +kernel
theorem dX12_tune_82 : decode cX12_tune 82 = .ok (.istore 6, 2) := by decide +kernel
theorem dX12_tune_84 : decode cX12_tune 84 = .ok (.aload_n 0, 1) := by decide +kernel
theorem dX12_tune_85 : decode cX12_tune 85 = .ok (.iload 5, 2) := by decide +kernel
theorem dX12_tune_87 : decode cX12_tune 87 = .ok (.iload 4, 2) := by decide +kernel
theorem dX12_tune_89 : decode cX12_tune 89 = .ok (.iload 6, 2) := by decide +kernel
theorem dX12_tune_91 : decode cX12_tune 91 = .ok (.invokevirtual 509, 3) := by decide +kernel
theorem dX12_tune_94 : decode cX12_tune 94 = .ok (.aload_n 0, 1) := by decide +kernel
theorem dX12_tune_95 : decode cX12_tune 95 = .ok (.getfield 126, 3) := by decide +kernel
theorem dX12_tune_98 : decode cX12_tune 98 = .ok (.sipush 128, 3) := by decide +kernel
theorem dX12_tune_101 : decode cX12_tune 101 = .ok (.iload 5, 2) := by decide +kernel
theorem dX12_tune_103 : decode cX12_tune 103 = .ok (.imul, 1) := by decide +kernel
theorem dX12_tune_104 : decode cX12_tune 104 = .ok (.iload 4, 2) := by decide +kernel
theorem dX12_tune_106 : decode cX12_tune 106 = .ok (.iadd, 1) := by decide +kernel
theorem dX12_tune_107 : decode cX12_tune 107 = .ok (.iaload, 1) := by decide +kernel
theorem dX12_tune_108 : decode cX12_tune 108 = .ok (.if_icmp .eq 9, 3) := by decide +kernel
theorem dX12_tune_111 : decode cX12_tune 111 = .ok (.iinc 6 1, 3) := by decide +kernel
theorem dX12_tune_114 : decode cX12_tune 114 = .ok (.goto (-30), 3) := by decide +kernel
theorem dX12_tune_117 : decode cX12_tune 117 = .ok (.aload_n 0, 1) := by decide +kernel
theorem dX12_tune_118 : decode cX12_tune 118 = .ok (.getfield 129, 3) := by decide +kernel
theorem dX12_tune_121 : decode cX12_tune 121 = .ok (.iload 5, 2) := by decide +kernel
theorem dX12_tune_123 : decode cX12_tune 123 = .ok (.iaload, 1) := by decide +kernel
theorem dX12_tune_124 : decode cX12_tune 124 = .ok (.iload_n 2, 1) := by decide +kernel
theorem dX12_tune_125 : decode cX12_tune 125 = .ok (.iconst 1, 1) := by decide +kernel
theorem dX12_tune_126 : decode cX12_tune 126 = .ok (.isub, 1) := by decide +kernel
theorem dX12_tune_127 : decode cX12_tune 127 = .ok (.if_icmp .ne 6, 3) := by decide +kernel
theorem dX12_tune_133 : decode cX12_tune 133 = .ok (.iload 4, 2) := by decide +kernel
theorem dX12_tune_135 : decode cX12_tune 135 = .ok (.iconst 1, 1) := by decide +kernel
theorem dX12_tune_136 : decode cX12_tune 136 = .ok (.iload 6, 2) := by decide +kernel
theorem dX12_tune_138 : decode cX12_tune 138 = .ok (.ishl, 1) := by decide +kernel
theorem dX12_tune_139 : decode cX12_tune 139 = .ok (.ior, 1) := by decide +kernel
theorem dX12_tune_140 : decode cX12_tune 140 = .ok (.istore 4, 2) := by decide +kernel
theorem dX12_tune_142 : decode cX12_tune 142 = .ok (.iinc 5 1, 3) := by decide +kernel
theorem dX12_tune_145 : decode cX12_tune 145 = .ok (.goto (-70), 3) := by decide +kernel
theorem dX12_tune_148 : decode cX12_tune 148 = .ok (.iconst (-1), 1) := by decide +kernel
theorem dX12_tune_149 : decode cX12_tune 149 = .ok (.ireturn, 1) := by decide +kernel
theorem dX12_tune_130 : decode cX12_tune 130 = .ok (.iload 6, 2) := by decide +kernel
theorem dX12_tune_132 : decode cX12_tune 132 = .ok (.ireturn, 1) := by decide +kernel
theorem dX12_tune_62 : decode cX12_tune 62 = .ok (.aload_n 0, 1) := by decide +kernel
theorem dX12_tune_63 : decode cX12_tune 63 = .ok (.getfield 126, 3) := by decide +kernel
theorem dX12_tune_66 : decode cX12_tune 66 = .ok (.iconst 0, 1) := by decide +kernel
theorem dX12_tune_67 : decode cX12_tune 67 = .ok (.iaload, 1) := by decide +kernel
theorem dX12_tune_68 : decode cX12_tune 68 = .ok (.ireturn, 1) := by decide +kernel
theorem dX12_tune_50 : decode cX12_tune 50 = .ok (.iconst (-1), 1) := by decide +kernel
theorem dX12_tune_51 : decode cX12_tune 51 = .ok (.ireturn, 1) := by decide +kernel
set_option maxRecDepth 100000 in
set_option maxHeartbeats 4000000 in
theorem ggX12_layTunes_X12_movedBy : GoodIn wsX12_layTunes wsX12_movedBy := goodIn_q _ [9, 12, 15, 18, 21] [4, 1, 2, 3, 10, 11, 8, 13, 14, 16, 17, 19, 20, 22, 23, 24, 25, 26, 27, 28, 29, 30, 31, 32, 33, 34, 35, 36, 37, 38, 39, 40, 41, 42, 43, 44, 45, 46, 47, 48, 49, 50, 51, 52, 53, 54, 55, 56, 57, 58, 59, 60, 61, 62, 63, 64, 65, 66, 67, 68, 69, 70, 71, 72, 73, 74, 75, 76, 77, 78, 79, 80, 81] rfl (by decide +kernel) (by decide +kernel)
set_option maxRecDepth 20000 in
theorem gX12_layTunes_X12_movedBy : GoodIn wsX12_layTunes (wsV RX12 509 RX12 yX12_movedBy wsX12_movedBy) := goodIn_app (goodIn_of _ (by decide +kernel)) ggX12_layTunes_X12_movedBy
set_option maxRecDepth 20000 in
theorem ggX12_tune_X12_in : GoodIn wsX12_tune wsX12_in := goodIn_r _ [9] (by decide +kernel) (by decide +kernel)
set_option maxRecDepth 20000 in
theorem gX12_tune_X12_in : GoodIn wsX12_tune (va_wsS RX12 178 yX12_in wsX12_in) := goodIn_app (goodIn_of _ (by decide +kernel)) ggX12_tune_X12_in
set_option maxRecDepth 100000 in
set_option maxHeartbeats 4000000 in
theorem ggX12_tune_X12_layTunes : GoodIn wsX12_tune wsX12_layTunes := goodIn_q _ [17, 22, 25, 28, 31, 34] [3, 5, 4, 18, 19, 20, 21, 8, 23, 24, 26, 27, 29, 30, 32, 33, 35, 36, 37, 38, 39, 40, 41, 42, 43, 44, 45, 46, 47, 48, 49, 50, 51, 52, 53, 54, 55, 56, 57, 58, 59, 60, 61, 62, 63, 64, 65, 66, 67, 68, 69, 70, 71, 72, 73, 74, 75, 76, 77, 78, 79, 80, 81, 82, 83, 84, 85, 86, 87, 88, 89, 90, 91, 92, 93, 94] rfl (by decide +kernel) (by decide +kernel)
set_option maxRecDepth 20000 in
theorem gX12_tune_X12_layTunes : GoodIn wsX12_tune (wsV RX12 512 RX12 yX12_layTunes wsX12_layTunes) := goodIn_app (goodIn_of _ (by decide +kernel)) ggX12_tune_X12_layTunes
set_option maxRecDepth 100000 in
set_option maxHeartbeats 4000000 in
theorem ggX12_tune_X12_movedBy : GoodIn wsX12_tune wsX12_movedBy := goodIn_q _ [22, 25, 28, 31, 34] [18, 3, 5, 4, 23, 24, 8, 26, 27, 29, 30, 32, 33, 35, 36, 37, 38, 39, 40, 41, 42, 43, 44, 45, 46, 47, 48, 49, 50, 51, 52, 53, 54, 55, 56, 57, 58, 59, 60, 61, 62, 63, 64, 65, 66, 67, 68, 69, 70, 71, 72, 73, 74, 75, 76, 77, 78, 79, 80, 81, 82, 83, 84, 85, 86, 87, 88, 89, 90, 91, 92, 93, 94] rfl (by decide +kernel) (by decide +kernel)
set_option maxRecDepth 20000 in
theorem gX12_tune_X12_movedBy : GoodIn wsX12_tune (wsV RX12 509 RX12 yX12_movedBy wsX12_movedBy) := goodIn_app (goodIn_of _ (by decide +kernel)) ggX12_tune_X12_movedBy
set_option maxRecDepth 100000 in
set_option maxHeartbeats 4000000 in
theorem ggX12_tune_X12_isHouse : GoodIn wsX12_tune wsX12_isHouse := goodIn_q _ [13, 9] [3, 6, 7, 8, 35, 36, 37, 38, 39, 40, 41, 42, 43, 44, 45, 46, 47, 48, 49, 50, 51, 52, 53, 54, 55, 56, 57, 58, 59, 60, 61, 62, 63, 64, 65, 66, 67, 68, 69, 70, 71, 72, 73, 74, 75, 76, 77, 78, 79, 80, 81, 82, 83, 84, 85, 86, 87, 88, 89, 90, 91, 92, 93, 94] rfl (by decide +kernel) (by decide +kernel)
set_option maxRecDepth 20000 in
theorem gX12_tune_X12_isHouse : GoodIn wsX12_tune (wsV RX12 197 RX12 yX12_isHouse wsX12_isHouse) := goodIn_app (goodIn_of _ (by decide +kernel)) ggX12_tune_X12_isHouse
set_option maxHeartbeats 4000000 in
set_option maxRecDepth 100000 in
theorem v_layTunes (l : Launch) (D : va_G) (K : Nat → ClassId) (m0 : Nat) (x : Int32) (m_0 : Value) (m_1 : Value) (m_2 : Value) (w0 : Nat) (m_4 : Value) (m_5 : Value) (m_6 : Value) (m_7 : Value) (m_8 : Value) (m_9 : Value) (m_10 : Value) (m_11 : Value) (m_12 : Value) (m_13 : Value) (m_14 : Value) (m_15 : Value) (m_16 : Value) (m_17 : Value) (m_18 : Value) (m_19 : Value) (m_20 : Value) (m_21 : Value) (m_22 : Value) (m_23 : Value) (m_24 : Value) (m_25 : Value) (m_26 : Value) (m_27 : Value) (m_28 : Value) (m_29 : Value) (m_30 : Value) (m_31 : Value) (m_32 : Value) (m_33 : Value) (m_34 : Value) (m_35 : Value) (m_36 : Value) (m_37 : Value) (m_38 : Value) (m_39 : Value) (m_40 : Value) (m_41 : Value) (m_42 : Value) (m_43 : Value) (m_44 : Value) (m_45 : Value) (m_46 : Value) (mo : Nat) (pl : Nat) (m_49 : Value) (m_50 : Value) (m_51 : Value) (m_52 : Value) (m_53 : Value) (m_54 : Value) (m_55 : Value) (m_56 : Value) (m_57 : Value) (m_58 : Value) (m_59 : Value) (fw : Nat → Int32) (fp : Nat → Int32) (fm : Nat → Int32) (sz : Nat) (zfw : RwOK fw) (zfp : Rg 8 0 7 fp) (zfm : Rg 1152 0 100000000 fm) : Met l yX12_layTunes wsX12_layTunes ({ frames := 3, cells := 0, slots := 0, locals := 66 }) (va_Pc [.ref m0, .int x] (Pre D K [(m0, .inr (12, [m_0, m_1, m_2, .ref w0, m_4, m_5, m_6, m_7, m_8, m_9, m_10, m_11, m_12, m_13, m_14, m_15, m_16, m_17, m_18, m_19, m_20, m_21, m_22, m_23, m_24, m_25, m_26, m_27, m_28, m_29, m_30, m_31, m_32, m_33, m_34, m_35, m_36, m_37, m_38, m_39, m_40, m_41, m_42, m_43, m_44, m_45, m_46, .ref mo, .ref pl, m_49, m_50, m_51, m_52, m_53, m_54, m_55, m_56, m_57, m_58, m_59])), (w0, .inl (K 0, 5500, .inl fw)), (pl, .inl (K 0, 8, .inl fp)), (mo, .inl (K 0, 1152, .inl fm))] sz)) (va_Qi (S := Su) (fun (r : Int32) (u : Su) => (0 ≤ r.toInt ∧ r.toInt ≤ 8) ∧ (Rg 8 0 7 (u.2.1 0)) ∧ (Rg 1152 0 100000000 (u.2.1 1)) ∧ (TOK fw (u.2.1 0) (u.2.1 1) (-1) 0 r.toInt) ∧ True) (fun u t => Wd D (va_A [(m0, .inr (12, [m_0, m_1, m_2, .ref w0, m_4, m_5, m_6, m_7, m_8, m_9, m_10, m_11, m_12, m_13, m_14, m_15, m_16, m_17, m_18, m_19, m_20, m_21, m_22, m_23, m_24, m_25, m_26, m_27, m_28, m_29, m_30, m_31, m_32, m_33, m_34, m_35, m_36, m_37, m_38, m_39, m_40, m_41, m_42, m_43, m_44, m_45, m_46, .ref mo, .ref pl, m_49, m_50, m_51, m_52, m_53, m_54, m_55, m_56, m_57, m_58, m_59])), (w0, .inl (K 0, 5500, .inl fw)), (pl, .inl (K 0, 8, .inl fp)), (mo, .inl (K 0, 1152, .inl fm))] sz) ((fun u => [(m0, .inr (12, [m_0, m_1, m_2, .ref w0, m_4, m_5, m_6, m_7, m_8, m_9, m_10, m_11, m_12, m_13, m_14, m_15, m_16, m_17, m_18, m_19, m_20, m_21, m_22, m_23, m_24, m_25, m_26, m_27, m_28, m_29, m_30, m_31, m_32, m_33, m_34, m_35, m_36, m_37, m_38, m_39, m_40, m_41, m_42, m_43, m_44, m_45, m_46, .ref mo, .ref pl, m_49, m_50, m_51, m_52, m_53, m_54, m_55, m_56, m_57, m_58, m_59])), (w0, .inl (K 0, 5500, .inl fw)), (pl, .inl (K 0, 8, .inl (u.2.1 0))), (mo, .inl (K 0, 1152, .inl (u.2.1 1)))]) u) t) (va_A [(m0, .inr (12, [m_0, m_1, m_2, .ref w0, m_4, m_5, m_6, m_7, m_8, m_9, m_10, m_11, m_12, m_13, m_14, m_15, m_16, m_17, m_18, m_19, m_20, m_21, m_22, m_23, m_24, m_25, m_26, m_27, m_28, m_29, m_30, m_31, m_32, m_33, m_34, m_35, m_36, m_37, m_38, m_39, m_40, m_41, m_42, m_43, m_44, m_45, m_46, .ref mo, .ref pl, m_49, m_50, m_51, m_52, m_53, m_54, m_55, m_56, m_57, m_58, m_59])), (w0, .inl (K 0, 5500, .inl fw)), (pl, .inl (K 0, 8, .inl fp)), (mo, .inl (K 0, 1152, .inl fm))] sz)) 0 0 (va_A [(m0, .inr (12, [m_0, m_1, m_2, .ref w0, m_4, m_5, m_6, m_7, m_8, m_9, m_10, m_11, m_12, m_13, m_14, m_15, m_16, m_17, m_18, m_19, m_20, m_21, m_22, m_23, m_24, m_25, m_26, m_27, m_28, m_29, m_30, m_31, m_32, m_33, m_34, m_35, m_36, m_37, m_38, m_39, m_40, m_41, m_42, m_43, m_44, m_45, m_46, .ref mo, .ref pl, m_49, m_50, m_51, m_52, m_53, m_54, m_55, m_56, m_57, m_58, m_59])), (w0, .inl (K 0, 5500, .inl fw)), (pl, .inl (K 0, 8, .inl fp)), (mo, .inl (K 0, 1152, .inl fm))] sz) := by
  refine Met.ofW (cc := cX12_layTunes) (maxL := 8) (ret := (some .int)) (by decide) rfl ?_
  intro p e s m args below meth c s₁ B hml hv
  obtain ⟨rfl, hsz, hP, hK, hD0, hN⟩ := hv
  have hx := B.exec
  have hb := B.bytes
  have hr := B.returns
  have hts := atoms_spec (ws := wsX12_layTunes) B.pre
  have hown : s.vm.findClass RX12 = some m.cls := findClass_of_methodNamed B.named
  have hlocks := B.notSynchronized
  subst hsz
  have hD := hD0.self (sz := s.heap.size)
  generalize hAe : va_A [(m0, .inr (12, [m_0, m_1, m_2, .ref w0, m_4, m_5, m_6, m_7, m_8, m_9, m_10, m_11, m_12, m_13, m_14, m_15, m_16, m_17, m_18, m_19, m_20, m_21, m_22, m_23, m_24, m_25, m_26, m_27, m_28, m_29, m_30, m_31, m_32, m_33, m_34, m_35, m_36, m_37, m_38, m_39, m_40, m_41, m_42, m_43, m_44, m_45, m_46, .ref mo, .ref pl, m_49, m_50, m_51, m_52, m_53, m_54, m_55, m_56, m_57, m_58, m_59])), (w0, .inl (K 0, 5500, .inl fw)), (pl, .inl (K 0, 8, .inl fp)), (mo, .inl (K 0, 1152, .inl fm))] s.heap.size = A at hD ⊢
  have hA : ∀ q : Nat, s.heap.size ≤ q → A q := fun q h => by rw [← hAe]; exact Or.inr h
  have hS : va_S A s.heap s.heap [] := va_S.rf
  have hP : va_P D vwCl [(m0, .inr (12, [m_0, m_1, m_2, .ref w0, m_4, m_5, m_6, m_7, m_8, m_9, m_10, m_11, m_12, m_13, m_14, m_15, m_16, m_17, m_18, m_19, m_20, m_21, m_22, m_23, m_24, m_25, m_26, m_27, m_28, m_29, m_30, m_31, m_32, m_33, m_34, m_35, m_36, m_37, m_38, m_39, m_40, m_41, m_42, m_43, m_44, m_45, m_46, .ref mo, .ref pl, m_49, m_50, m_51, m_52, m_53, m_54, m_55, m_56, m_57, m_58, m_59])), (w0, .inl (K 0, 5500, .inl fw)), (pl, .inl (K 0, 8, .inl fp)), (mo, .inl (K 0, 1152, .inl fm))] s.heap := hP
  have hl := lv_entry [.ref m0, .int x] (n := 8) (Nat.le_of_ble_eq_true rfl)
  rw [lg_entry_eq]
  generalize (lg_sl [.ref m0, .int x] ++ List.replicate (8 - (lg_sl [.ref m0, .int x]).length) Slot.unset).toArray = ls at hl ⊢
  have hl : lv_has ls 8 [(0, .ref m0), (1, .int x)] := hl
  have hw12 : ∀ w ∈ wsX120, w ∈ wsX12_layTunes := fun w h => (List.mem_cons_of_mem _ (List.mem_append_right _ h))
  generalize hQ : MQ below _ _ s _ _ _ = Q
  refine lv_iconst (v := 0) hx hb dX12_layTunes_0 (by decide) ?_
  refine lv_istore_n (lv' := [(2, .int 0), (0, .ref m0), (1, .int x)]) hx hb dX12_layTunes_1 rfl hl (by decide) rfl (fun ls hl => ?_)
  refine lv_iconst (v := 0) hx hb dX12_layTunes_2 (by decide) ?_
  refine lv_istore_n (lv' := [(3, .int 0), (2, .int 0), (0, .ref m0), (1, .int x)]) hx hb dX12_layTunes_3 rfl hl (by decide) rfl (fun ls hl => ?_)
  have lp_4141 : ∀ (nn_ : Nat) (v_4117 : Int32) (v_4118 : Int32) (f_4119 : Nat → Int32) (hv_4117 : 0 ≤ v_4117.toInt ∧ v_4117.toInt ≤ 8) (hv_4118 : 0 ≤ v_4118.toInt ∧ v_4118.toInt ≤ 8) (hf_4119_0 : Rg 8 0 7 f_4119) (hr0_lp_4141 : 0 ≤ v_4118.toInt ∧ v_4118.toInt ≤ v_4117.toInt) (hn : (9 - v_4117.toInt : Int).toNat < nn_) (H : Heap) (locs : List Loc) (hP : va_P D vwCl [(m0, .inr (12, [m_0, m_1, m_2, .ref w0, m_4, m_5, m_6, m_7, m_8, m_9, m_10, m_11, m_12, m_13, m_14, m_15, m_16, m_17, m_18, m_19, m_20, m_21, m_22, m_23, m_24, m_25, m_26, m_27, m_28, m_29, m_30, m_31, m_32, m_33, m_34, m_35, m_36, m_37, m_38, m_39, m_40, m_41, m_42, m_43, m_44, m_45, m_46, .ref mo, .ref pl, m_49, m_50, m_51, m_52, m_53, m_54, m_55, m_56, m_57, m_58, m_59])), (w0, .inl (K 0, 5500, .inl fw)), (pl, .inl (K 0, 8, .inl f_4119)), (mo, .inl (K 0, 1152, .inl fm))] H) (hD : va_D A [(m0, .inr (12, [m_0, m_1, m_2, .ref w0, m_4, m_5, m_6, m_7, m_8, m_9, m_10, m_11, m_12, m_13, m_14, m_15, m_16, m_17, m_18, m_19, m_20, m_21, m_22, m_23, m_24, m_25, m_26, m_27, m_28, m_29, m_30, m_31, m_32, m_33, m_34, m_35, m_36, m_37, m_38, m_39, m_40, m_41, m_42, m_43, m_44, m_45, m_46, .ref mo, .ref pl, m_49, m_50, m_51, m_52, m_53, m_54, m_55, m_56, m_57, m_58, m_59])), (w0, .inl (K 0, 5500, .inl fw)), (pl, .inl (K 0, 8, .inl f_4119)), (mo, .inl (K 0, 1152, .inl fm))]) (hS : va_S A s.heap H locs) (ls : Array Slot) (hl : lv_has ls 8 [(3, .int v_4117), (2, .int v_4118), (0, .ref m0), (1, .int x)]), W p l e ({ frames := 3, cells := 0, slots := 0, locals := 66 }) s m (([.ref m0, .int x] : List Value).toArray) below meth c H locs 0 0 Q (F0 m 4 ls []) := by
    intro nn_
    induction nn_ with
    | zero =>
      intro v_4117 v_4118 f_4119 hv_4117 hv_4118 hf_4119_0 hr0_lp_4141 hn H locs hP hD hS ls hl
      exact absurd hn (Nat.not_lt_zero _)
    | succ nn_ ih_4142 =>
      intro v_4117 v_4118 f_4119 hv_4117 hv_4118 hf_4119_0 hr0_lp_4141 hn H locs hP hD hS ls hl
      refine lv_iload_n hx hb dX12_layTunes_4 rfl (lv_at hl 0 rfl) ?_
      refine lv_aload_n hx hb dX12_layTunes_5 rfl (lv_at hl 2 rfl) ?_
      refine va_get (ci := 12) (v := .ref w0) (C := RX12) (T := TX12) (N := 60) hx hb hts hw12 hown hK hP 0 rfl rfl 3 (by decide) (hts (.fieldLink RX12 13 "SmokeTuneModel" "row" "[I") (List.mem_cons_of_mem _ (List.mem_append_left _ (List.mem_of_getElem? (i := 0) rfl)))) (fun _ h9 => h9) rfl dX12_layTunes_6 ?_
      refine lv_iconst (v := 0) hx hb dX12_layTunes_9 (by decide) ?_
      refine va_iald hx hb hK hP 1 0 rfl rfl (i_in (x := 0) rfl (by omega)) dX12_layTunes_10 ?_
      refine lv_topi (fun x_4143 ex_4143 => ?_)
      have px_4143 := RwOK.at zfw (show (0 : Int32).toInt = 0 from rfl) (show 0 ≤ 0 ∧ 0 < 100 by omega)
      rw [← ex_4143] at px_4143
      have hx_4143 := PR.r_0 px_4143 (by omega)
      refine lv_icmp_ge (tgt := 43) hx hb dX12_layTunes_11 (by decide) (fun c_4144 => ?_) (fun c_4144 => ?_)
      · have c_4144i := i_le (x := x_4143.toInt) (y := v_4117.toInt) rfl rfl c_4144
        refine lv_iconst (v := 0) hx hb dX12_layTunes_43 (by decide) ?_
        refine lv_istore_n (lv' := [(3, .int 0), (2, .int v_4118), (0, .ref m0), (1, .int x)]) hx hb dX12_layTunes_44 rfl hl (by decide) rfl (fun ls hl => ?_)
        have lp_4184 : ∀ (nn_ : Nat) (v_4170 : Int32) (f_4171 : Nat → Int32) (hv_4170 : 0 ≤ v_4170.toInt ∧ v_4170.toInt ≤ 128) (hf_4171_0 : Rg 1152 0 100000000 f_4171) (hr0_lp_4184 : Zr f_4171 v_4118.toInt v_4170.toInt) (hn : (129 - v_4170.toInt : Int).toNat < nn_) (H : Heap) (locs : List Loc) (hP : va_P D vwCl [(m0, .inr (12, [m_0, m_1, m_2, .ref w0, m_4, m_5, m_6, m_7, m_8, m_9, m_10, m_11, m_12, m_13, m_14, m_15, m_16, m_17, m_18, m_19, m_20, m_21, m_22, m_23, m_24, m_25, m_26, m_27, m_28, m_29, m_30, m_31, m_32, m_33, m_34, m_35, m_36, m_37, m_38, m_39, m_40, m_41, m_42, m_43, m_44, m_45, m_46, .ref mo, .ref pl, m_49, m_50, m_51, m_52, m_53, m_54, m_55, m_56, m_57, m_58, m_59])), (w0, .inl (K 0, 5500, .inl fw)), (pl, .inl (K 0, 8, .inl f_4119)), (mo, .inl (K 0, 1152, .inl f_4171))] H) (hD : va_D A [(m0, .inr (12, [m_0, m_1, m_2, .ref w0, m_4, m_5, m_6, m_7, m_8, m_9, m_10, m_11, m_12, m_13, m_14, m_15, m_16, m_17, m_18, m_19, m_20, m_21, m_22, m_23, m_24, m_25, m_26, m_27, m_28, m_29, m_30, m_31, m_32, m_33, m_34, m_35, m_36, m_37, m_38, m_39, m_40, m_41, m_42, m_43, m_44, m_45, m_46, .ref mo, .ref pl, m_49, m_50, m_51, m_52, m_53, m_54, m_55, m_56, m_57, m_58, m_59])), (w0, .inl (K 0, 5500, .inl fw)), (pl, .inl (K 0, 8, .inl f_4119)), (mo, .inl (K 0, 1152, .inl f_4171))]) (hS : va_S A s.heap H locs) (ls : Array Slot) (hl : lv_has ls 8 [(3, .int v_4170), (2, .int v_4118), (0, .ref m0)]), W p l e ({ frames := 3, cells := 0, slots := 0, locals := 66 }) s m (([.ref m0, .int x] : List Value).toArray) below meth c H locs 0 0 Q (F0 m 45 ls []) := by
          intro nn_
          induction nn_ with
          | zero =>
            intro v_4170 f_4171 hv_4170 hf_4171_0 hr0_lp_4184 hn H locs hP hD hS ls hl
            exact absurd hn (Nat.not_lt_zero _)
          | succ nn_ ih_4185 =>
            intro v_4170 f_4171 hv_4170 hf_4171_0 hr0_lp_4184 hn H locs hP hD hS ls hl
            refine lv_iload_n hx hb dX12_layTunes_45 rfl (lv_at hl 0 rfl) ?_
            refine lv_sipush (v := 128) hx hb dX12_layTunes_46 (by decide) ?_
            refine lv_icmp_ge (tgt := 71) hx hb dX12_layTunes_49 (by decide) (fun c_4186 => ?_) (fun c_4186 => ?_)
            · have c_4186i := i_le (x := 128) (y := v_4170.toInt) rfl rfl c_4186
              have hz128 : Zr f_4171 v_4118.toInt 128 := by have q := hr0_lp_4184; rwa [show v_4170.toInt = 128 by omega] at q
              refine lv_iload_n hx hb dX12_layTunes_71 rfl (lv_at hl 1 rfl) ?_
              refine lv_iconst (v := 1) hx hb dX12_layTunes_72 (by decide) ?_
              refine lv_isub hx hb dX12_layTunes_73 ?_
              refine lv_topi (fun x_4187 ex_4187 => ?_)
              have hx_4187 : x_4187.toInt = (v_4118.toInt - 1) := by rw [ex_4187]; exact i_sub rfl (show (1 : Int32).toInt = 1 from rfl) (by omega)
              refine lv_istore_n (lv' := [(3, .int x_4187), (2, .int v_4118), (0, .ref m0)]) hx hb dX12_layTunes_74 rfl hl (by decide) rfl (fun ls hl => ?_)
              have lp_5706 : ∀ (nn_ : Nat) (v_4946 : Int32) (f_4947 : Nat → Int32) (hv_4946 : (-1) ≤ v_4946.toInt ∧ v_4946.toInt ≤ 7) (hf_4947_0 : Rg 1152 0 100000000 f_4947) (hr0_lp_5706 : TOK fw f_4119 f_4947 v_4946.toInt 0 v_4118.toInt) (hr1_lp_5706 : v_4946.toInt < v_4118.toInt) (hn : (v_4946.toInt - (-2) : Int).toNat < nn_) (H : Heap) (locs : List Loc) (hP : va_P D vwCl [(m0, .inr (12, [m_0, m_1, m_2, .ref w0, m_4, m_5, m_6, m_7, m_8, m_9, m_10, m_11, m_12, m_13, m_14, m_15, m_16, m_17, m_18, m_19, m_20, m_21, m_22, m_23, m_24, m_25, m_26, m_27, m_28, m_29, m_30, m_31, m_32, m_33, m_34, m_35, m_36, m_37, m_38, m_39, m_40, m_41, m_42, m_43, m_44, m_45, m_46, .ref mo, .ref pl, m_49, m_50, m_51, m_52, m_53, m_54, m_55, m_56, m_57, m_58, m_59])), (w0, .inl (K 0, 5500, .inl fw)), (pl, .inl (K 0, 8, .inl f_4119)), (mo, .inl (K 0, 1152, .inl f_4947))] H) (hD : va_D A [(m0, .inr (12, [m_0, m_1, m_2, .ref w0, m_4, m_5, m_6, m_7, m_8, m_9, m_10, m_11, m_12, m_13, m_14, m_15, m_16, m_17, m_18, m_19, m_20, m_21, m_22, m_23, m_24, m_25, m_26, m_27, m_28, m_29, m_30, m_31, m_32, m_33, m_34, m_35, m_36, m_37, m_38, m_39, m_40, m_41, m_42, m_43, m_44, m_45, m_46, .ref mo, .ref pl, m_49, m_50, m_51, m_52, m_53, m_54, m_55, m_56, m_57, m_58, m_59])), (w0, .inl (K 0, 5500, .inl fw)), (pl, .inl (K 0, 8, .inl f_4119)), (mo, .inl (K 0, 1152, .inl f_4947))]) (hS : va_S A s.heap H locs) (ls : Array Slot) (hl : lv_has ls 8 [(3, .int v_4946), (2, .int v_4118), (0, .ref m0)]), W p l e ({ frames := 3, cells := 0, slots := 0, locals := 66 }) s m (([.ref m0, .int x] : List Value).toArray) below meth c H locs 0 0 Q (F0 m 75 ls []) := by
                intro nn_
                induction nn_ with
                | zero =>
                  intro v_4946 f_4947 hv_4946 hf_4947_0 hr0_lp_5706 hr1_lp_5706 hn H locs hP hD hS ls hl
                  exact absurd hn (Nat.not_lt_zero _)
                | succ nn_ ih_5707 =>
                  intro v_4946 f_4947 hv_4946 hf_4947_0 hr0_lp_5706 hr1_lp_5706 hn H locs hP hD hS ls hl
                  refine lv_iload_n hx hb dX12_layTunes_75 rfl (lv_at hl 0 rfl) ?_
                  refine lv_if_lt (tgt := 165) hx hb dX12_layTunes_76 (by decide) (fun c_5708 => ?_) (fun c_5708 => ?_)
                  · have c_5708i := i_lt (x := v_4946.toInt) (y := 0) rfl rfl c_5708
                    refine lv_iload_n hx hb dX12_layTunes_165 rfl (lv_at hl 1 rfl) ?_
                    rw [← hQ]
                    have hP9 := hP.sub (ws' := [(m0, .inr (12, [m_0, m_1, m_2, .ref w0, m_4, m_5, m_6, m_7, m_8, m_9, m_10, m_11, m_12, m_13, m_14, m_15, m_16, m_17, m_18, m_19, m_20, m_21, m_22, m_23, m_24, m_25, m_26, m_27, m_28, m_29, m_30, m_31, m_32, m_33, m_34, m_35, m_36, m_37, m_38, m_39, m_40, m_41, m_42, m_43, m_44, m_45, m_46, .ref mo, .ref pl, m_49, m_50, m_51, m_52, m_53, m_54, m_55, m_56, m_57, m_58, m_59])), (w0, .inl (K 0, 5500, .inl fw)), (pl, .inl (K 0, 8, .inl f_4119)), (mo, .inl (K 0, 1152, .inl f_4947))]) [0, 1, 2, 3] rfl
                    have hD9 := hD.sub (ws' := [(m0, .inr (12, [m_0, m_1, m_2, .ref w0, m_4, m_5, m_6, m_7, m_8, m_9, m_10, m_11, m_12, m_13, m_14, m_15, m_16, m_17, m_18, m_19, m_20, m_21, m_22, m_23, m_24, m_25, m_26, m_27, m_28, m_29, m_30, m_31, m_32, m_33, m_34, m_35, m_36, m_37, m_38, m_39, m_40, m_41, m_42, m_43, m_44, m_45, m_46, .ref mo, .ref pl, m_49, m_50, m_51, m_52, m_53, m_54, m_55, m_56, m_57, m_58, m_59])), (w0, .inl (K 0, 5500, .inl fw)), (pl, .inl (K 0, 8, .inl f_4119)), (mo, .inl (K 0, 1152, .inl f_4947))]) [0, 1, 2, 3] (by decide) rfl
                    exact W.iret (v := v_4118) hx hb hr (fun t ht hW => ⟨⟨v_4118, ((fun _ => 0, fun i => match i with | 0 => f_4119 | _ => f_4947, fun _ => fun _ => 0, fun _ => 0, fun _ => 0, fun _ => fun _ => none) : Su), rfl, ⟨(show 0 ≤ v_4118.toInt ∧ v_4118.toInt ≤ 8 by omega), hf_4119_0, hf_4947_0, (show TOK fw f_4119 f_4947 (-1) 0 (v_4118 : Int32).toInt from by have q := hr0_lp_5706; rwa [show v_4946.toInt = -1 by omega] at q), trivial⟩, (⟨by rw [ht]; exact hP9, hD9⟩ : Wd D A _ t)⟩, hS.F ht⟩) hS.2.2 dX12_layTunes_166
                  · have c_5708i := i_nlt (x := v_4946.toInt) (y := 0) rfl rfl c_5708
                    refine lv_iconst (v := 0) hx hb dX12_layTunes_79 (by decide) ?_
                    refine lv_istore (lv' := [(4, .int 0), (3, .int v_4946), (2, .int v_4118), (0, .ref m0)]) hx hb dX12_layTunes_80 hl (by decide) rfl (fun ls hl => ?_)
                    have lp_6030 : ∀ (nn_ : Nat) (v_5922 : Int32) (f_5923 : Nat → Int32) (hv_5922 : 0 ≤ v_5922.toInt ∧ v_5922.toInt ≤ 128) (hf_5923_0 : Rg 1152 0 100000000 f_5923) (hr0_lp_6030 : TOK fw f_4119 f_5923 v_4946.toInt v_5922.toInt v_4118.toInt) (hn : (129 - v_5922.toInt : Int).toNat < nn_) (H : Heap) (locs : List Loc) (hP : va_P D vwCl [(m0, .inr (12, [m_0, m_1, m_2, .ref w0, m_4, m_5, m_6, m_7, m_8, m_9, m_10, m_11, m_12, m_13, m_14, m_15, m_16, m_17, m_18, m_19, m_20, m_21, m_22, m_23, m_24, m_25, m_26, m_27, m_28, m_29, m_30, m_31, m_32, m_33, m_34, m_35, m_36, m_37, m_38, m_39, m_40, m_41, m_42, m_43, m_44, m_45, m_46, .ref mo, .ref pl, m_49, m_50, m_51, m_52, m_53, m_54, m_55, m_56, m_57, m_58, m_59])), (w0, .inl (K 0, 5500, .inl fw)), (pl, .inl (K 0, 8, .inl f_4119)), (mo, .inl (K 0, 1152, .inl f_5923))] H) (hD : va_D A [(m0, .inr (12, [m_0, m_1, m_2, .ref w0, m_4, m_5, m_6, m_7, m_8, m_9, m_10, m_11, m_12, m_13, m_14, m_15, m_16, m_17, m_18, m_19, m_20, m_21, m_22, m_23, m_24, m_25, m_26, m_27, m_28, m_29, m_30, m_31, m_32, m_33, m_34, m_35, m_36, m_37, m_38, m_39, m_40, m_41, m_42, m_43, m_44, m_45, m_46, .ref mo, .ref pl, m_49, m_50, m_51, m_52, m_53, m_54, m_55, m_56, m_57, m_58, m_59])), (w0, .inl (K 0, 5500, .inl fw)), (pl, .inl (K 0, 8, .inl f_4119)), (mo, .inl (K 0, 1152, .inl f_5923))]) (hS : va_S A s.heap H locs) (ls : Array Slot) (hl : lv_has ls 8 [(4, .int v_5922), (3, .int v_4946), (2, .int v_4118), (0, .ref m0)]), W p l e ({ frames := 3, cells := 0, slots := 0, locals := 66 }) s m (([.ref m0, .int x] : List Value).toArray) below meth c H locs 0 0 Q (F0 m 82 ls []) := by
                      intro nn_
                      induction nn_ with
                      | zero =>
                        intro v_5922 f_5923 hv_5922 hf_5923_0 hr0_lp_6030 hn H locs hP hD hS ls hl
                        exact absurd hn (Nat.not_lt_zero _)
                      | succ nn_ ih_6031 =>
                        intro v_5922 f_5923 hv_5922 hf_5923_0 hr0_lp_6030 hn H locs hP hD hS ls hl
                        refine lv_iload hx hb dX12_layTunes_82 (lv_at hl 0 rfl) ?_
                        refine lv_sipush (v := 128) hx hb dX12_layTunes_84 (by decide) ?_
                        refine lv_icmp_ge (tgt := 159) hx hb dX12_layTunes_87 (by decide) (fun c_6032 => ?_) (fun c_6032 => ?_)
                        · have c_6032i := i_le (x := 128) (y := v_5922.toInt) rfl rfl c_6032
                          obtain ⟨x_6033, ex_6033⟩ : ∃ y : Int32, y = v_4946 + Int32.ofInt (-1) := ⟨_, rfl⟩
                          have hx_6033 : x_6033.toInt = (v_4946.toInt + (-1)) := by rw [ex_6033]; exact i_add rfl (show (Int32.ofInt (-1)).toInt = (-1) from rfl) (by omega)
                          refine lv_iinc (v := x_6033) (lv' := [(3, .int x_6033), (4, .int v_5922), (2, .int v_4118), (0, .ref m0)]) hx hb dX12_layTunes_159 hl (k := 1) rfl (by rw [ex_6033]) (by decide) rfl (fun ls hl => ?_)
                          refine lv_goto (tgt := 75) hx hb dX12_layTunes_162 (by decide) ?_
                          exact ih_5707 x_6033 f_5923 (by rw [hx_6033]; omega) hf_5923_0 (show TOK fw f_4119 f_5923 (x_6033 : Int32).toInt 0 v_4118.toInt by rw [hx_6033]; exact TOK.down hr0_lp_6030 (by omega)) (show (x_6033 : Int32).toInt < v_4118.toInt by omega) (by omega) _ _ hP hD hS ls (lv_sub hl [0, 2, 3] rfl)
                        · have c_6032i := i_nle (x := 128) (y := v_5922.toInt) rfl rfl c_6032
                          refine lv_ldcw (v := 100000000) hx hb hown (hts (.constant RX12 476 (100000000)) (List.mem_cons_of_mem _ (List.mem_append_left _ (List.mem_of_getElem? (i := 3) rfl)))) dX12_layTunes_90 ?_
                          refine lv_istore (lv' := [(5, .int 100000000), (4, .int v_5922), (3, .int v_4946), (2, .int v_4118), (0, .ref m0)]) hx hb dX12_layTunes_93 hl (by decide) rfl (fun ls hl => ?_)
                          refine lv_iconst (v := 0) hx hb dX12_layTunes_95 (by decide) ?_
                          refine lv_istore (lv' := [(6, .int 0), (5, .int 100000000), (4, .int v_5922), (3, .int v_4946), (2, .int v_4118), (0, .ref m0)]) hx hb dX12_layTunes_96 hl (by decide) rfl (fun ls hl => ?_)
                          have lp_6072 : ∀ (nn_ : Nat) (v_6058 : Int32) (v_6059 : Int32) (hv_6058 : 0 ≤ v_6058.toInt ∧ v_6058.toInt ≤ 7) (hv_6059 : 0 ≤ v_6059.toInt ∧ v_6059.toInt ≤ 100000000) (hr0_lp_6072 : MnT fw f_4119 f_5923 v_4946.toInt v_5922.toInt v_6058.toInt v_6059.toInt) (hn : (8 - v_6058.toInt : Int).toNat < nn_) (H : Heap) (locs : List Loc) (hP : va_P D vwCl [(m0, .inr (12, [m_0, m_1, m_2, .ref w0, m_4, m_5, m_6, m_7, m_8, m_9, m_10, m_11, m_12, m_13, m_14, m_15, m_16, m_17, m_18, m_19, m_20, m_21, m_22, m_23, m_24, m_25, m_26, m_27, m_28, m_29, m_30, m_31, m_32, m_33, m_34, m_35, m_36, m_37, m_38, m_39, m_40, m_41, m_42, m_43, m_44, m_45, m_46, .ref mo, .ref pl, m_49, m_50, m_51, m_52, m_53, m_54, m_55, m_56, m_57, m_58, m_59])), (w0, .inl (K 0, 5500, .inl fw)), (pl, .inl (K 0, 8, .inl f_4119)), (mo, .inl (K 0, 1152, .inl f_5923))] H) (hD : va_D A [(m0, .inr (12, [m_0, m_1, m_2, .ref w0, m_4, m_5, m_6, m_7, m_8, m_9, m_10, m_11, m_12, m_13, m_14, m_15, m_16, m_17, m_18, m_19, m_20, m_21, m_22, m_23, m_24, m_25, m_26, m_27, m_28, m_29, m_30, m_31, m_32, m_33, m_34, m_35, m_36, m_37, m_38, m_39, m_40, m_41, m_42, m_43, m_44, m_45, m_46, .ref mo, .ref pl, m_49, m_50, m_51, m_52, m_53, m_54, m_55, m_56, m_57, m_58, m_59])), (w0, .inl (K 0, 5500, .inl fw)), (pl, .inl (K 0, 8, .inl f_4119)), (mo, .inl (K 0, 1152, .inl f_5923))]) (hS : va_S A s.heap H locs) (ls : Array Slot) (hl : lv_has ls 8 [(6, .int v_6058), (5, .int v_6059), (4, .int v_5922), (3, .int v_4946), (2, .int v_4118), (0, .ref m0)]), W p l e ({ frames := 3, cells := 0, slots := 0, locals := 66 }) s m (([.ref m0, .int x] : List Value).toArray) below meth c H locs 0 0 Q (F0 m 98 ls []) := by
                            intro nn_
                            induction nn_ with
                            | zero =>
                              intro v_6058 v_6059 hv_6058 hv_6059 hr0_lp_6072 hn H locs hP hD hS ls hl
                              exact absurd hn (Nat.not_lt_zero _)
                            | succ nn_ ih_6073 =>
                              intro v_6058 v_6059 hv_6058 hv_6059 hr0_lp_6072 hn H locs hP hD hS ls hl
                              refine lv_iload hx hb dX12_layTunes_98 (lv_at hl 0 rfl) ?_
                              refine lv_bipush (v := 7) hx hb dX12_layTunes_100 (by decide) ?_
                              refine lv_icmp_ge (tgt := 138) hx hb dX12_layTunes_102 (by decide) (fun c_6074 => ?_) (fun c_6074 => ?_)
                              · have c_6074i := i_le (x := 7) (y := v_6058.toInt) rfl rfl c_6074
                                have hmf := hr0_lp_6072
                                rw [show v_6058.toInt = 7 by omega] at hmf
                                refine lv_aload_n hx hb dX12_layTunes_138 rfl (lv_at hl 5 rfl) ?_
                                refine va_get (ci := 12) (v := .ref mo) (C := RX12) (T := TX12) (N := 60) hx hb hts hw12 hown hK hP 0 rfl rfl 47 (by decide) (hts (.fieldLink RX12 126 "SmokeTuneModel" "moved" "[I") (List.mem_cons_of_mem _ (List.mem_append_left _ (List.mem_of_getElem? (i := 2) rfl)))) (fun _ h9 => h9) rfl dX12_layTunes_139 ?_
                                refine lv_sipush (v := 128) hx hb dX12_layTunes_142 (by decide) ?_
                                refine lv_iload_n hx hb dX12_layTunes_145 rfl (lv_at hl 3 rfl) ?_
                                refine lv_imul hx hb dX12_layTunes_146 ?_
                                refine lv_topi (fun x_6075 ex_6075 => ?_)
                                have hx_6075 : x_6075.toInt = (128 * v_4946.toInt) := by rw [ex_6075]; exact i_mul (show (128 : Int32).toInt = 128 from rfl) rfl (by omega)
                                refine lv_iload hx hb dX12_layTunes_147 (lv_at hl 2 rfl) ?_
                                refine lv_iadd hx hb dX12_layTunes_149 ?_
                                refine lv_topi (fun x_6076 ex_6076 => ?_)
                                have hx_6076 : x_6076.toInt = ((128 * v_4946.toInt) + v_5922.toInt) := by rw [ex_6076]; exact i_add hx_6075 rfl (by omega)
                                refine lv_iload hx hb dX12_layTunes_150 (lv_at hl 1 rfl) ?_
                                refine va_iast hx hb hK hP hD hS 3 0 rfl rfl (i_in hx_6076 (by omega)) dX12_layTunes_152 (fun H locs hP hD hS => ?_)
                                generalize hf_6077 : (upd f_5923 (x_6076 : Int32).toNatClampNeg v_6059) = f_6077 at hP hD
                                have hf_6077_0 : Rg 1152 0 100000000 f_6077 := by rw [← hf_6077]; exact Rg.upd hf_5923_0 rfl (by omega)
                                have hP : va_P D vwCl [(m0, .inr (12, [m_0, m_1, m_2, .ref w0, m_4, m_5, m_6, m_7, m_8, m_9, m_10, m_11, m_12, m_13, m_14, m_15, m_16, m_17, m_18, m_19, m_20, m_21, m_22, m_23, m_24, m_25, m_26, m_27, m_28, m_29, m_30, m_31, m_32, m_33, m_34, m_35, m_36, m_37, m_38, m_39, m_40, m_41, m_42, m_43, m_44, m_45, m_46, .ref mo, .ref pl, m_49, m_50, m_51, m_52, m_53, m_54, m_55, m_56, m_57, m_58, m_59])), (w0, .inl (K 0, 5500, .inl fw)), (pl, .inl (K 0, 8, .inl f_4119)), (mo, .inl (K 0, 1152, .inl f_6077))] H := hP
                                have hD : va_D A [(m0, .inr (12, [m_0, m_1, m_2, .ref w0, m_4, m_5, m_6, m_7, m_8, m_9, m_10, m_11, m_12, m_13, m_14, m_15, m_16, m_17, m_18, m_19, m_20, m_21, m_22, m_23, m_24, m_25, m_26, m_27, m_28, m_29, m_30, m_31, m_32, m_33, m_34, m_35, m_36, m_37, m_38, m_39, m_40, m_41, m_42, m_43, m_44, m_45, m_46, .ref mo, .ref pl, m_49, m_50, m_51, m_52, m_53, m_54, m_55, m_56, m_57, m_58, m_59])), (w0, .inl (K 0, 5500, .inl fw)), (pl, .inl (K 0, 8, .inl f_4119)), (mo, .inl (K 0, 1152, .inl f_6077))] := hD
                                obtain ⟨x_6078, ex_6078⟩ : ∃ y : Int32, y = v_5922 + Int32.ofInt 1 := ⟨_, rfl⟩
                                have hx_6078 : x_6078.toInt = (v_5922.toInt + 1) := by rw [ex_6078]; exact i_add rfl (show (Int32.ofInt 1).toInt = 1 from rfl) (by omega)
                                refine lv_iinc (v := x_6078) (lv' := [(4, .int x_6078), (6, .int v_6058), (5, .int v_6059), (3, .int v_4946), (2, .int v_4118), (0, .ref m0)]) hx hb dX12_layTunes_153 hl (k := 2) rfl (by rw [ex_6078]) (by decide) rfl (fun ls hl => ?_)
                                refine lv_goto (tgt := 82) hx hb dX12_layTunes_156 (by decide) ?_
                                exact ih_6031 x_6078 f_6077 (by rw [hx_6078]; omega) hf_6077_0 (show TOK fw f_4119 f_6077 v_4946.toInt (x_6078 : Int32).toInt v_4118.toInt by rw [← hf_6077, i_clamp (x := x_6076) (z := ((128 * v_4946.toInt) + v_5922.toInt)) hx_6076, hx_6078]; exact TOK.put hr0_lp_6030 (by omega) (by omega) zfw hf_4119_0 hmf) (by omega) _ _ hP hD hS ls (lv_sub hl [0, 3, 4, 5] rfl)
                              · have c_6074i := i_nle (x := 7) (y := v_6058.toInt) rfl rfl c_6074
                                refine lv_aload_n hx hb dX12_layTunes_105 rfl (lv_at hl 5 rfl) ?_
                                refine lv_iload_n hx hb dX12_layTunes_106 rfl (lv_at hl 3 rfl) ?_
                                refine lv_iload hx hb dX12_layTunes_107 (lv_at hl 2 rfl) ?_
                                refine lv_iload hx hb dX12_layTunes_109 (lv_at hl 0 rfl) ?_
                                refine pci (va_runV (As := [.int v_4946, .int v_5922, .int v_6058]) (rest := []) ⟨hx, hb, hml, hown, hts⟩ (v_movedBy l D K m0 v_4946 v_5922 v_6058 m_0 m_1 m_2 w0 m_4 m_5 m_6 m_7 m_8 m_9 m_10 m_11 m_12 m_13 m_14 m_15 m_16 m_17 m_18 m_19 m_20 m_21 m_22 m_23 m_24 m_25 m_26 m_27 m_28 m_29 m_30 m_31 m_32 m_33 m_34 m_35 m_36 m_37 m_38 m_39 m_40 m_41 m_42 m_43 m_44 m_45 m_46 mo pl m_49 m_50 m_51 m_52 m_53 m_54 m_55 m_56 m_57 m_58 m_59 fw f_4119 f_5923 H.size (by first | omega | decide) (by first | omega | decide) (by first | omega | decide) zfw hf_4119_0 hf_5923_0) (cwV 3 hts gX12_layTunes_X12_movedBy rfl rfl rfl (by decide +kernel) ⟨Nat.le_of_ble_eq_true rfl, Nat.le_of_ble_eq_true rfl⟩) (mkV hK hN (hP.sub [0, 1, 2, 3] rfl) (hD.sub [0, 1, 2, 3] (by decide) rfl) (ci := 12) (q0 := 0) rfl rfl) rfl rfl hl.1 rfl (lv_room (Nat.le_of_ble_eq_true rfl)) dX12_layTunes_111 ⟨Nat.le_of_ble_eq_true rfl, Nat.le_of_ble_eq_true rfl⟩) (fun r_6079 hw => ?_)
                                obtain ⟨⟨hmb_r_6079, hmr_r_6079⟩, -⟩ := hw
                                refine lv_istore (lv' := [(7, .int r_6079), (6, .int v_6058), (5, .int v_6059), (4, .int v_5922), (3, .int v_4946), (2, .int v_4118), (0, .ref m0)]) hx hb dX12_layTunes_114 hl (by decide) rfl (fun ls hl => ?_)
                                refine lv_iload hx hb dX12_layTunes_116 (lv_at hl 0 rfl) ?_
                                refine lv_iload hx hb dX12_layTunes_118 (lv_at hl 2 rfl) ?_
                                refine lv_icmp_ge (tgt := 128) hx hb dX12_layTunes_120 (by decide) (fun c_6080 => ?_) (fun c_6080 => ?_)
                                · have c_6080i := i_le (x := v_6059.toInt) (y := r_6079.toInt) rfl rfl c_6080
                                  refine lv_iload hx hb dX12_layTunes_128 (lv_at hl 2 rfl) ?_
                                  refine lv_istore (lv' := [(5, .int v_6059), (7, .int r_6079), (6, .int v_6058), (4, .int v_5922), (3, .int v_4946), (2, .int v_4118), (0, .ref m0)]) hx hb dX12_layTunes_130 hl (by decide) rfl (fun ls hl => ?_)
                                  obtain ⟨x_6081, ex_6081⟩ : ∃ y : Int32, y = v_6058 + Int32.ofInt 1 := ⟨_, rfl⟩
                                  have hx_6081 : x_6081.toInt = (v_6058.toInt + 1) := by rw [ex_6081]; exact i_add rfl (show (Int32.ofInt 1).toInt = 1 from rfl) (by omega)
                                  refine lv_iinc (v := x_6081) (lv' := [(6, .int x_6081), (5, .int v_6059), (7, .int r_6079), (4, .int v_5922), (3, .int v_4946), (2, .int v_4118), (0, .ref m0)]) hx hb dX12_layTunes_132 hl (k := 2) rfl (by rw [ex_6081]) (by decide) rfl (fun ls hl => ?_)
                                  refine lv_goto (tgt := 98) hx hb dX12_layTunes_135 (by decide) ?_
                                  exact ih_6073 x_6081 v_6059 (by rw [hx_6081]; omega) (by omega) (show MnT fw f_4119 f_5923 v_4946.toInt v_5922.toInt (x_6081 : Int32).toInt (v_6059 : Int32).toInt by rw [hx_6081]; exact MnT.ge hr0_lp_6072 hmb_r_6079 (by omega)) (by omega) _ _ hP hD hS ls (lv_sub hl [0, 1, 3, 4, 5, 6] rfl)
                                · have c_6080i := i_nle (x := v_6059.toInt) (y := r_6079.toInt) rfl rfl c_6080
                                  refine lv_iload hx hb dX12_layTunes_123 (lv_at hl 0 rfl) ?_
                                  refine lv_goto (tgt := 130) hx hb dX12_layTunes_125 (by decide) ?_
                                  refine lv_istore (lv' := [(5, .int r_6079), (7, .int r_6079), (6, .int v_6058), (4, .int v_5922), (3, .int v_4946), (2, .int v_4118), (0, .ref m0)]) hx hb dX12_layTunes_130 hl (by decide) rfl (fun ls hl => ?_)
                                  obtain ⟨x_6082, ex_6082⟩ : ∃ y : Int32, y = v_6058 + Int32.ofInt 1 := ⟨_, rfl⟩
                                  have hx_6082 : x_6082.toInt = (v_6058.toInt + 1) := by rw [ex_6082]; exact i_add rfl (show (Int32.ofInt 1).toInt = 1 from rfl) (by omega)
                                  refine lv_iinc (v := x_6082) (lv' := [(6, .int x_6082), (5, .int r_6079), (7, .int r_6079), (4, .int v_5922), (3, .int v_4946), (2, .int v_4118), (0, .ref m0)]) hx hb dX12_layTunes_132 hl (k := 2) rfl (by rw [ex_6082]) (by decide) rfl (fun ls hl => ?_)
                                  refine lv_goto (tgt := 98) hx hb dX12_layTunes_135 (by decide) ?_
                                  exact ih_6073 x_6082 r_6079 (by rw [hx_6082]; omega) (by omega) (show MnT fw f_4119 f_5923 v_4946.toInt v_5922.toInt (x_6082 : Int32).toInt (r_6079 : Int32).toInt by rw [hx_6082]; exact MnT.lt hr0_lp_6072 (by omega) hmb_r_6079 (by omega)) (by omega) _ _ hP hD hS ls (lv_sub hl [0, 1, 3, 4, 5, 6] rfl)
                          have hz_6083 : (0 : Int32).toInt = 0 := rfl
                          have hz_6084 : (100000000 : Int32).toInt = 100000000 := rfl
                          exact lp_6072 ((8 - (0 : Int32).toInt : Int).toNat + 1) 0 100000000 (by decide) (by decide) (show MnT fw f_4119 f_5923 v_4946.toInt v_5922.toInt (0 : Int32).toInt (100000000 : Int32).toInt by exact MnT.base) (Nat.lt_succ_self _) _ _ hP hD hS ls (lv_sub hl [0, 1, 2, 3, 4, 5] rfl)
                    have hz_6085 : (0 : Int32).toInt = 0 := rfl
                    exact lp_6030 ((129 - (0 : Int32).toInt : Int).toNat + 1) 0 f_4947 (by decide) hf_4947_0 (show TOK fw f_4119 f_4947 v_4946.toInt (0 : Int32).toInt v_4118.toInt by exact hr0_lp_5706) (Nat.lt_succ_self _) _ _ hP hD hS ls (lv_sub hl [0, 1, 2, 3] rfl)
              exact lp_5706 (((x_4187 : Int32).toInt - (-2) : Int).toNat + 1) x_4187 f_4171 (by rw [hx_4187]; omega) hf_4171_0 (show TOK fw f_4119 f_4171 (x_4187 : Int32).toInt 0 v_4118.toInt by rw [hx_4187]; exact TOK.base hz128 (by omega)) (show (x_4187 : Int32).toInt < v_4118.toInt by omega) (Nat.lt_succ_self _) _ _ hP hD hS ls (lv_sub hl [0, 1, 2] rfl)
            · have c_4186i := i_nle (x := 128) (y := v_4170.toInt) rfl rfl c_4186
              refine lv_aload_n hx hb dX12_layTunes_52 rfl (lv_at hl 2 rfl) ?_
              refine va_get (ci := 12) (v := .ref mo) (C := RX12) (T := TX12) (N := 60) hx hb hts hw12 hown hK hP 0 rfl rfl 47 (by decide) (hts (.fieldLink RX12 126 "SmokeTuneModel" "moved" "[I") (List.mem_cons_of_mem _ (List.mem_append_left _ (List.mem_of_getElem? (i := 2) rfl)))) (fun _ h9 => h9) rfl dX12_layTunes_53 ?_
              refine lv_sipush (v := 128) hx hb dX12_layTunes_56 (by decide) ?_
              refine lv_iload_n hx hb dX12_layTunes_59 rfl (lv_at hl 1 rfl) ?_
              refine lv_imul hx hb dX12_layTunes_60 ?_
              refine lv_topi (fun x_6086 ex_6086 => ?_)
              have hx_6086 : x_6086.toInt = (128 * v_4118.toInt) := by rw [ex_6086]; exact i_mul (show (128 : Int32).toInt = 128 from rfl) rfl (by omega)
              refine lv_iload_n hx hb dX12_layTunes_61 rfl (lv_at hl 0 rfl) ?_
              refine lv_iadd hx hb dX12_layTunes_62 ?_
              refine lv_topi (fun x_6087 ex_6087 => ?_)
              have hx_6087 : x_6087.toInt = ((128 * v_4118.toInt) + v_4170.toInt) := by rw [ex_6087]; exact i_add hx_6086 rfl (by omega)
              refine lv_iconst (v := 0) hx hb dX12_layTunes_63 (by decide) ?_
              refine va_iast hx hb hK hP hD hS 3 0 rfl rfl (i_in hx_6087 (by omega)) dX12_layTunes_64 (fun H locs hP hD hS => ?_)
              generalize hf_6088 : (upd f_4171 (x_6087 : Int32).toNatClampNeg 0) = f_6088 at hP hD
              have hf_6088_0 : Rg 1152 0 100000000 f_6088 := by rw [← hf_6088]; exact Rg.upd hf_4171_0 (show (0 : Int32).toInt = 0 from rfl) (by omega)
              have hP : va_P D vwCl [(m0, .inr (12, [m_0, m_1, m_2, .ref w0, m_4, m_5, m_6, m_7, m_8, m_9, m_10, m_11, m_12, m_13, m_14, m_15, m_16, m_17, m_18, m_19, m_20, m_21, m_22, m_23, m_24, m_25, m_26, m_27, m_28, m_29, m_30, m_31, m_32, m_33, m_34, m_35, m_36, m_37, m_38, m_39, m_40, m_41, m_42, m_43, m_44, m_45, m_46, .ref mo, .ref pl, m_49, m_50, m_51, m_52, m_53, m_54, m_55, m_56, m_57, m_58, m_59])), (w0, .inl (K 0, 5500, .inl fw)), (pl, .inl (K 0, 8, .inl f_4119)), (mo, .inl (K 0, 1152, .inl f_6088))] H := hP
              have hD : va_D A [(m0, .inr (12, [m_0, m_1, m_2, .ref w0, m_4, m_5, m_6, m_7, m_8, m_9, m_10, m_11, m_12, m_13, m_14, m_15, m_16, m_17, m_18, m_19, m_20, m_21, m_22, m_23, m_24, m_25, m_26, m_27, m_28, m_29, m_30, m_31, m_32, m_33, m_34, m_35, m_36, m_37, m_38, m_39, m_40, m_41, m_42, m_43, m_44, m_45, m_46, .ref mo, .ref pl, m_49, m_50, m_51, m_52, m_53, m_54, m_55, m_56, m_57, m_58, m_59])), (w0, .inl (K 0, 5500, .inl fw)), (pl, .inl (K 0, 8, .inl f_4119)), (mo, .inl (K 0, 1152, .inl f_6088))] := hD
              obtain ⟨x_6089, ex_6089⟩ : ∃ y : Int32, y = v_4170 + Int32.ofInt 1 := ⟨_, rfl⟩
              have hx_6089 : x_6089.toInt = (v_4170.toInt + 1) := by rw [ex_6089]; exact i_add rfl (show (Int32.ofInt 1).toInt = 1 from rfl) (by omega)
              refine lv_iinc (v := x_6089) (lv' := [(3, .int x_6089), (2, .int v_4118), (0, .ref m0)]) hx hb dX12_layTunes_65 hl (k := 0) rfl (by rw [ex_6089]) (by decide) rfl (fun ls hl => ?_)
              refine lv_goto (tgt := 45) hx hb dX12_layTunes_68 (by decide) ?_
              exact ih_4185 x_6089 f_6088 (by rw [hx_6089]; omega) hf_6088_0 (show Zr f_6088 v_4118.toInt (x_6089 : Int32).toInt by rw [← hf_6088, i_clamp (x := x_6087) (z := ((128 * v_4118.toInt) + v_4170.toInt)) hx_6087, hx_6089]; exact Zr.put hr0_lp_4184 (by omega)) (by omega) _ _ hP hD hS ls (lv_sub hl [0, 1, 2] rfl)
        have hz_6090 : (0 : Int32).toInt = 0 := rfl
        exact lp_4184 ((129 - (0 : Int32).toInt : Int).toNat + 1) 0 fm (by decide) zfm (show Zr fm v_4118.toInt (0 : Int32).toInt by exact Zr.base) (Nat.lt_succ_self _) _ _ hP hD hS ls (lv_sub hl [0, 1, 2] rfl)
      · have c_4144i := i_nle (x := x_4143.toInt) (y := v_4117.toInt) rfl rfl c_4144
        refine lv_aload_n hx hb dX12_layTunes_14 rfl (lv_at hl 2 rfl) ?_
        refine va_get (ci := 12) (v := .ref w0) (C := RX12) (T := TX12) (N := 60) hx hb hts hw12 hown hK hP 0 rfl rfl 3 (by decide) (hts (.fieldLink RX12 13 "SmokeTuneModel" "row" "[I") (List.mem_cons_of_mem _ (List.mem_append_left _ (List.mem_of_getElem? (i := 0) rfl)))) (fun _ h9 => h9) rfl dX12_layTunes_15 ?_
        refine lv_bipush (v := 43) hx hb dX12_layTunes_18 (by decide) ?_
        refine lv_iload_n hx hb dX12_layTunes_20 rfl (lv_at hl 0 rfl) ?_
        refine lv_iadd hx hb dX12_layTunes_21 ?_
        refine lv_topi (fun x_6091 ex_6091 => ?_)
        have hx_6091 : x_6091.toInt = (43 + v_4117.toInt) := by rw [ex_6091]; exact i_add (show (43 : Int32).toInt = 43 from rfl) rfl (by omega)
        refine va_iald hx hb hK hP 1 0 rfl rfl (i_in hx_6091 (by omega)) dX12_layTunes_22 ?_
        refine lv_topi (fun x_6092 ex_6092 => ?_)
        have px_6092 := RwOK.at zfw hx_6091 (show 0 ≤ (43 + v_4117.toInt) ∧ (43 + v_4117.toInt) < 100 by omega)
        rw [← ex_6092] at px_6092
        refine lv_iload_n hx hb dX12_layTunes_23 rfl (lv_at hl 3 rfl) ?_
        refine lv_icmp_ne (tgt := 37) hx hb dX12_layTunes_24 (by decide) (fun c_6093 => ?_) (fun c_6093 => ?_)
        · have c_6093i := i_ne (x := x_6092.toInt) (y := x.toInt) rfl rfl c_6093
          obtain ⟨x_6094, ex_6094⟩ : ∃ y : Int32, y = v_4117 + Int32.ofInt 1 := ⟨_, rfl⟩
          have hx_6094 : x_6094.toInt = (v_4117.toInt + 1) := by rw [ex_6094]; exact i_add rfl (show (Int32.ofInt 1).toInt = 1 from rfl) (by omega)
          refine lv_iinc (v := x_6094) (lv' := [(3, .int x_6094), (2, .int v_4118), (0, .ref m0), (1, .int x)]) hx hb dX12_layTunes_37 hl (k := 0) rfl (by rw [ex_6094]) (by decide) rfl (fun ls hl => ?_)
          refine lv_goto (tgt := 4) hx hb dX12_layTunes_40 (by decide) ?_
          exact ih_4142 x_6094 v_4118 f_4119 (by rw [hx_6094]; omega) (by omega) hf_4119_0 (show 0 ≤ (v_4118 : Int32).toInt ∧ (v_4118 : Int32).toInt ≤ (x_6094 : Int32).toInt by omega) (by omega) _ _ hP hD hS ls (lv_sub hl [0, 1, 2, 3] rfl)
        · have c_6093i := i_eq (x := x_6092.toInt) (y := x.toInt) rfl rfl c_6093
          refine lv_aload_n hx hb dX12_layTunes_27 rfl (lv_at hl 2 rfl) ?_
          refine va_get (ci := 12) (v := .ref pl) (C := RX12) (T := TX12) (N := 60) hx hb hts hw12 hown hK hP 0 rfl rfl 48 (by decide) (hts (.fieldLink RX12 129 "SmokeTuneModel" "players" "[I") (List.mem_cons_of_mem _ (List.mem_append_left _ (List.mem_of_getElem? (i := 1) rfl)))) (fun _ h9 => h9) rfl dX12_layTunes_28 ?_
          refine lv_iload_n hx hb dX12_layTunes_31 rfl (lv_at hl 1 rfl) ?_
          refine lv_iload_n hx hb dX12_layTunes_32 rfl (lv_at hl 0 rfl) ?_
          refine va_iast hx hb hK hP hD hS 2 0 rfl rfl (i_in rfl (by omega)) dX12_layTunes_33 (fun H locs hP hD hS => ?_)
          generalize hf_6095 : (upd f_4119 (v_4118 : Int32).toNatClampNeg v_4117) = f_6095 at hP hD
          have hf_6095_0 : Rg 8 0 7 f_6095 := by rw [← hf_6095]; exact Rg.upd hf_4119_0 rfl (by omega)
          have hP : va_P D vwCl [(m0, .inr (12, [m_0, m_1, m_2, .ref w0, m_4, m_5, m_6, m_7, m_8, m_9, m_10, m_11, m_12, m_13, m_14, m_15, m_16, m_17, m_18, m_19, m_20, m_21, m_22, m_23, m_24, m_25, m_26, m_27, m_28, m_29, m_30, m_31, m_32, m_33, m_34, m_35, m_36, m_37, m_38, m_39, m_40, m_41, m_42, m_43, m_44, m_45, m_46, .ref mo, .ref pl, m_49, m_50, m_51, m_52, m_53, m_54, m_55, m_56, m_57, m_58, m_59])), (w0, .inl (K 0, 5500, .inl fw)), (pl, .inl (K 0, 8, .inl f_6095)), (mo, .inl (K 0, 1152, .inl fm))] H := hP
          have hD : va_D A [(m0, .inr (12, [m_0, m_1, m_2, .ref w0, m_4, m_5, m_6, m_7, m_8, m_9, m_10, m_11, m_12, m_13, m_14, m_15, m_16, m_17, m_18, m_19, m_20, m_21, m_22, m_23, m_24, m_25, m_26, m_27, m_28, m_29, m_30, m_31, m_32, m_33, m_34, m_35, m_36, m_37, m_38, m_39, m_40, m_41, m_42, m_43, m_44, m_45, m_46, .ref mo, .ref pl, m_49, m_50, m_51, m_52, m_53, m_54, m_55, m_56, m_57, m_58, m_59])), (w0, .inl (K 0, 5500, .inl fw)), (pl, .inl (K 0, 8, .inl f_6095)), (mo, .inl (K 0, 1152, .inl fm))] := hD
          obtain ⟨x_6096, ex_6096⟩ : ∃ y : Int32, y = v_4118 + Int32.ofInt 1 := ⟨_, rfl⟩
          have hx_6096 : x_6096.toInt = (v_4118.toInt + 1) := by rw [ex_6096]; exact i_add rfl (show (Int32.ofInt 1).toInt = 1 from rfl) (by omega)
          refine lv_iinc (v := x_6096) (lv' := [(2, .int x_6096), (3, .int v_4117), (0, .ref m0), (1, .int x)]) hx hb dX12_layTunes_34 hl (k := 1) rfl (by rw [ex_6096]) (by decide) rfl (fun ls hl => ?_)
          obtain ⟨x_6097, ex_6097⟩ : ∃ y : Int32, y = v_4117 + Int32.ofInt 1 := ⟨_, rfl⟩
          have hx_6097 : x_6097.toInt = (v_4117.toInt + 1) := by rw [ex_6097]; exact i_add rfl (show (Int32.ofInt 1).toInt = 1 from rfl) (by omega)
          refine lv_iinc (v := x_6097) (lv' := [(3, .int x_6097), (2, .int x_6096), (0, .ref m0), (1, .int x)]) hx hb dX12_layTunes_37 hl (k := 1) rfl (by rw [ex_6097]) (by decide) rfl (fun ls hl => ?_)
          refine lv_goto (tgt := 4) hx hb dX12_layTunes_40 (by decide) ?_
          exact ih_4142 x_6097 x_6096 f_6095 (by rw [hx_6097]; omega) (by rw [hx_6096]; omega) hf_6095_0 (show 0 ≤ (x_6096 : Int32).toInt ∧ (x_6096 : Int32).toInt ≤ (x_6097 : Int32).toInt by omega) (by omega) _ _ hP hD hS ls (lv_sub hl [0, 1, 2, 3] rfl)
  have hz_6098 : (0 : Int32).toInt = 0 := rfl
  have hz_6099 : (0 : Int32).toInt = 0 := rfl
  exact lp_4141 ((9 - (0 : Int32).toInt : Int).toNat + 1) 0 0 fp (by decide) (by decide) zfp (show 0 ≤ (0 : Int32).toInt ∧ (0 : Int32).toInt ≤ (0 : Int32).toInt by omega) (Nat.lt_succ_self _) _ _ hP hD hS ls (lv_sub hl [0, 1, 2, 3] rfl)
set_option maxHeartbeats 4000000 in
set_option maxRecDepth 100000 in
theorem v_tune (l : Launch) (D : va_G) (K : Nat → ClassId) (m0 : Nat) (x : Int32) (y : Int32) (thr : Int32) (m_1 : Value) (m_2 : Value) (w0 : Nat) (m_4 : Value) (m_5 : Value) (m_6 : Value) (m_7 : Value) (m_8 : Value) (m_9 : Value) (m_10 : Value) (m_11 : Value) (m_12 : Value) (m_13 : Value) (m_14 : Value) (m_15 : Value) (m_16 : Value) (m_17 : Value) (m_18 : Value) (m_19 : Value) (m_20 : Value) (m_21 : Value) (m_22 : Value) (m_23 : Value) (m_24 : Value) (m_25 : Value) (m_26 : Value) (m_27 : Value) (m_28 : Value) (m_29 : Value) (m_30 : Value) (m_31 : Value) (m_32 : Value) (m_33 : Value) (m_34 : Value) (m_35 : Value) (m_36 : Value) (m_37 : Value) (m_38 : Value) (m_39 : Value) (m_40 : Value) (m_41 : Value) (m_42 : Value) (m_43 : Value) (m_44 : Value) (m_45 : Value) (m_46 : Value) (mo : Nat) (pl : Nat) (m_49 : Value) (m_50 : Value) (m_51 : Value) (m_52 : Value) (m_53 : Value) (m_54 : Value) (m_55 : Value) (m_56 : Value) (m_57 : Value) (m_58 : Value) (m_59 : Value) (fw : Nat → Int32) (fp : Nat → Int32) (fm : Nat → Int32) (sz : Nat) (zfw : RwOK fw) (zfp : Rg 8 0 7 fp) (zfm : Rg 1152 0 100000000 fm) : Met l yX12_tune wsX12_tune ({ frames := 4, cells := 0, slots := 0, locals := 93 }) (va_Pc [.ref m0, .int x, .int y] (Pre D K [(m0, .inr (12, [.int thr, m_1, m_2, .ref w0, m_4, m_5, m_6, m_7, m_8, m_9, m_10, m_11, m_12, m_13, m_14, m_15, m_16, m_17, m_18, m_19, m_20, m_21, m_22, m_23, m_24, m_25, m_26, m_27, m_28, m_29, m_30, m_31, m_32, m_33, m_34, m_35, m_36, m_37, m_38, m_39, m_40, m_41, m_42, m_43, m_44, m_45, m_46, .ref mo, .ref pl, m_49, m_50, m_51, m_52, m_53, m_54, m_55, m_56, m_57, m_58, m_59])), (w0, .inl (K 0, 5500, .inl fw)), (pl, .inl (K 0, 8, .inl fp)), (mo, .inl (K 0, 1152, .inl fm))] sz)) (va_Qi (S := Su) (fun (r : Int32) (u : Su) => ((-1) ≤ r.toInt ∧ r.toInt ≤ 100000000) ∧ (Rg 8 0 7 (u.2.1 0)) ∧ (Rg 1152 0 100000000 (u.2.1 1)) ∧ True) (fun u t => Wd D (va_A [(m0, .inr (12, [.int thr, m_1, m_2, .ref w0, m_4, m_5, m_6, m_7, m_8, m_9, m_10, m_11, m_12, m_13, m_14, m_15, m_16, m_17, m_18, m_19, m_20, m_21, m_22, m_23, m_24, m_25, m_26, m_27, m_28, m_29, m_30, m_31, m_32, m_33, m_34, m_35, m_36, m_37, m_38, m_39, m_40, m_41, m_42, m_43, m_44, m_45, m_46, .ref mo, .ref pl, m_49, m_50, m_51, m_52, m_53, m_54, m_55, m_56, m_57, m_58, m_59])), (w0, .inl (K 0, 5500, .inl fw)), (pl, .inl (K 0, 8, .inl fp)), (mo, .inl (K 0, 1152, .inl fm))] sz) ((fun u => [(m0, .inr (12, [.int 0, m_1, m_2, .ref w0, m_4, m_5, m_6, m_7, m_8, m_9, m_10, m_11, m_12, m_13, m_14, m_15, m_16, m_17, m_18, m_19, m_20, m_21, m_22, m_23, m_24, m_25, m_26, m_27, m_28, m_29, m_30, m_31, m_32, m_33, m_34, m_35, m_36, m_37, m_38, m_39, m_40, m_41, m_42, m_43, m_44, m_45, m_46, .ref mo, .ref pl, m_49, m_50, m_51, m_52, m_53, m_54, m_55, m_56, m_57, m_58, m_59])), (w0, .inl (K 0, 5500, .inl fw)), (pl, .inl (K 0, 8, .inl (u.2.1 0))), (mo, .inl (K 0, 1152, .inl (u.2.1 1)))]) u) t) (va_A [(m0, .inr (12, [.int thr, m_1, m_2, .ref w0, m_4, m_5, m_6, m_7, m_8, m_9, m_10, m_11, m_12, m_13, m_14, m_15, m_16, m_17, m_18, m_19, m_20, m_21, m_22, m_23, m_24, m_25, m_26, m_27, m_28, m_29, m_30, m_31, m_32, m_33, m_34, m_35, m_36, m_37, m_38, m_39, m_40, m_41, m_42, m_43, m_44, m_45, m_46, .ref mo, .ref pl, m_49, m_50, m_51, m_52, m_53, m_54, m_55, m_56, m_57, m_58, m_59])), (w0, .inl (K 0, 5500, .inl fw)), (pl, .inl (K 0, 8, .inl fp)), (mo, .inl (K 0, 1152, .inl fm))] sz)) 0 0 (va_A [(m0, .inr (12, [.int thr, m_1, m_2, .ref w0, m_4, m_5, m_6, m_7, m_8, m_9, m_10, m_11, m_12, m_13, m_14, m_15, m_16, m_17, m_18, m_19, m_20, m_21, m_22, m_23, m_24, m_25, m_26, m_27, m_28, m_29, m_30, m_31, m_32, m_33, m_34, m_35, m_36, m_37, m_38, m_39, m_40, m_41, m_42, m_43, m_44, m_45, m_46, .ref mo, .ref pl, m_49, m_50, m_51, m_52, m_53, m_54, m_55, m_56, m_57, m_58, m_59])), (w0, .inl (K 0, 5500, .inl fw)), (pl, .inl (K 0, 8, .inl fp)), (mo, .inl (K 0, 1152, .inl fm))] sz) := by
  refine Met.ofW (cc := cX12_tune) (maxL := 7) (ret := (some .int)) (by decide) rfl ?_
  intro p e s m args below meth c s₁ B hml hv
  obtain ⟨rfl, hsz, hP, hK, hD0, hN⟩ := hv
  have hx := B.exec
  have hb := B.bytes
  have hr := B.returns
  have hts := atoms_spec (ws := wsX12_tune) B.pre
  have hown : s.vm.findClass RX12 = some m.cls := findClass_of_methodNamed B.named
  have hlocks := B.notSynchronized
  subst hsz
  have hD := hD0.self (sz := s.heap.size)
  generalize hAe : va_A [(m0, .inr (12, [.int thr, m_1, m_2, .ref w0, m_4, m_5, m_6, m_7, m_8, m_9, m_10, m_11, m_12, m_13, m_14, m_15, m_16, m_17, m_18, m_19, m_20, m_21, m_22, m_23, m_24, m_25, m_26, m_27, m_28, m_29, m_30, m_31, m_32, m_33, m_34, m_35, m_36, m_37, m_38, m_39, m_40, m_41, m_42, m_43, m_44, m_45, m_46, .ref mo, .ref pl, m_49, m_50, m_51, m_52, m_53, m_54, m_55, m_56, m_57, m_58, m_59])), (w0, .inl (K 0, 5500, .inl fw)), (pl, .inl (K 0, 8, .inl fp)), (mo, .inl (K 0, 1152, .inl fm))] s.heap.size = A at hD ⊢
  have hA : ∀ q : Nat, s.heap.size ≤ q → A q := fun q h => by rw [← hAe]; exact Or.inr h
  have hS : va_S A s.heap s.heap [] := va_S.rf
  have hP : va_P D vwCl [(m0, .inr (12, [.int thr, m_1, m_2, .ref w0, m_4, m_5, m_6, m_7, m_8, m_9, m_10, m_11, m_12, m_13, m_14, m_15, m_16, m_17, m_18, m_19, m_20, m_21, m_22, m_23, m_24, m_25, m_26, m_27, m_28, m_29, m_30, m_31, m_32, m_33, m_34, m_35, m_36, m_37, m_38, m_39, m_40, m_41, m_42, m_43, m_44, m_45, m_46, .ref mo, .ref pl, m_49, m_50, m_51, m_52, m_53, m_54, m_55, m_56, m_57, m_58, m_59])), (w0, .inl (K 0, 5500, .inl fw)), (pl, .inl (K 0, 8, .inl fp)), (mo, .inl (K 0, 1152, .inl fm))] s.heap := hP
  have hl := lv_entry [.ref m0, .int x, .int y] (n := 7) (Nat.le_of_ble_eq_true rfl)
  rw [lg_entry_eq]
  generalize (lg_sl [.ref m0, .int x, .int y] ++ List.replicate (7 - (lg_sl [.ref m0, .int x, .int y]).length) Slot.unset).toArray = ls at hl ⊢
  have hl : lv_has ls 7 [(0, .ref m0), (1, .int x), (2, .int y)] := hl
  have hw12 : ∀ w ∈ wsX120, w ∈ wsX12_tune := fun w h => (List.mem_cons_of_mem _ (List.mem_append_right _ h))
  generalize hQ : MQ below _ _ s _ _ _ = Q
  refine lv_aload_n hx hb dX12_tune_0 rfl (lv_at hl 0 rfl) ?_
  refine lv_iconst (v := 0) hx hb dX12_tune_1 (by decide) ?_
  refine va_put (ci := 12) (v := .int 0) (ty := .int) (C := RX12) (T := TX12) (N := 60) hx hb hts hw12 tyX12 tyX12_ok nmX12 hown hK hP hD hS 0 rfl rfl 0 (by decide) (hts (.fieldLink RX12 158 "SmokeTuneModel" "thrown" "I") (List.mem_cons_of_mem _ (List.mem_append_left _ (List.mem_append_left _ (List.mem_of_getElem? (i := 0) rfl))))) (fun _ h9 => h9) rfl (by decide +kernel) (by first | rfl | decide) (by first | rfl | decide) (Nat.le_of_ble_eq_true rfl) dX12_tune_2 (fun H locs hP hD hS => ?_)
  have hP : va_P D vwCl [(m0, .inr (12, [.int 0, m_1, m_2, .ref w0, m_4, m_5, m_6, m_7, m_8, m_9, m_10, m_11, m_12, m_13, m_14, m_15, m_16, m_17, m_18, m_19, m_20, m_21, m_22, m_23, m_24, m_25, m_26, m_27, m_28, m_29, m_30, m_31, m_32, m_33, m_34, m_35, m_36, m_37, m_38, m_39, m_40, m_41, m_42, m_43, m_44, m_45, m_46, .ref mo, .ref pl, m_49, m_50, m_51, m_52, m_53, m_54, m_55, m_56, m_57, m_58, m_59])), (w0, .inl (K 0, 5500, .inl fw)), (pl, .inl (K 0, 8, .inl fp)), (mo, .inl (K 0, 1152, .inl fm))] H := hP
  have hD : va_D A [(m0, .inr (12, [.int 0, m_1, m_2, .ref w0, m_4, m_5, m_6, m_7, m_8, m_9, m_10, m_11, m_12, m_13, m_14, m_15, m_16, m_17, m_18, m_19, m_20, m_21, m_22, m_23, m_24, m_25, m_26, m_27, m_28, m_29, m_30, m_31, m_32, m_33, m_34, m_35, m_36, m_37, m_38, m_39, m_40, m_41, m_42, m_43, m_44, m_45, m_46, .ref mo, .ref pl, m_49, m_50, m_51, m_52, m_53, m_54, m_55, m_56, m_57, m_58, m_59])), (w0, .inl (K 0, 5500, .inl fw)), (pl, .inl (K 0, 8, .inl fp)), (mo, .inl (K 0, 1152, .inl fm))] := hD
  refine lv_iload_n hx hb dX12_tune_5 rfl (lv_at hl 1 rfl) ?_
  refine lv_i2l hx hb dX12_tune_6 rfl ?_
  refine lv_topl (fun x_2673 ex_2673 => ?_)
  have hx_2673 : x_2673.toInt = x.toInt := by rw [ex_2673]; exact i_wide rfl
  have hbx_2673 := i_rng (a := x) rfl
  refine lv_lconst (v := 0) hx hb dX12_tune_7 (by decide) ?_
  refine lv_ldc2 (v := 3) hx hb hown (hts (.constantLong RX12 191 (3)) (List.mem_cons_of_mem _ (List.mem_append_left _ (List.mem_append_left _ (List.mem_of_getElem? (i := 1) rfl))))) dX12_tune_8 ?_
  have j_3326 : ∀ (H : Heap) (locs : List Loc) (hP : va_P D vwCl [(m0, .inr (12, [.int 0, m_1, m_2, .ref w0, m_4, m_5, m_6, m_7, m_8, m_9, m_10, m_11, m_12, m_13, m_14, m_15, m_16, m_17, m_18, m_19, m_20, m_21, m_22, m_23, m_24, m_25, m_26, m_27, m_28, m_29, m_30, m_31, m_32, m_33, m_34, m_35, m_36, m_37, m_38, m_39, m_40, m_41, m_42, m_43, m_44, m_45, m_46, .ref mo, .ref pl, m_49, m_50, m_51, m_52, m_53, m_54, m_55, m_56, m_57, m_58, m_59])), (w0, .inl (K 0, 5500, .inl fw)), (pl, .inl (K 0, 8, .inl fp)), (mo, .inl (K 0, 1152, .inl fm))] H) (hD : va_D A [(m0, .inr (12, [.int 0, m_1, m_2, .ref w0, m_4, m_5, m_6, m_7, m_8, m_9, m_10, m_11, m_12, m_13, m_14, m_15, m_16, m_17, m_18, m_19, m_20, m_21, m_22, m_23, m_24, m_25, m_26, m_27, m_28, m_29, m_30, m_31, m_32, m_33, m_34, m_35, m_36, m_37, m_38, m_39, m_40, m_41, m_42, m_43, m_44, m_45, m_46, .ref mo, .ref pl, m_49, m_50, m_51, m_52, m_53, m_54, m_55, m_56, m_57, m_58, m_59])), (w0, .inl (K 0, 5500, .inl fw)), (pl, .inl (K 0, 8, .inl fp)), (mo, .inl (K 0, 1152, .inl fm))]) (hS : va_S A s.heap H locs) (ls : Array Slot) (hl : lv_has ls 7 []), W p l e ({ frames := 4, cells := 0, slots := 0, locals := 93 }) s m (([.ref m0, .int x, .int y] : List Value).toArray) below meth c H locs 0 0 Q (F0 m 50 ls []) := by
    intro H locs hP hD hS ls hl
    refine lv_iconst (v := (-1)) hx hb dX12_tune_50 (by decide) ?_
    rw [← hQ]
    have hP9 := hP.sub (ws' := [(m0, .inr (12, [.int 0, m_1, m_2, .ref w0, m_4, m_5, m_6, m_7, m_8, m_9, m_10, m_11, m_12, m_13, m_14, m_15, m_16, m_17, m_18, m_19, m_20, m_21, m_22, m_23, m_24, m_25, m_26, m_27, m_28, m_29, m_30, m_31, m_32, m_33, m_34, m_35, m_36, m_37, m_38, m_39, m_40, m_41, m_42, m_43, m_44, m_45, m_46, .ref mo, .ref pl, m_49, m_50, m_51, m_52, m_53, m_54, m_55, m_56, m_57, m_58, m_59])), (w0, .inl (K 0, 5500, .inl fw)), (pl, .inl (K 0, 8, .inl fp)), (mo, .inl (K 0, 1152, .inl fm))]) [0, 1, 2, 3] rfl
    have hD9 := hD.sub (ws' := [(m0, .inr (12, [.int 0, m_1, m_2, .ref w0, m_4, m_5, m_6, m_7, m_8, m_9, m_10, m_11, m_12, m_13, m_14, m_15, m_16, m_17, m_18, m_19, m_20, m_21, m_22, m_23, m_24, m_25, m_26, m_27, m_28, m_29, m_30, m_31, m_32, m_33, m_34, m_35, m_36, m_37, m_38, m_39, m_40, m_41, m_42, m_43, m_44, m_45, m_46, .ref mo, .ref pl, m_49, m_50, m_51, m_52, m_53, m_54, m_55, m_56, m_57, m_58, m_59])), (w0, .inl (K 0, 5500, .inl fw)), (pl, .inl (K 0, 8, .inl fp)), (mo, .inl (K 0, 1152, .inl fm))]) [0, 1, 2, 3] (by decide) rfl
    exact W.iret (v := (-1)) hx hb hr (fun t ht hW => ⟨⟨(-1), ((fun _ => 0, fun i => match i with | 0 => fp | _ => fm, fun _ => fun _ => 0, fun _ => 0, fun _ => 0, fun _ => fun _ => none) : Su), rfl, ⟨(show (-1) ≤ ((-1) : Int32).toInt ∧ ((-1) : Int32).toInt ≤ 100000000 by decide), zfp, zfm, trivial⟩, (⟨by rw [ht]; exact hP9, hD9⟩ : Wd D A _ t)⟩, hS.F ht⟩) hS.2.2 dX12_tune_51
  refine pci (va_runS (As := [.long x_2673, .long 0, .long 3]) (rest := []) ⟨hx, hb, hml, hown, hts⟩ (v_in l D K x.toInt 0 3 x_2673 0 3 H.size hx_2673 (show (0 : Int64).toInt = 0 from rfl) (show (3 : Int64).toInt = 3 from rfl)) (va_cwS 3 hts gX12_tune_X12_in rfl rfl rfl (by decide +kernel) ⟨Nat.le_of_ble_eq_true rfl, Nat.le_of_ble_eq_true rfl⟩) (mkS hK hN (va_P.nil) (va_D.nil (A := fun _ => True))) rfl rfl hl.1 rfl (lv_room (Nat.le_of_ble_eq_true rfl)) dX12_tune_11 ⟨Nat.le_of_ble_eq_true rfl, Nat.le_of_ble_eq_true rfl⟩) (fun r_3327 hw => ?_)
  obtain ⟨hw, -⟩ := hw
  rcases hw with ⟨rfl, h_3328, h_3329⟩ | ⟨rfl, h_3330⟩
  · refine lv_if_eq (tgt := 50) hx hb dX12_tune_14 (by decide) (fun c_3331 => absurd c_3331 (by decide)) (fun c_3331 => ?_)
    refine lv_iload_n hx hb dX12_tune_17 rfl (lv_at hl 2 rfl) ?_
    refine lv_if_lt (tgt := 50) hx hb dX12_tune_18 (by decide) (fun c_3332 => ?_) (fun c_3332 => ?_)
    · have c_3332i := i_lt (x := y.toInt) (y := 0) rfl rfl c_3332
      exact j_3326   _ _ hP hD hS ls (lv_sub hl [] rfl)
    · have c_3332i := i_nlt (x := y.toInt) (y := 0) rfl rfl c_3332
      refine lv_iload_n hx hb dX12_tune_21 rfl (lv_at hl 2 rfl) ?_
      have j_3655 : ∀ (hk0_j_3655 : y.toInt ≤ 8) (H : Heap) (locs : List Loc) (hP : va_P D vwCl [(m0, .inr (12, [.int 0, m_1, m_2, .ref w0, m_4, m_5, m_6, m_7, m_8, m_9, m_10, m_11, m_12, m_13, m_14, m_15, m_16, m_17, m_18, m_19, m_20, m_21, m_22, m_23, m_24, m_25, m_26, m_27, m_28, m_29, m_30, m_31, m_32, m_33, m_34, m_35, m_36, m_37, m_38, m_39, m_40, m_41, m_42, m_43, m_44, m_45, m_46, .ref mo, .ref pl, m_49, m_50, m_51, m_52, m_53, m_54, m_55, m_56, m_57, m_58, m_59])), (w0, .inl (K 0, 5500, .inl fw)), (pl, .inl (K 0, 8, .inl fp)), (mo, .inl (K 0, 1152, .inl fm))] H) (hD : va_D A [(m0, .inr (12, [.int 0, m_1, m_2, .ref w0, m_4, m_5, m_6, m_7, m_8, m_9, m_10, m_11, m_12, m_13, m_14, m_15, m_16, m_17, m_18, m_19, m_20, m_21, m_22, m_23, m_24, m_25, m_26, m_27, m_28, m_29, m_30, m_31, m_32, m_33, m_34, m_35, m_36, m_37, m_38, m_39, m_40, m_41, m_42, m_43, m_44, m_45, m_46, .ref mo, .ref pl, m_49, m_50, m_51, m_52, m_53, m_54, m_55, m_56, m_57, m_58, m_59])), (w0, .inl (K 0, 5500, .inl fw)), (pl, .inl (K 0, 8, .inl fp)), (mo, .inl (K 0, 1152, .inl fm))]) (hS : va_S A s.heap H locs) (ls : Array Slot) (hl : lv_has ls 7 [(0, .ref m0), (1, .int x), (2, .int y)]), W p l e ({ frames := 4, cells := 0, slots := 0, locals := 93 }) s m (([.ref m0, .int x, .int y] : List Value).toArray) below meth c H locs 0 0 Q (F0 m 52 ls []) := by
        intro hk0_j_3655 H locs hP hD hS ls hl
        refine lv_aload_n hx hb dX12_tune_52 rfl (lv_at hl 0 rfl) ?_
        refine lv_iload_n hx hb dX12_tune_53 rfl (lv_at hl 1 rfl) ?_
        refine kci (S := Su) (wr := []) (va_runV (As := [.int x]) (rest := []) ⟨hx, hb, hml, hown, hts⟩ (v_layTunes l D K m0 x (.int 0) m_1 m_2 w0 m_4 m_5 m_6 m_7 m_8 m_9 m_10 m_11 m_12 m_13 m_14 m_15 m_16 m_17 m_18 m_19 m_20 m_21 m_22 m_23 m_24 m_25 m_26 m_27 m_28 m_29 m_30 m_31 m_32 m_33 m_34 m_35 m_36 m_37 m_38 m_39 m_40 m_41 m_42 m_43 m_44 m_45 m_46 mo pl m_49 m_50 m_51 m_52 m_53 m_54 m_55 m_56 m_57 m_58 m_59 fw fp fm H.size zfw zfp zfm) (cwV 1 hts gX12_tune_X12_layTunes rfl rfl rfl (by decide +kernel) ⟨Nat.le_of_ble_eq_true rfl, Nat.le_of_ble_eq_true rfl⟩) (mkV hK hN (hP.sub [0, 1, 2, 3] rfl) (hD.sub [0, 1, 2, 3] (by decide) rfl) (ci := 12) (q0 := 0) rfl rfl) rfl rfl hl.1 rfl (lv_room (Nat.le_of_ble_eq_true rfl)) dX12_tune_54 ⟨Nat.le_of_ble_eq_true rfl, Nat.le_of_ble_eq_true rfl⟩) hP hD hS hA [0, 1, 2, 3] [] rfl rfl (by decide) (by decide) (fun r_3656 u_3657 H locs hw hP hD hS => ?_)
        have hP : va_P D vwCl [(m0, .inr (12, [.int 0, m_1, m_2, .ref w0, m_4, m_5, m_6, m_7, m_8, m_9, m_10, m_11, m_12, m_13, m_14, m_15, m_16, m_17, m_18, m_19, m_20, m_21, m_22, m_23, m_24, m_25, m_26, m_27, m_28, m_29, m_30, m_31, m_32, m_33, m_34, m_35, m_36, m_37, m_38, m_39, m_40, m_41, m_42, m_43, m_44, m_45, m_46, .ref mo, .ref pl, m_49, m_50, m_51, m_52, m_53, m_54, m_55, m_56, m_57, m_58, m_59])), (w0, .inl (K 0, 5500, .inl fw)), (pl, .inl (K 0, 8, .inl (u_3657.2.1 0))), (mo, .inl (K 0, 1152, .inl (u_3657.2.1 1)))] H := hP
        have hD : va_D A [(m0, .inr (12, [.int 0, m_1, m_2, .ref w0, m_4, m_5, m_6, m_7, m_8, m_9, m_10, m_11, m_12, m_13, m_14, m_15, m_16, m_17, m_18, m_19, m_20, m_21, m_22, m_23, m_24, m_25, m_26, m_27, m_28, m_29, m_30, m_31, m_32, m_33, m_34, m_35, m_36, m_37, m_38, m_39, m_40, m_41, m_42, m_43, m_44, m_45, m_46, .ref mo, .ref pl, m_49, m_50, m_51, m_52, m_53, m_54, m_55, m_56, m_57, m_58, m_59])), (w0, .inl (K 0, 5500, .inl fw)), (pl, .inl (K 0, 8, .inl (u_3657.2.1 0))), (mo, .inl (K 0, 1152, .inl (u_3657.2.1 1)))] := hD
        obtain ⟨h_3661, k_3658, k_3659, k_3660, -⟩ := hw
        refine lv_istore_n (lv' := [(3, .int r_3656), (0, .ref m0), (1, .int x), (2, .int y)]) hx hb dX12_tune_57 rfl hl (by decide) rfl (fun ls hl => ?_)
        refine lv_iload_n hx hb dX12_tune_58 rfl (lv_at hl 3 rfl) ?_
        refine lv_if_ne (tgt := 69) hx hb dX12_tune_59 (by decide) (fun c_3662 => ?_) (fun c_3662 => ?_)
        · have c_3662i := i_ne (x := y.toInt) (y := 0) rfl rfl c_3662
          refine lv_iconst (v := 0) hx hb dX12_tune_69 (by decide) ?_
          refine lv_istore (lv' := [(4, .int 0), (3, .int r_3656), (0, .ref m0), (1, .int x), (2, .int y)]) hx hb dX12_tune_70 hl (by decide) rfl (fun ls hl => ?_)
          refine lv_iconst (v := 0) hx hb dX12_tune_72 (by decide) ?_
          refine lv_istore (lv' := [(5, .int 0), (4, .int 0), (3, .int r_3656), (0, .ref m0), (1, .int x), (2, .int y)]) hx hb dX12_tune_73 hl (by decide) rfl (fun ls hl => ?_)
          have lp_3915 : ∀ (nn_ : Nat) (v_3813 : Int32) (v_3814 : Int32) (hv_3813 : 0 ≤ v_3813.toInt ∧ v_3813.toInt ≤ 8) (hv_3814 : 0 ≤ v_3814.toInt ∧ v_3814.toInt ≤ 127) (hn : (9 - v_3813.toInt : Int).toNat < nn_) (H : Heap) (locs : List Loc) (hP : va_P D vwCl [(m0, .inr (12, [.int 0, m_1, m_2, .ref w0, m_4, m_5, m_6, m_7, m_8, m_9, m_10, m_11, m_12, m_13, m_14, m_15, m_16, m_17, m_18, m_19, m_20, m_21, m_22, m_23, m_24, m_25, m_26, m_27, m_28, m_29, m_30, m_31, m_32, m_33, m_34, m_35, m_36, m_37, m_38, m_39, m_40, m_41, m_42, m_43, m_44, m_45, m_46, .ref mo, .ref pl, m_49, m_50, m_51, m_52, m_53, m_54, m_55, m_56, m_57, m_58, m_59])), (w0, .inl (K 0, 5500, .inl fw)), (pl, .inl (K 0, 8, .inl (u_3657.2.1 0))), (mo, .inl (K 0, 1152, .inl (u_3657.2.1 1)))] H) (hD : va_D A [(m0, .inr (12, [.int 0, m_1, m_2, .ref w0, m_4, m_5, m_6, m_7, m_8, m_9, m_10, m_11, m_12, m_13, m_14, m_15, m_16, m_17, m_18, m_19, m_20, m_21, m_22, m_23, m_24, m_25, m_26, m_27, m_28, m_29, m_30, m_31, m_32, m_33, m_34, m_35, m_36, m_37, m_38, m_39, m_40, m_41, m_42, m_43, m_44, m_45, m_46, .ref mo, .ref pl, m_49, m_50, m_51, m_52, m_53, m_54, m_55, m_56, m_57, m_58, m_59])), (w0, .inl (K 0, 5500, .inl fw)), (pl, .inl (K 0, 8, .inl (u_3657.2.1 0))), (mo, .inl (K 0, 1152, .inl (u_3657.2.1 1)))]) (hS : va_S A s.heap H locs) (ls : Array Slot) (hl : lv_has ls 7 [(5, .int v_3813), (4, .int v_3814), (3, .int r_3656), (0, .ref m0), (2, .int y)]), W p l e ({ frames := 4, cells := 0, slots := 0, locals := 93 }) s m (([.ref m0, .int x, .int y] : List Value).toArray) below meth c H locs 0 0 Q (F0 m 75 ls []) := by
            intro nn_
            induction nn_ with
            | zero =>
              intro v_3813 v_3814 hv_3813 hv_3814 hn H locs hP hD hS ls hl
              exact absurd hn (Nat.not_lt_zero _)
            | succ nn_ ih_3916 =>
              intro v_3813 v_3814 hv_3813 hv_3814 hn H locs hP hD hS ls hl
              refine lv_iload hx hb dX12_tune_75 (lv_at hl 0 rfl) ?_
              refine lv_iload_n hx hb dX12_tune_77 rfl (lv_at hl 2 rfl) ?_
              refine lv_icmp_ge (tgt := 148) hx hb dX12_tune_78 (by decide) (fun c_3917 => ?_) (fun c_3917 => ?_)
              · have c_3917i := i_le (x := r_3656.toInt) (y := v_3813.toInt) rfl rfl c_3917
                refine lv_iconst (v := (-1)) hx hb dX12_tune_148 (by decide) ?_
                rw [← hQ]
                have hP9 := hP.sub (ws' := [(m0, .inr (12, [.int 0, m_1, m_2, .ref w0, m_4, m_5, m_6, m_7, m_8, m_9, m_10, m_11, m_12, m_13, m_14, m_15, m_16, m_17, m_18, m_19, m_20, m_21, m_22, m_23, m_24, m_25, m_26, m_27, m_28, m_29, m_30, m_31, m_32, m_33, m_34, m_35, m_36, m_37, m_38, m_39, m_40, m_41, m_42, m_43, m_44, m_45, m_46, .ref mo, .ref pl, m_49, m_50, m_51, m_52, m_53, m_54, m_55, m_56, m_57, m_58, m_59])), (w0, .inl (K 0, 5500, .inl fw)), (pl, .inl (K 0, 8, .inl (u_3657.2.1 0))), (mo, .inl (K 0, 1152, .inl (u_3657.2.1 1)))]) [0, 1, 2, 3] rfl
                have hD9 := hD.sub (ws' := [(m0, .inr (12, [.int 0, m_1, m_2, .ref w0, m_4, m_5, m_6, m_7, m_8, m_9, m_10, m_11, m_12, m_13, m_14, m_15, m_16, m_17, m_18, m_19, m_20, m_21, m_22, m_23, m_24, m_25, m_26, m_27, m_28, m_29, m_30, m_31, m_32, m_33, m_34, m_35, m_36, m_37, m_38, m_39, m_40, m_41, m_42, m_43, m_44, m_45, m_46, .ref mo, .ref pl, m_49, m_50, m_51, m_52, m_53, m_54, m_55, m_56, m_57, m_58, m_59])), (w0, .inl (K 0, 5500, .inl fw)), (pl, .inl (K 0, 8, .inl (u_3657.2.1 0))), (mo, .inl (K 0, 1152, .inl (u_3657.2.1 1)))]) [0, 1, 2, 3] (by decide) rfl
                exact W.iret (v := (-1)) hx hb hr (fun t ht hW => ⟨⟨(-1), ((fun _ => 0, fun i => match i with | 0 => (u_3657.2.1 0) | _ => (u_3657.2.1 1), fun _ => fun _ => 0, fun _ => 0, fun _ => 0, fun _ => fun _ => none) : Su), rfl, ⟨(show (-1) ≤ ((-1) : Int32).toInt ∧ ((-1) : Int32).toInt ≤ 100000000 by decide), k_3658, k_3659, trivial⟩, (⟨by rw [ht]; exact hP9, hD9⟩ : Wd D A _ t)⟩, hS.F ht⟩) hS.2.2 dX12_tune_149
              · have c_3917i := i_nle (x := r_3656.toInt) (y := v_3813.toInt) rfl rfl c_3917
                refine lv_iconst (v := 0) hx hb dX12_tune_81 (by decide) ?_
                refine lv_istore (lv' := [(6, .int 0), (5, .int v_3813), (4, .int v_3814), (3, .int r_3656), (0, .ref m0), (2, .int y)]) hx hb dX12_tune_82 hl (by decide) rfl (fun ls hl => ?_)
                have lp_3951 : ∀ (nn_ : Nat) (v_3937 : Int32) (hv_3937 : 0 ≤ v_3937.toInt ∧ v_3937.toInt ≤ 6) (hr0_lp_3951 : WTu fw (u_3657.2.1 0) (u_3657.2.1 1) v_3813.toInt v_3814.toInt v_3937.toInt) (hn : (7 - v_3937.toInt : Int).toNat < nn_) (H : Heap) (locs : List Loc) (hP : va_P D vwCl [(m0, .inr (12, [.int 0, m_1, m_2, .ref w0, m_4, m_5, m_6, m_7, m_8, m_9, m_10, m_11, m_12, m_13, m_14, m_15, m_16, m_17, m_18, m_19, m_20, m_21, m_22, m_23, m_24, m_25, m_26, m_27, m_28, m_29, m_30, m_31, m_32, m_33, m_34, m_35, m_36, m_37, m_38, m_39, m_40, m_41, m_42, m_43, m_44, m_45, m_46, .ref mo, .ref pl, m_49, m_50, m_51, m_52, m_53, m_54, m_55, m_56, m_57, m_58, m_59])), (w0, .inl (K 0, 5500, .inl fw)), (pl, .inl (K 0, 8, .inl (u_3657.2.1 0))), (mo, .inl (K 0, 1152, .inl (u_3657.2.1 1)))] H) (hD : va_D A [(m0, .inr (12, [.int 0, m_1, m_2, .ref w0, m_4, m_5, m_6, m_7, m_8, m_9, m_10, m_11, m_12, m_13, m_14, m_15, m_16, m_17, m_18, m_19, m_20, m_21, m_22, m_23, m_24, m_25, m_26, m_27, m_28, m_29, m_30, m_31, m_32, m_33, m_34, m_35, m_36, m_37, m_38, m_39, m_40, m_41, m_42, m_43, m_44, m_45, m_46, .ref mo, .ref pl, m_49, m_50, m_51, m_52, m_53, m_54, m_55, m_56, m_57, m_58, m_59])), (w0, .inl (K 0, 5500, .inl fw)), (pl, .inl (K 0, 8, .inl (u_3657.2.1 0))), (mo, .inl (K 0, 1152, .inl (u_3657.2.1 1)))]) (hS : va_S A s.heap H locs) (ls : Array Slot) (hl : lv_has ls 7 [(6, .int v_3937), (5, .int v_3813), (4, .int v_3814), (3, .int r_3656), (0, .ref m0), (2, .int y)]), W p l e ({ frames := 4, cells := 0, slots := 0, locals := 93 }) s m (([.ref m0, .int x, .int y] : List Value).toArray) below meth c H locs 0 0 Q (F0 m 84 ls []) := by
                  intro nn_
                  induction nn_ with
                  | zero =>
                    intro v_3937 hv_3937 hr0_lp_3951 hn H locs hP hD hS ls hl
                    exact absurd hn (Nat.not_lt_zero _)
                  | succ nn_ ih_3952 =>
                    intro v_3937 hv_3937 hr0_lp_3951 hn H locs hP hD hS ls hl
                    refine lv_aload_n hx hb dX12_tune_84 rfl (lv_at hl 4 rfl) ?_
                    refine lv_iload hx hb dX12_tune_85 (lv_at hl 1 rfl) ?_
                    refine lv_iload hx hb dX12_tune_87 (lv_at hl 2 rfl) ?_
                    refine lv_iload hx hb dX12_tune_89 (lv_at hl 0 rfl) ?_
                    refine pci (va_runV (As := [.int v_3813, .int v_3814, .int v_3937]) (rest := []) ⟨hx, hb, hml, hown, hts⟩ (v_movedBy l D K m0 v_3813 v_3814 v_3937 (.int 0) m_1 m_2 w0 m_4 m_5 m_6 m_7 m_8 m_9 m_10 m_11 m_12 m_13 m_14 m_15 m_16 m_17 m_18 m_19 m_20 m_21 m_22 m_23 m_24 m_25 m_26 m_27 m_28 m_29 m_30 m_31 m_32 m_33 m_34 m_35 m_36 m_37 m_38 m_39 m_40 m_41 m_42 m_43 m_44 m_45 m_46 mo pl m_49 m_50 m_51 m_52 m_53 m_54 m_55 m_56 m_57 m_58 m_59 fw (u_3657.2.1 0) (u_3657.2.1 1) H.size (by first | omega | decide) (by first | omega | decide) (by first | omega | decide) zfw k_3658 k_3659) (cwV 3 hts gX12_tune_X12_movedBy rfl rfl rfl (by decide +kernel) ⟨Nat.le_of_ble_eq_true rfl, Nat.le_of_ble_eq_true rfl⟩) (mkV hK hN (hP.sub [0, 1, 2, 3] rfl) (hD.sub [0, 1, 2, 3] (by decide) rfl) (ci := 12) (q0 := 0) rfl rfl) rfl rfl hl.1 rfl (lv_room (Nat.le_of_ble_eq_true rfl)) dX12_tune_91 ⟨Nat.le_of_ble_eq_true rfl, Nat.le_of_ble_eq_true rfl⟩) (fun r_3953 hw => ?_)
                    obtain ⟨⟨hmb_r_3953, hmr_r_3953⟩, -⟩ := hw
                    refine lv_aload_n hx hb dX12_tune_94 rfl (lv_at hl 4 rfl) ?_
                    refine va_get (ci := 12) (v := .ref mo) (C := RX12) (T := TX12) (N := 60) hx hb hts hw12 hown hK hP 0 rfl rfl 47 (by decide) (hts (.fieldLink RX12 126 "SmokeTuneModel" "moved" "[I") (List.mem_cons_of_mem _ (List.mem_append_left _ (List.mem_append_left _ (List.mem_of_getElem? (i := 3) rfl))))) (fun _ h9 => h9) rfl dX12_tune_95 ?_
                    refine lv_sipush (v := 128) hx hb dX12_tune_98 (by decide) ?_
                    refine lv_iload hx hb dX12_tune_101 (lv_at hl 1 rfl) ?_
                    refine lv_imul hx hb dX12_tune_103 ?_
                    refine lv_topi (fun x_3954 ex_3954 => ?_)
                    have hx_3954 : x_3954.toInt = (128 * v_3813.toInt) := by rw [ex_3954]; exact i_mul (show (128 : Int32).toInt = 128 from rfl) rfl (by omega)
                    refine lv_iload hx hb dX12_tune_104 (lv_at hl 2 rfl) ?_
                    refine lv_iadd hx hb dX12_tune_106 ?_
                    refine lv_topi (fun x_3955 ex_3955 => ?_)
                    have hx_3955 : x_3955.toInt = ((128 * v_3813.toInt) + v_3814.toInt) := by rw [ex_3955]; exact i_add hx_3954 rfl (by omega)
                    refine va_iald hx hb hK hP 3 0 rfl rfl (i_in hx_3955 (by omega)) dX12_tune_107 ?_
                    refine lv_topi (fun x_3956 ex_3956 => ?_)
                    have hx_3956 := Rg.at k_3659 hx_3955 (show 0 ≤ ((128 * v_3813.toInt) + v_3814.toInt) ∧ ((128 * v_3813.toInt) + v_3814.toInt) < _ by omega)
                    rw [← ex_3956] at hx_3956
                    have owx_3956 : x_3956.toInt = ((u_3657.2.1 1) (128 * v_3813.toInt + v_3814.toInt).toNat).toInt := by rw [ex_3956, i_clamp hx_3955]
                    refine lv_icmp_eq (tgt := 117) hx hb dX12_tune_108 (by decide) (fun c_3957 => ?_) (fun c_3957 => ?_)
                    · have c_3957i := i_eq (x := r_3953.toInt) (y := x_3956.toInt) rfl rfl c_3957
                      refine lv_aload_n hx hb dX12_tune_117 rfl (lv_at hl 4 rfl) ?_
                      refine va_get (ci := 12) (v := .ref pl) (C := RX12) (T := TX12) (N := 60) hx hb hts hw12 hown hK hP 0 rfl rfl 48 (by decide) (hts (.fieldLink RX12 129 "SmokeTuneModel" "players" "[I") (List.mem_cons_of_mem _ (List.mem_append_left _ (List.mem_append_left _ (List.mem_of_getElem? (i := 4) rfl))))) (fun _ h9 => h9) rfl dX12_tune_118 ?_
                      refine lv_iload hx hb dX12_tune_121 (lv_at hl 1 rfl) ?_
                      refine va_iald hx hb hK hP 2 0 rfl rfl (i_in rfl (by omega)) dX12_tune_123 ?_
                      refine lv_topi (fun x_3958 ex_3958 => ?_)
                      have hx_3958 := Rg.at k_3658 rfl (show 0 ≤ v_3813.toInt ∧ v_3813.toInt < _ by omega)
                      rw [← ex_3958] at hx_3958
                      refine lv_iload_n hx hb dX12_tune_124 rfl (lv_at hl 5 rfl) ?_
                      refine lv_iconst (v := 1) hx hb dX12_tune_125 (by decide) ?_
                      refine lv_isub hx hb dX12_tune_126 ?_
                      refine lv_topi (fun x_3959 ex_3959 => ?_)
                      have hx_3959 : x_3959.toInt = (y.toInt - 1) := by rw [ex_3959]; exact i_sub rfl (show (1 : Int32).toInt = 1 from rfl) (by omega)
                      refine lv_icmp_ne (tgt := 133) hx hb dX12_tune_127 (by decide) (fun c_3960 => ?_) (fun c_3960 => ?_)
                      · have c_3960i := i_ne (x := x_3958.toInt) (y := (y.toInt - 1)) rfl hx_3959 c_3960
                        refine lv_iload hx hb dX12_tune_133 (lv_at hl 2 rfl) ?_
                        refine lv_iconst (v := 1) hx hb dX12_tune_135 (by decide) ?_
                        refine lv_iload hx hb dX12_tune_136 (lv_at hl 0 rfl) ?_
                        refine lv_ishl hx hb dX12_tune_138 ?_
                        refine lv_topi (fun x_3961 ex_3961 => ?_)
                        have hx_3961 : 1 ≤ x_3961.toInt ∧ x_3961.toInt ≤ 64 := by rw [ex_3961]; exact i_shl1 rfl (n := 6) (by decide) (by omega)
                        refine lv_ior hx hb dX12_tune_139 ?_
                        refine lv_topi (fun x_3962 ex_3962 => ?_)
                        have hx_3962 : 0 ≤ x_3962.toInt ∧ x_3962.toInt < 128 := by rw [ex_3962]; exact i_or (k := 7) rfl rfl (by decide) (by omega) (by omega)
                        refine lv_istore (lv' := [(4, .int x_3962), (6, .int v_3937), (5, .int v_3813), (3, .int r_3656), (0, .ref m0), (2, .int y)]) hx hb dX12_tune_140 hl (by decide) rfl (fun ls hl => ?_)
                        obtain ⟨x_3963, ex_3963⟩ : ∃ y : Int32, y = v_3813 + Int32.ofInt 1 := ⟨_, rfl⟩
                        have hx_3963 : x_3963.toInt = (v_3813.toInt + 1) := by rw [ex_3963]; exact i_add rfl (show (Int32.ofInt 1).toInt = 1 from rfl) (by omega)
                        refine lv_iinc (v := x_3963) (lv' := [(5, .int x_3963), (4, .int x_3962), (6, .int v_3937), (3, .int r_3656), (0, .ref m0), (2, .int y)]) hx hb dX12_tune_142 hl (k := 2) rfl (by rw [ex_3963]) (by decide) rfl (fun ls hl => ?_)
                        refine lv_goto (tgt := 75) hx hb dX12_tune_145 (by decide) ?_
                        exact ih_3916 x_3963 x_3962 (by rw [hx_3963]; omega) (by omega) (by omega) _ _ hP hD hS ls (lv_sub hl [0, 1, 3, 4, 5] rfl)
                      · have c_3960i := i_eq (x := x_3958.toInt) (y := (y.toInt - 1)) rfl hx_3959 c_3960
                        refine lv_iload hx hb dX12_tune_130 (lv_at hl 0 rfl) ?_
                        rw [← hQ]
                        have hP9 := hP.sub (ws' := [(m0, .inr (12, [.int 0, m_1, m_2, .ref w0, m_4, m_5, m_6, m_7, m_8, m_9, m_10, m_11, m_12, m_13, m_14, m_15, m_16, m_17, m_18, m_19, m_20, m_21, m_22, m_23, m_24, m_25, m_26, m_27, m_28, m_29, m_30, m_31, m_32, m_33, m_34, m_35, m_36, m_37, m_38, m_39, m_40, m_41, m_42, m_43, m_44, m_45, m_46, .ref mo, .ref pl, m_49, m_50, m_51, m_52, m_53, m_54, m_55, m_56, m_57, m_58, m_59])), (w0, .inl (K 0, 5500, .inl fw)), (pl, .inl (K 0, 8, .inl (u_3657.2.1 0))), (mo, .inl (K 0, 1152, .inl (u_3657.2.1 1)))]) [0, 1, 2, 3] rfl
                        have hD9 := hD.sub (ws' := [(m0, .inr (12, [.int 0, m_1, m_2, .ref w0, m_4, m_5, m_6, m_7, m_8, m_9, m_10, m_11, m_12, m_13, m_14, m_15, m_16, m_17, m_18, m_19, m_20, m_21, m_22, m_23, m_24, m_25, m_26, m_27, m_28, m_29, m_30, m_31, m_32, m_33, m_34, m_35, m_36, m_37, m_38, m_39, m_40, m_41, m_42, m_43, m_44, m_45, m_46, .ref mo, .ref pl, m_49, m_50, m_51, m_52, m_53, m_54, m_55, m_56, m_57, m_58, m_59])), (w0, .inl (K 0, 5500, .inl fw)), (pl, .inl (K 0, 8, .inl (u_3657.2.1 0))), (mo, .inl (K 0, 1152, .inl (u_3657.2.1 1)))]) [0, 1, 2, 3] (by decide) rfl
                        exact W.iret (v := v_3937) hx hb hr (fun t ht hW => ⟨⟨v_3937, ((fun _ => 0, fun i => match i with | 0 => (u_3657.2.1 0) | _ => (u_3657.2.1 1), fun _ => fun _ => 0, fun _ => 0, fun _ => 0, fun _ => fun _ => none) : Su), rfl, ⟨(show (-1) ≤ v_3937.toInt ∧ v_3937.toInt ≤ 100000000 by omega), k_3658, k_3659, trivial⟩, (⟨by rw [ht]; exact hP9, hD9⟩ : Wd D A _ t)⟩, hS.F ht⟩) hS.2.2 dX12_tune_132
                    · have c_3957i := i_ne (x := r_3953.toInt) (y := x_3956.toInt) rfl rfl c_3957
                      obtain ⟨hwn1, hwn2⟩ := WTu.next hr0_lp_3951 hmb_r_3953 owx_3956 (by omega)
                      obtain ⟨x_3964, ex_3964⟩ : ∃ y : Int32, y = v_3937 + Int32.ofInt 1 := ⟨_, rfl⟩
                      have hx_3964 : x_3964.toInt = (v_3937.toInt + 1) := by rw [ex_3964]; exact i_add rfl (show (Int32.ofInt 1).toInt = 1 from rfl) (by omega)
                      refine lv_iinc (v := x_3964) (lv' := [(6, .int x_3964), (5, .int v_3813), (4, .int v_3814), (3, .int r_3656), (0, .ref m0), (2, .int y)]) hx hb dX12_tune_111 hl (k := 0) rfl (by rw [ex_3964]) (by decide) rfl (fun ls hl => ?_)
                      refine lv_goto (tgt := 84) hx hb dX12_tune_114 (by decide) ?_
                      exact ih_3952 x_3964 (by rw [hx_3964]; omega) (show WTu fw (u_3657.2.1 0) (u_3657.2.1 1) v_3813.toInt v_3814.toInt (x_3964 : Int32).toInt by rw [hx_3964]; exact hwn2) (by omega) _ _ hP hD hS ls (lv_sub hl [0, 1, 2, 3, 4, 5] rfl)
                have hz_3965 : (0 : Int32).toInt = 0 := rfl
                exact lp_3951 ((7 - (0 : Int32).toInt : Int).toNat + 1) 0 (by decide) (show WTu fw (u_3657.2.1 0) (u_3657.2.1 1) v_3813.toInt v_3814.toInt (0 : Int32).toInt by exact WTu.base k_3660 (by omega) (by omega)) (Nat.lt_succ_self _) _ _ hP hD hS ls (lv_sub hl [0, 1, 2, 3, 4, 5] rfl)
          exact lp_3915 ((9 - (0 : Int32).toInt : Int).toNat + 1) 0 0 (by decide) (by decide) (Nat.lt_succ_self _) _ _ hP hD hS ls (lv_sub hl [0, 1, 2, 3, 5] rfl)
        · have c_3662i := i_eq (x := y.toInt) (y := 0) rfl rfl c_3662
          refine lv_aload_n hx hb dX12_tune_62 rfl (lv_at hl 1 rfl) ?_
          refine va_get (ci := 12) (v := .ref mo) (C := RX12) (T := TX12) (N := 60) hx hb hts hw12 hown hK hP 0 rfl rfl 47 (by decide) (hts (.fieldLink RX12 126 "SmokeTuneModel" "moved" "[I") (List.mem_cons_of_mem _ (List.mem_append_left _ (List.mem_append_left _ (List.mem_of_getElem? (i := 3) rfl))))) (fun _ h9 => h9) rfl dX12_tune_63 ?_
          refine lv_iconst (v := 0) hx hb dX12_tune_66 (by decide) ?_
          refine va_iald hx hb hK hP 3 0 rfl rfl (i_in (x := 0) rfl (by omega)) dX12_tune_67 ?_
          refine lv_topi (fun x_3966 ex_3966 => ?_)
          have hx_3966 := Rg.at k_3659 (show (0 : Int32).toInt = 0 from rfl) (show 0 ≤ 0 ∧ 0 < _ by omega)
          rw [← ex_3966] at hx_3966
          rw [← hQ]
          have hP9 := hP.sub (ws' := [(m0, .inr (12, [.int 0, m_1, m_2, .ref w0, m_4, m_5, m_6, m_7, m_8, m_9, m_10, m_11, m_12, m_13, m_14, m_15, m_16, m_17, m_18, m_19, m_20, m_21, m_22, m_23, m_24, m_25, m_26, m_27, m_28, m_29, m_30, m_31, m_32, m_33, m_34, m_35, m_36, m_37, m_38, m_39, m_40, m_41, m_42, m_43, m_44, m_45, m_46, .ref mo, .ref pl, m_49, m_50, m_51, m_52, m_53, m_54, m_55, m_56, m_57, m_58, m_59])), (w0, .inl (K 0, 5500, .inl fw)), (pl, .inl (K 0, 8, .inl (u_3657.2.1 0))), (mo, .inl (K 0, 1152, .inl (u_3657.2.1 1)))]) [0, 1, 2, 3] rfl
          have hD9 := hD.sub (ws' := [(m0, .inr (12, [.int 0, m_1, m_2, .ref w0, m_4, m_5, m_6, m_7, m_8, m_9, m_10, m_11, m_12, m_13, m_14, m_15, m_16, m_17, m_18, m_19, m_20, m_21, m_22, m_23, m_24, m_25, m_26, m_27, m_28, m_29, m_30, m_31, m_32, m_33, m_34, m_35, m_36, m_37, m_38, m_39, m_40, m_41, m_42, m_43, m_44, m_45, m_46, .ref mo, .ref pl, m_49, m_50, m_51, m_52, m_53, m_54, m_55, m_56, m_57, m_58, m_59])), (w0, .inl (K 0, 5500, .inl fw)), (pl, .inl (K 0, 8, .inl (u_3657.2.1 0))), (mo, .inl (K 0, 1152, .inl (u_3657.2.1 1)))]) [0, 1, 2, 3] (by decide) rfl
          exact W.iret (v := x_3966) hx hb hr (fun t ht hW => ⟨⟨x_3966, ((fun _ => 0, fun i => match i with | 0 => (u_3657.2.1 0) | _ => (u_3657.2.1 1), fun _ => fun _ => 0, fun _ => 0, fun _ => 0, fun _ => fun _ => none) : Su), rfl, ⟨(show (-1) ≤ x_3966.toInt ∧ x_3966.toInt ≤ 100000000 by omega), k_3658, k_3659, trivial⟩, (⟨by rw [ht]; exact hP9, hD9⟩ : Wd D A _ t)⟩, hS.F ht⟩) hS.2.2 dX12_tune_68
      refine lv_if_le (tgt := 52) hx hb dX12_tune_22 (by decide) (fun c_3967 => ?_) (fun c_3967 => ?_)
      · have c_3967i := i_le (x := y.toInt) (y := 0) rfl rfl c_3967
        exact j_3655  (by omega) _ _ hP hD hS ls (lv_sub hl [0, 1, 2] rfl)
      · have c_3967i := i_nle (x := y.toInt) (y := 0) rfl rfl c_3967
        refine lv_aload_n hx hb dX12_tune_25 rfl (lv_at hl 0 rfl) ?_
        refine lv_iload_n hx hb dX12_tune_26 rfl (lv_at hl 2 rfl) ?_
        refine lv_iconst (v := 1) hx hb dX12_tune_27 (by decide) ?_
        refine lv_isub hx hb dX12_tune_28 ?_
        refine lv_topi (fun x_3968 ex_3968 => ?_)
        have hx_3968 : x_3968.toInt = (y.toInt - 1) := by rw [ex_3968]; exact i_sub rfl (show (1 : Int32).toInt = 1 from rfl) (by have q1 := i_rng (a := y) rfl; omega)
        refine pci (va_runV (As := [.int x_3968]) (rest := []) ⟨hx, hb, hml, hown, hts⟩ (v_isHouse l D K (y.toInt - 1) m0 x_3968 (.int 0) m_1 m_2 w0 m_4 m_5 m_6 m_7 m_8 m_9 m_10 m_11 m_12 m_13 m_14 m_15 m_16 m_17 m_18 m_19 m_20 m_21 m_22 m_23 m_24 m_25 m_26 m_27 m_28 m_29 m_30 m_31 m_32 m_33 m_34 m_35 m_36 m_37 m_38 m_39 m_40 m_41 m_42 m_43 m_44 m_45 m_46 (.ref mo) (.ref pl) m_49 m_50 m_51 m_52 m_53 m_54 m_55 m_56 m_57 m_58 m_59 fw H.size hx_3968 zfw) (cwV 1 hts gX12_tune_X12_isHouse rfl rfl rfl (by decide +kernel) ⟨Nat.le_of_ble_eq_true rfl, Nat.le_of_ble_eq_true rfl⟩) (mkV hK hN (hP.sub [0, 1] rfl) (hD.sub [0, 1] (by decide) rfl) (ci := 12) (q0 := 0) rfl rfl) rfl rfl hl.1 rfl (lv_room (Nat.le_of_ble_eq_true rfl)) dX12_tune_29 ⟨Nat.le_of_ble_eq_true rfl, Nat.le_of_ble_eq_true rfl⟩) (fun r_3969 hw => ?_)
        obtain ⟨hw, -⟩ := hw
        rcases hw with ⟨rfl, h_3970, h_3971⟩ | rfl
        · refine lv_if_eq (tgt := 50) hx hb dX12_tune_32 (by decide) (fun c_3972 => absurd c_3972 (by decide)) (fun c_3972 => ?_)
          refine lv_aload_n hx hb dX12_tune_35 rfl (lv_at hl 0 rfl) ?_
          refine va_get (ci := 12) (v := .ref w0) (C := RX12) (T := TX12) (N := 60) hx hb hts hw12 hown hK hP 0 rfl rfl 3 (by decide) (hts (.fieldLink RX12 13 "SmokeTuneModel" "row" "[I") (List.mem_cons_of_mem _ (List.mem_append_left _ (List.mem_append_left _ (List.mem_of_getElem? (i := 2) rfl))))) (fun _ h9 => h9) rfl dX12_tune_36 ?_
          refine lv_bipush (v := 43) hx hb dX12_tune_39 (by decide) ?_
          refine lv_iload_n hx hb dX12_tune_41 rfl (lv_at hl 2 rfl) ?_
          refine lv_iadd hx hb dX12_tune_42 ?_
          refine lv_topi (fun x_3973 ex_3973 => ?_)
          have hx_3973 : x_3973.toInt = (43 + y.toInt) := by rw [ex_3973]; exact i_add (show (43 : Int32).toInt = 43 from rfl) rfl (by omega)
          refine lv_iconst (v := 1) hx hb dX12_tune_43 (by decide) ?_
          refine lv_isub hx hb dX12_tune_44 ?_
          refine lv_topi (fun x_3974 ex_3974 => ?_)
          have hx_3974 : x_3974.toInt = ((43 + y.toInt) - 1) := by rw [ex_3974]; exact i_sub hx_3973 (show (1 : Int32).toInt = 1 from rfl) (by omega)
          refine va_iald hx hb hK hP 1 0 rfl rfl (i_in hx_3974 (by omega)) dX12_tune_45 ?_
          refine lv_topi (fun x_3975 ex_3975 => ?_)
          have px_3975 := RwOK.at zfw hx_3974 (show 0 ≤ ((43 + y.toInt) - 1) ∧ ((43 + y.toInt) - 1) < 100 by omega)
          rw [← ex_3975] at px_3975
          refine lv_iload_n hx hb dX12_tune_46 rfl (lv_at hl 1 rfl) ?_
          refine lv_icmp_eq (tgt := 52) hx hb dX12_tune_47 (by decide) (fun c_3976 => ?_) (fun c_3976 => ?_)
          · have c_3976i := i_eq (x := x_3975.toInt) (y := x.toInt) rfl rfl c_3976
            exact j_3655  (by omega) _ _ hP hD hS ls (lv_sub hl [0, 1, 2] rfl)
          · have c_3976i := i_ne (x := x_3975.toInt) (y := x.toInt) rfl rfl c_3976
            exact j_3326   _ _ hP hD hS ls (lv_sub hl [] rfl)
        · refine lv_if_eq (tgt := 50) hx hb dX12_tune_32 (by decide) (fun c_3977 => ?_) (fun c_3977 => absurd (by decide) c_3977)
          exact j_3326   _ _ hP hD hS ls (lv_sub hl [] rfl)
  · refine lv_if_eq (tgt := 50) hx hb dX12_tune_14 (by decide) (fun c_3978 => ?_) (fun c_3978 => absurd (by decide) c_3978)
    exact j_3326   _ _ hP hD hS ls (lv_sub hl [] rfl)
