theorem dX12_layTunes_0 : decode cX12_layTunes 0 = .ok (.iconst 0, 1) := by decide +kernel
theorem dX12_layTunes_1 : decode cX12_layTunes 1 = .ok (.istore_n 2, 1) := by decide +kernel
theorem dX12_layTunes_2 : decode cX12_layTunes 2 = .ok (.iconst 0, 1) := by decide +kernel
theorem dX12_layTunes_3 : decode cX12_layTunes 3 = .ok (.istore_n 3, 1) := by decide +kernel
theorem dX12_layTunes_4 : decode cX12_layTunes 4 = .ok (.iload_n 3, 1) := by decide +kernel
theorem dX12_layTunes_5 : decode cX12_layTunes 5 = .ok (.aload_n 0, 1) := by decide +kernel
theorem dX12_layTunes_6 : decode cX12_layTunes 6 = .ok (.getfield 13, 3) := by decide +kernel
theorem dX12_layTunes_9 : decode cX12_layTunes 9 = .ok (.iconst 0, 1) := by decide +kernel
theorem dX12_layTunes_10 : decode cX12_layTunes 10 = .ok (.iaload, 1) := by decide +kernel
theorem dX12_layTunes_11 : decode cX12_layTunes 11 = .ok (.if_icmp .ge 32, 3) := by decide +kernel
theorem dX12_layTunes_14 : decode cX12_layTunes 14 = .ok (.aload_n 0, 1) := by decide +kernel
theorem dX12_layTunes_15 : decode cX12_layTunes 15 = .ok (.getfield 13, 3) := by decide +kernel
theorem dX12_layTunes_18 : decode cX12_layTunes 18 = .ok (.bipush 43, 2) := by decide +kernel
theorem dX12_layTunes_20 : decode cX12_layTunes 20 = .ok (.iload_n 3, 1) := by decide +kernel
theorem dX12_layTunes_21 : decode cX12_layTunes 21 = .ok (.iadd, 1) := by decide +kernel
theorem dX12_layTunes_22 : decode cX12_layTunes 22 = .ok (.iaload, 1) := by decide +kernel
theorem dX12_layTunes_23 : decode cX12_layTunes 23 = .ok (.iload_n 1, 1) := by decide +kernel
theorem dX12_layTunes_24 : decode cX12_layTunes 24 = .ok (.if_icmp .ne 13, 3) := by decide +kernel
theorem dX12_layTunes_37 : decode cX12_layTunes 37 = .ok (.iinc 3 1, 3) := by decide +kernel
theorem dX12_layTunes_40 : decode cX12_layTunes 40 = .ok (.goto (-36), 3) := by decide +kernel
theorem dX12_layTunes_27 : decode cX12_layTunes 27 = .ok (.aload_n 0, 1) := by decide +kernel
theorem dX12_layTunes_28 : decode cX12_layTunes 28 = .ok (.getfield 129, 3) := by decide +kernel
theorem dX12_layTunes_31 : decode cX12_layTunes 31 = .ok (.iload_n 2, 1) := by decide +kernel
theorem dX12_layTunes_32 : decode cX12_layTunes 32 = .ok (.iload_n 3, 1) := by decide +kernel
theorem dX12_layTunes_33 : decode cX12_layTunes 33 = .ok (.iastore, 1) := by decide +kernel
theorem dX12_layTunes_34 : decode cX12_layTunes 34 = .ok (.iinc 2 1, 3) := by decide +kernel
theorem dX12_layTunes_43 : decode cX12_layTunes 43 = .ok (.iconst 0, 1) := by decide +kernel
theorem dX12_layTunes_44 : decode cX12_layTunes 44 = .ok (.istore_n 3, 1) := by decide +kernel
theorem dX12_layTunes_45 : decode cX12_layTunes 45 = .ok (.iload_n 3, 1) := by decide +kernel
theorem dX12_layTunes_46 : decode cX12_layTunes 46 = .ok (.sipush 128, 3) := by decide +kernel
theorem dX12_layTunes_49 : decode cX12_layTunes 49 = .ok (.if_icmp .ge 22, 3) := by decide +kernel
theorem dX12_layTunes_52 : decode cX12_layTunes 52 = .ok (.aload_n 0, 1) := by decide +kernel
theorem dX12_layTunes_53 : decode cX12_layTunes 53 = .ok (.getfield 126, 3) := by decide +kernel
theorem dX12_layTunes_56 : decode cX12_layTunes 56 = .ok (.sipush 128, 3) := by decide +kernel
theorem dX12_layTunes_59 : decode cX12_layTunes 59 = .ok (.iload_n 2, 1) := by decide +kernel
theorem dX12_layTunes_60 : decode cX12_layTunes 60 = .ok (.imul, 1) := by decide +kernel
theorem dX12_layTunes_61 : decode cX12_layTunes 61 = .ok (.iload_n 3, 1) := by decide +kernel
theorem dX12_layTunes_62 : decode cX12_layTunes 62 = .ok (.iadd, 1) := by decide +kernel
theorem dX12_layTunes_63 : decode cX12_layTunes 63 = .ok (.iconst 0, 1) := by decide +kernel
theorem dX12_layTunes_64 : decode cX12_layTunes 64 = .ok (.iastore, 1) := by decide +kernel
theorem dX12_layTunes_65 : decode cX12_layTunes 65 = .ok (.iinc 3 1, 3) := by decide +kernel
theorem dX12_layTunes_68 : decode cX12_layTunes 68 = .ok (.goto (-23), 3) := by decide +kernel
theorem dX12_layTunes_71 : decode cX12_layTunes 71 = .ok (.iload_n 2, 1) := by decide +kernel
theorem dX12_layTunes_72 : decode cX12_layTunes 72 = .ok (.iconst 1, 1) := by decide +kernel
theorem dX12_layTunes_73 : decode cX12_layTunes 73 = .ok (.isub, 1) := by decide +kernel
theorem dX12_layTunes_74 : decode cX12_layTunes 74 = .ok (.istore_n 3, 1) := by decide +kernel
theorem dX12_layTunes_75 : decode cX12_layTunes 75 = .ok (.iload_n 3, 1) := by decide +kernel
theorem dX12_layTunes_76 : decode cX12_layTunes 76 = .ok (.ifCond .lt 89, 3) := by decide +kernel
theorem dX12_layTunes_79 : decode cX12_layTunes 79 = .ok (.iconst 0, 1) := by decide +kernel
theorem dX12_layTunes_80 : decode cX12_layTunes 80 = .ok (.istore 4, 2) := by decide +kernel
theorem dX12_layTunes_82 : decode cX12_layTunes 82 = .ok (.iload 4, 2) := by decide +kernel
theorem dX12_layTunes_84 : decode cX12_layTunes 84 = .ok (.sipush 128, 3) := by decide +kernel
theorem dX12_layTunes_87 : decode cX12_layTunes 87 = .ok (.if_icmp .ge 72, 3) := by decide +kernel
theorem dX12_layTunes_90 : decode cX12_layTunes 90 = .ok (.ldc_w 476, 3) := by decide +kernel
theorem dX12_layTunes_93 : decode cX12_layTunes 93 = .ok (.istore 5, 2) := by decide +kernel
theorem dX12_layTunes_95 : decode cX12_layTunes 95 = .ok (.iconst 0, 1) := by decide +kernel
theorem dX12_layTunes_96 : decode cX12_layTunes 96 = .ok (.istore 6, 2) := by decide +kernel
theorem dX12_layTunes_98 : decode cX12_layTunes 98 = .ok (.iload 6, 2) := by decide +kernel
theorem dX12_layTunes_100 : decode cX12_layTunes 100 = .ok (.bipush 7, 2) := by decide +kernel
theorem dX12_layTunes_102 : decode cX12_layTunes 102 = .ok (.if_icmp .ge 36, 3) := by decide +kernel
theorem dX12_layTunes_105 : decode cX12_layTunes 105 = .ok (.aload_n 0, 1) := by decide +kernel
theorem dX12_layTunes_106 : decode cX12_layTunes 106 = .ok (.iload_n 3, 1) := by decide +kernel
theorem dX12_layTunes_107 : decode cX12_layTunes 107 = .ok (.iload 4, 2) := by decide +kernel
theorem dX12_layTunes_109 : decode cX12_layTunes 109 = .ok (.iload 6, 2) := by decide +kernel
theorem dX12_layTunes_111 : decode cX12_layTunes 111 = .ok (.invokevirtual 509, 3) := by decide +kernel
theorem dX12_layTunes_114 : decode cX12_layTunes 114 = .ok (.istore 7, 2) := by decide +kernel
theorem dX12_layTunes_116 : decode cX12_layTunes 116 = .ok (.iload 7, 2) := by decide +kernel
theorem dX12_layTunes_118 : decode cX12_layTunes 118 = .ok (.iload 5, 2) := by decide +kernel
theorem dX12_layTunes_120 : decode cX12_layTunes 120 = .ok (.if_icmp .ge 8, 3) := by decide +kernel
theorem dX12_layTunes_128 : decode cX12_layTunes 128 = .ok (.iload 5, 2) := by decide +kernel
theorem dX12_layTunes_130 : decode cX12_layTunes 130 = .ok (.istore 5, 2) := by decide +kernel
theorem dX12_layTunes_132 : decode cX12_layTunes 132 = .ok (.iinc 6 1, 3) := by decide +kernel
theorem dX12_layTunes_135 : decode cX12_layTunes 135 = .ok (.goto (-37), 3) := by decide +kernel
theorem dX12_layTunes_123 : decode cX12_layTunes 123 = .ok (.iload 7, 2) := by decide +kernel
theorem dX12_layTunes_125 : decode cX12_layTunes 125 = .ok (.goto 5, 3) := by decide +kernel
theorem dX12_layTunes_138 : decode cX12_layTunes 138 = .ok (.aload_n 0, 1) := by decide +kernel
theorem dX12_layTunes_139 : decode cX12_layTunes 139 = .ok (.getfield 126, 3) := by decide +kernel
theorem dX12_layTunes_142 : decode cX12_layTunes 142 = .ok (.sipush 128, 3) := by decide +kernel
theorem dX12_layTunes_145 : decode cX12_layTunes 145 = .ok (.iload_n 3, 1) := by decide +kernel
theorem dX12_layTunes_146 : decode cX12_layTunes 146 = .ok (.imul, 1) := by decide +kernel
theorem dX12_layTunes_147 : decode cX12_layTunes 147 = .ok (.iload 4, 2) := by decide +kernel
theorem dX12_layTunes_149 : decode cX12_layTunes 149 = .ok (.iadd, 1) := by decide +kernel
theorem dX12_layTunes_150 : decode cX12_layTunes 150 = .ok (.iload 5, 2) := by decide +kernel
theorem dX12_layTunes_152 : decode cX12_layTunes 152 = .ok (.iastore, 1) := by decide +kernel
theorem dX12_layTunes_153 : decode cX12_layTunes 153 = .ok (.iinc 4 1, 3) := by decide +kernel
theorem dX12_layTunes_156 : decode cX12_layTunes 156 = .ok (.goto (-74), 3) := by decide +kernel
theorem dX12_layTunes_159 : decode cX12_layTunes 159 = .ok (.iinc 3 (-1), 3) := by decide +kernel
theorem dX12_layTunes_162 : decode cX12_layTunes 162 = .ok (.goto (-87), 3) := by decide +kernel
theorem dX12_layTunes_165 : decode cX12_layTunes 165 = .ok (.iload_n 2, 1) := by decide +kernel
theorem dX12_layTunes_166 : decode cX12_layTunes 166 = .ok (.ireturn, 1) := by decide +kernel
theorem dX12_tune_0 : decode cX12_tune 0 = .ok (.aload_n 0, 1) := by decide +kernel
theorem dX12_tune_1 : decode cX12_tune 1 = .ok (.iconst 0, 1) := by decide +kernel
theorem dX12_tune_2 : decode cX12_tune 2 = .ok (.putfield 158, 3) := by decide +kernel
theorem dX12_tune_5 : decode cX12_tune 5 = .ok (.iload_n 1, 1) := by decide +kernel
theorem dX12_tune_6 : decode cX12_tune 6 = .ok (.i2l, 1) := by decide +kernel
theorem dX12_tune_7 : decode cX12_tune 7 = .ok (.lconst 0, 1) := by decide +kernel
theorem dX12_tune_8 : decode cX12_tune 8 = .ok (.ldc2_w 191, 3) := by decide +kernel
theorem dX12_tune_11 : decode cX12_tune 11 = .ok (.invokestatic 178, 3) := by decide +kernel
theorem dX12_tune_14 : decode cX12_tune 14 = .ok (.ifCond .eq 36, 3) := by decide +kernel
theorem dX12_tune_17 : decode cX12_tune 17 = .ok (.iload_n 2, 1) := by decide +kernel
theorem dX12_tune_18 : decode cX12_tune 18 = .ok (.ifCond .lt 32, 3) := by decide +kernel
theorem dX12_tune_21 : decode cX12_tune 21 = .ok (.iload_n 2, 1) := by decide +kernel
theorem dX12_tune_22 : decode cX12_tune 22 = .ok (.ifCond .le 30, 3) := by decide +kernel
theorem dX12_tune_25 : decode cX12_tune 25 = .ok (.aload_n 0, 1) := by decide +kernel
theorem dX12_tune_26 : decode cX12_tune 26 = .ok (.iload_n 2, 1) := by decide +kernel
theorem dX12_tune_27 : decode cX12_tune 27 = .ok (.iconst 1, 1) := by decide +kernel
theorem dX12_tune_28 : decode cX12_tune 28 = .ok (.isub, 1) := by decide +kernel
theorem dX12_tune_29 : decode cX12_tune 29 = .ok (.invokevirtual 197, 3) := by decide +kernel
theorem dX12_tune_32 : decode cX12_tune 32 = .ok (.ifCond .eq 18, 3) := by decide +kernel
theorem dX12_tune_35 : decode cX12_tune 35 = .ok (.aload_n 0, 1) := by decide +kernel
theorem dX12_tune_36 : decode cX12_tune 36 = .ok (.getfield 13, 3) := by decide +kernel
theorem dX12_tune_39 : decode cX12_tune 39 = .ok (.bipush 43, 2) := by decide +kernel
theorem dX12_tune_41 : decode cX12_tune 41 = .ok (.iload_n 2, 1) := by decide +kernel
theorem dX12_tune_42 : decode cX12_tune 42 = .ok (.iadd, 1) := by decide +kernel
theorem dX12_tune_43 : decode cX12_tune 43 = .ok (.iconst 1, 1) := by decide +kernel
theorem dX12_tune_44 : decode cX12_tune 44 = .ok (.isub, 1) := by decide +kernel
theorem dX12_tune_45 : decode cX12_tune 45 = .ok (.iaload, 1) := by decide +kernel
theorem dX12_tune_46 : decode cX12_tune 46 = .ok (.iload_n 1, 1) := by decide +kernel
theorem dX12_tune_47 : decode cX12_tune 47 = .ok (.if_icmp .eq 5, 3) := by decide +kernel
theorem dX12_tune_52 : decode cX12_tune 52 = .ok (.aload_n 0, 1) := by decide +kernel
theorem dX12_tune_53 : decode cX12_tune 53 = .ok (.iload_n 1, 1) := by decide +kernel
theorem dX12_tune_54 : decode cX12_tune 54 = .ok (.invokevirtual 512, 3) := by decide +kernel
theorem dX12_tune_57 : decode cX12_tune 57 = .ok (.istore_n 3, 1) := by decide +kernel
theorem dX12_tune_58 : decode cX12_tune 58 = .ok (.iload_n 2, 1) := by decide +kernel
theorem dX12_tune_59 : decode cX12_tune 59 = .ok (.ifCond .ne 10, 3) := by decide +kernel
theorem dX12_tune_69 : decode cX12_tune 69 = .ok (.iconst 0, 1) := by decide +kernel
theorem dX12_tune_70 : decode cX12_tune 70 = .ok (.istore 4, 2) := by decide +kernel
theorem dX12_tune_72 : decode cX12_tune 72 = .ok (.iconst 0, 1) := by decide +kernel
theorem dX12_tune_73 : decode cX12_tune 73 = .ok (.istore 5, 2) := by decide +kernel
theorem dX12_tune_75 : decode cX12_tune 75 = .ok (.iload 5, 2) := by decide +kernel
theorem dX12_tune_77 : decode cX12_tune 77 = .ok (.iload_n 3, 1) := by decide +kernel
theorem dX12_tune_78 : decode cX12_tune 78 = .ok (.if_icmp .ge 70, 3) := by decide +kernel
theorem dX12_tune_81 : decode cX12_tune 81 = .ok (.iconst 0, 1) := by decide +kernel
theorem dX12_tune_82 : decode cX12_tune 82 = .ok (.istore 6, 2) := by decide +kernel
theorem dX12_tune_84 : decode cX12_tune 84 = .ok (.aload_n 0, 1) := by decide +kernel
theorem dX12_tune_85 : decode cX12_tune 85 = .ok (.iload 5, 2) := by decide +kernel
theorem dX12_tune_87 : decode cX12_tune 87 = .ok (.iload 4, 2) := by decide +kernel
theorem dX12_tune_89 : decode cX12_tune 89 = .ok (.iload 6, 2) := by decide +kernel
theorem dX12_tune_91 : decode cX12_tune 91 = .ok (.invokevirtual 509, 3) := by decide +kernel
theorem dX12_tune_94 : decode cX12_tune 94 = .ok (.aload_n 0, 1) := by decide +kernel
theorem dX12_tune_95 : decode cX12_tune 95 = .ok (.getfield 126, 3) := by decide +kernel
theorem dX12_tune_98 : decode cX12_tune 98 = .ok (.sipush 128, 3) := by decide +kernel
theorem dX12_tune_101 : decode cX12_tune 101 = .ok (.iload 5, 2) := by decide +kernel
theorem dX12_tune_103 : decode cX12_tune 103 = .ok (.imul, 1) := by decide +kernel
theorem dX12_tune_104 : decode cX12_tune 104 = .ok (.iload 4, 2) := by decide +kernel
theorem dX12_tune_106 : decode cX12_tune 106 = .ok (.iadd, 1) := by decide +kernel
theorem dX12_tune_107 : decode cX12_tune 107 = .ok (.iaload, 1) := by decide +kernel
theorem dX12_tune_108 : decode cX12_tune 108 = .ok (.if_icmp .eq 9, 3) := by decide +kernel
theorem dX12_tune_111 : decode cX12_tune 111 = .ok (.iinc 6 1, 3) := by decide +kernel
theorem dX12_tune_114 : decode cX12_tune 114 = .ok (.goto (-30), 3) := by decide +kernel
theorem dX12_tune_117 : decode cX12_tune 117 = .ok (.aload_n 0, 1) := by decide +kernel
theorem dX12_tune_118 : decode cX12_tune 118 = .ok (.getfield 129, 3) := by decide +kernel
theorem dX12_tune_121 : decode cX12_tune 121 = .ok (.iload 5, 2) := by decide +kernel
theorem dX12_tune_123 : decode cX12_tune 123 = .ok (.iaload, 1) := by decide +kernel
theorem dX12_tune_124 : decode cX12_tune 124 = .ok (.iload_n 2, 1) := by decide +kernel
theorem dX12_tune_125 : decode cX12_tune 125 = .ok (.iconst 1, 1) := by decide +kernel
theorem dX12_tune_126 : decode cX12_tune 126 = .ok (.isub, 1) := by decide +kernel
theorem dX12_tune_127 : decode cX12_tune 127 = .ok (.if_icmp .ne 6, 3) := by decide +kernel
theorem dX12_tune_133 : decode cX12_tune 133 = .ok (.iload 4, 2) := by decide +kernel
theorem dX12_tune_135 : decode cX12_tune 135 = .ok (.iconst 1, 1) := by decide +kernel
theorem dX12_tune_136 : decode cX12_tune 136 = .ok (.iload 6, 2) := by decide +kernel
theorem dX12_tune_138 : decode cX12_tune 138 = .ok (.ishl, 1) := by decide +kernel
theorem dX12_tune_139 : decode cX12_tune 139 = .ok (.ior, 1) := by decide +kernel
theorem dX12_tune_140 : decode cX12_tune 140 = .ok (.istore 4, 2) := by decide +kernel
theorem dX12_tune_142 : decode cX12_tune 142 = .ok (.iinc 5 1, 3) := by decide +kernel
theorem dX12_tune_145 : decode cX12_tune 145 = .ok (.goto (-70), 3) := by decide +kernel
theorem dX12_tune_148 : decode cX12_tune 148 = .ok (.iconst (-1), 1) := by decide +kernel
theorem dX12_tune_149 : decode cX12_tune 149 = .ok (.ireturn, 1) := by decide +kernel
theorem dX12_tune_130 : decode cX12_tune 130 = .ok (.iload 6, 2) := by decide +kernel
theorem dX12_tune_132 : decode cX12_tune 132 = .ok (.ireturn, 1) := by decide +kernel
theorem dX12_tune_62 : decode cX12_tune 62 = .ok (.aload_n 0, 1) := by decide +kernel
theorem dX12_tune_63 : decode cX12_tune 63 = .ok (.getfield 126, 3) := by decide +kernel
theorem dX12_tune_66 : decode cX12_tune 66 = .ok (.iconst 0, 1) := by decide +kernel
theorem dX12_tune_67 : decode cX12_tune 67 = .ok (.iaload, 1) := by decide +kernel
theorem dX12_tune_68 : decode cX12_tune 68 = .ok (.ireturn, 1) := by decide +kernel
theorem dX12_tune_50 : decode cX12_tune 50 = .ok (.iconst (-1), 1) := by decide +kernel
theorem dX12_tune_51 : decode cX12_tune 51 = .ok (.ireturn, 1) := by decide +kernel
set_option maxRecDepth 100000 in
set_option maxHeartbeats 4000000 in
theorem ggX12_layTunes_X12_movedBy : GoodIn wsX12_layTunes wsX12_movedBy := goodIn_q _ [9, 12, 15, 18, 21] [4, 1, 2, 3, 10, 11, 8, 13, 14, 16, 17, 19, 20, 22, 23, 24, 25, 26, 27, 28, 29, 30, 31, 32, 33, 34, 35, 36, 37, 38, 39, 40, 41, 42, 43, 44, 45, 46, 47, 48, 49, 50, 51, 52, 53, 54, 55, 56, 57, 58, 59, 60, 61, 62, 63, 64, 65, 66, 67, 68, 69, 70, 71, 72, 73, 74, 75, 76, 77, 78, 79, 80, 81] rfl (by decide +kernel) (by decide +kernel)
set_option maxRecDepth 20000 in
theorem gX12_layTunes_X12_movedBy : GoodIn wsX12_layTunes (wsV RX12 509 RX12 yX12_movedBy wsX12_movedBy) := goodIn_app (goodIn_of _ (by decide +kernel)) ggX12_layTunes_X12_movedBy
set_option maxRecDepth 20000 in
theorem ggX12_tune_X12_in : GoodIn wsX12_tune wsX12_in := goodIn_r _ [9] (by decide +kernel) (by decide +kernel)
set_option maxRecDepth 20000 in
theorem gX12_tune_X12_in : GoodIn wsX12_tune (va_wsS RX12 178 yX12_in wsX12_in) := goodIn_app (goodIn_of _ (by decide +kernel)) ggX12_tune_X12_in
set_option maxRecDepth 100000 in
set_option maxHeartbeats 4000000 in
theorem ggX12_tune_X12_layTunes : GoodIn wsX12_tune wsX12_layTunes := goodIn_q _ [17, 22, 25, 28, 31, 34] [3, 5, 4, 18, 19, 20, 21, 8, 23, 24, 26, 27, 29, 30, 32, 33, 35, 36, 37, 38, 39, 40, 41, 42, 43, 44, 45, 46, 47, 48, 49, 50, 51, 52, 53, 54, 55, 56, 57, 58, 59, 60, 61, 62, 63, 64, 65, 66, 67, 68, 69, 70, 71, 72, 73, 74, 75, 76, 77, 78, 79, 80, 81, 82, 83, 84, 85, 86, 87, 88, 89, 90, 91, 92, 93, 94] rfl (by decide +kernel) (by decide +kernel)
set_option maxRecDepth 20000 in
theorem gX12_tune_X12_layTunes : GoodIn wsX12_tune (wsV RX12 512 RX12 yX12_layTunes wsX12_layTunes) := goodIn_app (goodIn_of _ (by decide +kernel)) ggX12_tune_X12_layTunes
set_option maxRecDepth 100000 in
set_option maxHeartbeats 4000000 in
theorem ggX12_tune_X12_movedBy : GoodIn wsX12_tune wsX12_movedBy := goodIn_q _ [22, 25, 28, 31, 34] [18, 3, 5, 4, 23, 24, 8, 26, 27, 29, 30, 32, 33, 35, 36, 37, 38, 39, 40, 41, 42, 43, 44, 45, 46, 47, 48, 49, 50, 51, 52, 53, 54, 55, 56, 57, 58, 59, 60, 61, 62, 63, 64, 65, 66, 67, 68, 69, 70, 71, 72, 73, 74, 75, 76, 77, 78, 79, 80, 81, 82, 83, 84, 85, 86, 87, 88, 89, 90, 91, 92, 93, 94] rfl (by decide +kernel) (by decide +kernel)
set_option maxRecDepth 20000 in
theorem gX12_tune_X12_movedBy : GoodIn wsX12_tune (wsV RX12 509 RX12 yX12_movedBy wsX12_movedBy) := goodIn_app (goodIn_of _ (by decide +kernel)) ggX12_tune_X12_movedBy
set_option maxRecDepth 100000 in
set_option maxHeartbeats 4000000 in
theorem ggX12_tune_X12_isHouse : GoodIn wsX12_tune wsX12_isHouse := goodIn_q _ [13, 9] [3, 6, 7, 8, 35, 36, 37, 38, 39, 40, 41, 42, 43, 44, 45, 46, 47, 48, 49, 50, 51, 52, 53, 54, 55, 56, 57, 58, 59, 60, 61, 62, 63, 64, 65, 66, 67, 68, 69, 70, 71, 72, 73, 74, 75, 76, 77, 78, 79, 80, 81, 82, 83, 84, 85, 86, 87, 88, 89, 90, 91, 92, 93, 94] rfl (by decide +kernel) (by decide +kernel)
set_option maxRecDepth 20000 in
theorem gX12_tune_X12_isHouse : GoodIn wsX12_tune (wsV RX12 197 RX12 yX12_isHouse wsX12_isHouse) := goodIn_app (goodIn_of _ (by decide +kernel)) ggX12_tune_X12_isHouse
set_option maxHeartbeats 4000000 in
set_option maxRecDepth 100000 in
theorem v_layTunes (l : Launch) (D : va_G) (K : Nat → ClassId) (m0 : Nat) (x : Int32) (m_0 : Value) (m_1 : Value) (m_2 : Value) (w0 : Nat) (m_4 : Value) (m_5 : Value) (m_6 : Value) (m_7 : Value) (m_8 : Value) (m_9 : Value) (m_10 : Value) (m_11 : Value) (m_12 : Value) (m_13 : Value) (m_14 : Value) (m_15 : Value) (m_16 : Value) (m_17 : Value) (m_18 : Value) (m_19 : Value) (m_20 : Value) (m_21 : Value) (m_22 : Value) (m_23 : Value) (m_24 : Value) (m_25 : Value) (m_26 : Value) (m_27 : Value) (m_28 : Value) (m_29 : Value) (m_30 : Value) (m_31 : Value) (m_32 : Value) (m_33 : Value) (m_34 : Value) (m_35 : Value) (m_36 : Value) (m_37 : Value) (m_38 : Value) (m_39 : Value) (m_40 : Value) (m_41 : Value) (m_42 : Value) (m_43 : Value) (m_44 : Value) (m_45 : Value) (m_46 : Value) (mo : Nat) (pl : Nat) (m_49 : Value) (m_50 : Value) (m_51 : Value) (m_52 : Value) (m_53 : Value) (m_54 : Value) (m_55 : Value) (m_56 : Value) (m_57 : Value) (m_58 : Value) (m_59 : Value) (fw : Nat → Int32) (fp : Nat → Int32) (fm : Nat → Int32) (sz : Nat) (zfw : RowOK fw) (zfp : Rg 8 0 7 fp) (zfm : Rg 1152 0 100000000 fm) : Met l yX12_layTunes wsX12_layTunes ({ frames := 3, cells := 0, slots := 0, locals := 66 }) (va_Pc [.ref m0, .int x] (Pre D K [(m0, .inr (12, [m_0, m_1, m_2, .ref w0, m_4, m_5, m_6, m_7, m_8, m_9, m_10, m_11, m_12, m_13, m_14, m_15, m_16, m_17, m_18, m_19, m_20, m_21, m_22, m_23, m_24, m_25, m_26, m_27, m_28, m_29, m_30, m_31, m_32, m_33, m_34, m_35, m_36, m_37, m_38, m_39, m_40, m_41, m_42, m_43, m_44, m_45, m_46, .ref mo, .ref pl, m_49, m_50, m_51, m_52, m_53, m_54, m_55, m_56, m_57, m_58, m_59])), (w0, .inl (K 0, 5500, .inl fw)), (pl, .inl (K 0, 8, .inl fp)), (mo, .inl (K 0, 1152, .inl fm))] sz)) (va_Qi (S := Su) (fun (r : Int32) (u : Su) => (0 ≤ r.toInt ∧ r.toInt ≤ 8) ∧ (Rg 8 0 7 (u.2.1 0)) ∧ (Rg 1152 0 100000000 (u.2.1 1)) ∧ (TOK fw (u.2.1 0) (u.2.1 1) (-1) 0 r.toInt) ∧ True) (fun u t => Wd D (va_A [(m0, .inr (12, [m_0, m_1, m_2, .ref w0, m_4, m_5, m_6, m_7, m_8, m_9, m_10, m_11, m_12, m_13, m_14, m_15, m_16, m_17, m_18, m_19, m_20, m_21, m_22, m_23, m_24, m_25, m_26, m_27, m_28, m_29, m_30, m_31, m_32, m_33, m_34, m_35, m_36, m_37, m_38, m_39, m_40, m_41, m_42, m_43, m_44, m_45, m_46, .ref mo, .ref pl, m_49, m_50, m_51, m_52, m_53, m_54, m_55, m_56, m_57, m_58, m_59])), (w0, .inl (K 0, 5500, .inl fw)), (pl, .inl (K 0, 8, .inl fp)), (mo, .inl (K 0, 1152, .inl fm))] sz) ((fun u => [(m0, .inr (12, [m_0, m_1, m_2, .ref w0, m_4, m_5, m_6, m_7, m_8, m_9, m_10, m_11, m_12, m_13, m_14, m_15, m_16, m_17, m_18, m_19, m_20, m_21, m_22, m_23, m_24, m_25, m_26, m_27, m_28, m_29, m_30, m_31, m_32, m_33, m_34, m_35, m_36, m_37, m_38, m_39, m_40, m_41, m_42, m_43, m_44, m_45, m_46, .ref mo, .ref pl, m_49, m_50, m_51, m_52, m_53, m_54, m_55, m_56, m_57, m_58, m_59])), (w0, .inl (K 0, 5500, .inl fw)), (pl, .inl (K 0, 8, .inl (u.2.1 0))), (mo, .inl (K 0, 1152, .inl (u.2.1 1)))]) u) t) (va_A [(m0, .inr (12, [m_0, m_1, m_2, .ref w0, m_4, m_5, m_6, m_7, m_8, m_9, m_10, m_11, m_12, m_13, m_14, m_15, m_16, m_17, m_18, m_19, m_20, m_21, m_22, m_23, m_24, m_25, m_26, m_27, m_28, m_29, m_30, m_31, m_32, m_33, m_34, m_35, m_36, m_37, m_38, m_39, m_40, m_41, m_42, m_43, m_44, m_45, m_46, .ref mo, .ref pl, m_49, m_50, m_51, m_52, m_53, m_54, m_55, m_56, m_57, m_58, m_59])), (w0, .inl (K 0, 5500, .inl fw)), (pl, .inl (K 0, 8, .inl fp)), (mo, .inl (K 0, 1152, .inl fm))] sz)) 0 0 (va_A [(m0, .inr (12, [m_0, m_1, m_2, .ref w0, m_4, m_5, m_6, m_7, m_8, m_9, m_10, m_11, m_12, m_13, m_14, m_15, m_16, m_17, m_18, m_19, m_20, m_21, m_22, m_23, m_24, m_25, m_26, m_27, m_28, m_29, m_30, m_31, m_32, m_33, m_34, m_35, m_36, m_37, m_38, m_39, m_40, m_41, m_42, m_43, m_44, m_45, m_46, .ref mo, .ref pl, m_49, m_50, m_51, m_52, m_53, m_54, m_55, m_56, m_57, m_58, m_59])), (w0, .inl (K 0, 5500, .inl fw)), (pl, .inl (K 0, 8, .inl fp)), (mo, .inl (K 0, 1152, .inl fm))] sz) := by
  refine Met.ofW (cc := cX12_layTunes) (maxL := 8) (ret := (some .int)) (by decide) rfl ?_
  intro p e s m args below meth c s₁ B hml hv
  obtain ⟨rfl, hsz, hP, hK, hD0, hN⟩ := hv
  have hx := B.exec
  have hb := B.bytes
  have hr := B.returns
  have hts := atoms_spec (ws := wsX12_layTunes) B.pre
  have hown : s.vm.findClass RX12 = some m.cls := findClass_of_methodNamed B.named
  have hlocks := B.notSynchronized
  subst hsz
  have hD := hD0.self (sz := s.heap.size)
  generalize hAe : va_A [(m0, .inr (12, [m_0, m_1, m_2, .ref w0, m_4, m_5, m_6, m_7, m_8, m_9, m_10, m_11, m_12, m_13, m_14, m_15, m_16, m_17, m_18, m_19, m_20, m_21, m_22, m_23, m_24, m_25, m_26, m_27, m_28, m_29, m_30, m_31, m_32, m_33, m_34, m_35, m_36, m_37, m_38, m_39, m_40, m_41, m_42, m_43, m_44, m_45, m_46, .ref mo, .ref pl, m_49, m_50, m_51, m_52, m_53, m_54, m_55, m_56, m_57, m_58, m_59])), (w0, .inl (K 0, 5500, .inl fw)), (pl, .inl (K 0, 8, .inl fp)), (mo, .inl (K 0, 1152, .inl fm))] s.heap.size = A at hD ⊢
  have hA : ∀ q : Nat, s.heap.size ≤ q → A q := fun q h => by rw [← hAe]; exact Or.inr h
  have hS : va_S A s.heap s.heap [] := va_S.rf
  have hP : va_P D vwCl [(m0, .inr (12, [m_0, m_1, m_2, .ref w0, m_4, m_5, m_6, m_7, m_8, m_9, m_10, m_11, m_12, m_13, m_14, m_15, m_16, m_17, m_18, m_19, m_20, m_21, m_22, m_23, m_24, m_25, m_26, m_27, m_28, m_29, m_30, m_31, m_32, m_33, m_34, m_35, m_36, m_37, m_38, m_39, m_40, m_41, m_42, m_43, m_44, m_45, m_46, .ref mo, .ref pl, m_49, m_50, m_51, m_52, m_53, m_54, m_55, m_56, m_57, m_58, m_59])), (w0, .inl (K 0, 5500, .inl fw)), (pl, .inl (K 0, 8, .inl fp)), (mo, .inl (K 0, 1152, .inl fm))] s.heap := hP
  have hl := lv_entry [.ref m0, .int x] (n := 8) (Nat.le_of_ble_eq_true rfl)
  rw [lg_entry_eq]
  generalize (lg_sl [.ref m0, .int x] ++ List.replicate (8 - (lg_sl [.ref m0, .int x]).length) Slot.unset).toArray = ls at hl ⊢
  have hl : lv_has ls 8 [(0, .ref m0), (1, .int x)] := hl
  have hw12 : ∀ w ∈ wsX120, w ∈ wsX12_layTunes := fun w h => (List.mem_cons_of_mem _ (List.mem_append_right _ h))
  generalize hQ : MQ below _ _ s _ _ _ = Q
  refine lv_iconst (v := 0) hx hb dX12_layTunes_0 (by decide) ?_
  refine lv_istore_n (lv' := [(2, .int 0), (0, .ref m0), (1, .int x)]) hx hb dX12_layTunes_1 rfl hl (by decide) rfl (fun ls hl => ?_)
  refine lv_iconst (v := 0) hx hb dX12_layTunes_2 (by decide) ?_
  refine lv_istore_n (lv' := [(3, .int 0), (2, .int 0), (0, .ref m0), (1, .int x)]) hx hb dX12_layTunes_3 rfl hl (by decide) rfl (fun ls hl => ?_)
  have lp_4081 : ∀ (nn_ : Nat) (v_4057 : Int32) (v_4058 : Int32) (f_4059 : Nat → Int32) (hv_4057 : 0 ≤ v_4057.toInt ∧ v_4057.toInt ≤ 8) (hv_4058 : 0 ≤ v_4058.toInt ∧ v_4058.toInt ≤ 8) (hf_4059_0 : Rg 8 0 7 f_4059) (hr0_lp_4081 : 0 ≤ v_4058.toInt ∧ v_4058.toInt ≤ v_4057.toInt) (hn : (9 - v_4057.toInt : Int).toNat < nn_) (H : Heap) (locs : List Loc) (hP : va_P D vwCl [(m0, .inr (12, [m_0, m_1, m_2, .ref w0, m_4, m_5, m_6, m_7, m_8, m_9, m_10, m_11, m_12, m_13, m_14, m_15, m_16, m_17, m_18, m_19, m_20, m_21, m_22, m_23, m_24, m_25, m_26, m_27, m_28, m_29, m_30, m_31, m_32, m_33, m_34, m_35, m_36, m_37, m_38, m_39, m_40, m_41, m_42, m_43, m_44, m_45, m_46, .ref mo, .ref pl, m_49, m_50, m_51, m_52, m_53, m_54, m_55, m_56, m_57, m_58, m_59])), (w0, .inl (K 0, 5500, .inl fw)), (pl, .inl (K 0, 8, .inl f_4059)), (mo, .inl (K 0, 1152, .inl fm))] H) (hD : va_D A [(m0, .inr (12, [m_0, m_1, m_2, .ref w0, m_4, m_5, m_6, m_7, m_8, m_9, m_10, m_11, m_12, m_13, m_14, m_15, m_16, m_17, m_18, m_19, m_20, m_21, m_22, m_23, m_24, m_25, m_26, m_27, m_28, m_29, m_30, m_31, m_32, m_33, m_34, m_35, m_36, m_37, m_38, m_39, m_40, m_41, m_42, m_43, m_44, m_45, m_46, .ref mo, .ref pl, m_49, m_50, m_51, m_52, m_53, m_54, m_55, m_56, m_57, m_58, m_59])), (w0, .inl (K 0, 5500, .inl fw)), (pl, .inl (K 0, 8, .inl f_4059)), (mo, .inl (K 0, 1152, .inl fm))]) (hS : va_S A s.heap H locs) (ls : Array Slot) (hl : lv_has ls 8 [(3, .int v_4057), (2, .int v_4058), (0, .ref m0), (1, .int x)]), W p l e ({ frames := 3, cells := 0, slots := 0, locals := 66 }) s m (([.ref m0, .int x] : List Value).toArray) below meth c H locs 0 0 Q (F0 m 4 ls []) := by
    intro nn_
    induction nn_ with
    | zero =>
      intro v_4057 v_4058 f_4059 hv_4057 hv_4058 hf_4059_0 hr0_lp_4081 hn H locs hP hD hS ls hl
      exact absurd hn (Nat.not_lt_zero _)
    | succ nn_ ih_4082 =>
      intro v_4057 v_4058 f_4059 hv_4057 hv_4058 hf_4059_0 hr0_lp_4081 hn H locs hP hD hS ls hl
      refine lv_iload_n hx hb dX12_layTunes_4 rfl (lv_at hl 0 rfl) ?_
      refine lv_aload_n hx hb dX12_layTunes_5 rfl (lv_at hl 2 rfl) ?_
      refine va_get (ci := 12) (v := .ref w0) (C := RX12) (T := TX12) (N := 60) hx hb hts hw12 hown hK hP 0 rfl rfl 3 (by decide) (hts (.fieldLink RX12 13 "SmokeTuneModel" "row" "[I") (List.mem_cons_of_mem _ (List.mem_append_left _ (List.mem_of_getElem? (i := 0) rfl)))) (fun _ h9 => h9) rfl dX12_layTunes_6 ?_
      refine lv_iconst (v := 0) hx hb dX12_layTunes_9 (by decide) ?_
      refine va_iald hx hb hK hP 1 0 rfl rfl (i_in (x := 0) rfl (by omega)) dX12_layTunes_10 ?_
      refine lv_topi (fun x_4083 ex_4083 => ?_)
      have px_4083 := RowOK.at zfw (show (0 : Int32).toInt = 0 from rfl) (show 0 ≤ 0 ∧ 0 < 100 by omega)
      rw [← ex_4083] at px_4083
      have hx_4083 := PR.r_0 px_4083 (by omega)
      refine lv_icmp_ge (tgt := 43) hx hb dX12_layTunes_11 (by decide) (fun c_4084 => ?_) (fun c_4084 => ?_)
      · have c_4084i := i_le (x := x_4083.toInt) (y := v_4057.toInt) rfl rfl c_4084
        refine lv_iconst (v := 0) hx hb dX12_layTunes_43 (by decide) ?_
        refine lv_istore_n (lv' := [(3, .int 0), (2, .int v_4058), (0, .ref m0), (1, .int x)]) hx hb dX12_layTunes_44 rfl hl (by decide) rfl (fun ls hl => ?_)
        have lp_4124 : ∀ (nn_ : Nat) (v_4110 : Int32) (f_4111 : Nat → Int32) (hv_4110 : 0 ≤ v_4110.toInt ∧ v_4110.toInt ≤ 128) (hf_4111_0 : Rg 1152 0 100000000 f_4111) (hr0_lp_4124 : Zr f_4111 v_4058.toInt v_4110.toInt) (hn : (129 - v_4110.toInt : Int).toNat < nn_) (H : Heap) (locs : List Loc) (hP : va_P D vwCl [(m0, .inr (12, [m_0, m_1, m_2, .ref w0, m_4, m_5, m_6, m_7, m_8, m_9, m_10, m_11, m_12, m_13, m_14, m_15, m_16, m_17, m_18, m_19, m_20, m_21, m_22, m_23, m_24, m_25, m_26, m_27, m_28, m_29, m_30, m_31, m_32, m_33, m_34, m_35, m_36, m_37, m_38, m_39, m_40, m_41, m_42, m_43, m_44, m_45, m_46, .ref mo, .ref pl, m_49, m_50, m_51, m_52, m_53, m_54, m_55, m_56, m_57, m_58, m_59])), (w0, .inl (K 0, 5500, .inl fw)), (pl, .inl (K 0, 8, .inl f_4059)), (mo, .inl (K 0, 1152, .inl f_4111))] H) (hD : va_D A [(m0, .inr (12, [m_0, m_1, m_2, .ref w0, m_4, m_5, m_6, m_7, m_8, m_9, m_10, m_11, m_12, m_13, m_14, m_15, m_16, m_17, m_18, m_19, m_20, m_21, m_22, m_23, m_24, m_25, m_26, m_27, m_28, m_29, m_30, m_31, m_32, m_33, m_34, m_35, m_36, m_37, m_38, m_39, m_40, m_41, m_42, m_43, m_44, m_45, m_46, .ref mo, .ref pl, m_49, m_50, m_51, m_52, m_53, m_54, m_55, m_56, m_57, m_58, m_59])), (w0, .inl (K 0, 5500, .inl fw)), (pl, .inl (K 0, 8, .inl f_4059)), (mo, .inl (K 0, 1152, .inl f_4111))]) (hS : va_S A s.heap H locs) (ls : Array Slot) (hl : lv_has ls 8 [(3, .int v_4110), (2, .int v_4058), (0, .ref m0)]), W p l e ({ frames := 3, cells := 0, slots := 0, locals := 66 }) s m (([.ref m0, .int x] : List Value).toArray) below meth c H locs 0 0 Q (F0 m 45 ls []) := by
          intro nn_
          induction nn_ with
          | zero =>
            intro v_4110 f_4111 hv_4110 hf_4111_0 hr0_lp_4124 hn H locs hP hD hS ls hl
            exact absurd hn (Nat.not_lt_zero _)
          | succ nn_ ih_4125 =>
            intro v_4110 f_4111 hv_4110 hf_4111_0 hr0_lp_4124 hn H locs hP hD hS ls hl
            refine lv_iload_n hx hb dX12_layTunes_45 rfl (lv_at hl 0 rfl) ?_
            refine lv_sipush (v := 128) hx hb dX12_layTunes_46 (by decide) ?_
            refine lv_icmp_ge (tgt := 71) hx hb dX12_layTunes_49 (by decide) (fun c_4126 => ?_) (fun c_4126 => ?_)
            · have c_4126i := i_le (x := 128) (y := v_4110.toInt) rfl rfl c_4126
              have hz128 : Zr f_4111 v_4058.toInt 128 := by have q := hr0_lp_4124; rwa [show v_4110.toInt = 128 by omega] at q
              refine lv_iload_n hx hb dX12_layTunes_71 rfl (lv_at hl 1 rfl) ?_
              refine lv_iconst (v := 1) hx hb dX12_layTunes_72 (by decide) ?_
              refine lv_isub hx hb dX12_layTunes_73 ?_
              refine lv_topi (fun x_4127 ex_4127 => ?_)
              have hx_4127 : x_4127.toInt = (v_4058.toInt - 1) := by rw [ex_4127]; exact i_sub rfl (show (1 : Int32).toInt = 1 from rfl) (by omega)
              refine lv_istore_n (lv' := [(3, .int x_4127), (2, .int v_4058), (0, .ref m0)]) hx hb dX12_layTunes_74 rfl hl (by decide) rfl (fun ls hl => ?_)
              have lp_5646 : ∀ (nn_ : Nat) (v_4886 : Int32) (f_4887 : Nat → Int32) (hv_4886 : (-1) ≤ v_4886.toInt ∧ v_4886.toInt ≤ 7) (hf_4887_0 : Rg 1152 0 100000000 f_4887) (hr0_lp_5646 : TOK fw f_4059 f_4887 v_4886.toInt 0 v_4058.toInt) (hn : (v_4886.toInt - (-2) : Int).toNat < nn_) (H : Heap) (locs : List Loc) (hP : va_P D vwCl [(m0, .inr (12, [m_0, m_1, m_2, .ref w0, m_4, m_5, m_6, m_7, m_8, m_9, m_10, m_11, m_12, m_13, m_14, m_15, m_16, m_17, m_18, m_19, m_20, m_21, m_22, m_23, m_24, m_25, m_26, m_27, m_28, m_29, m_30, m_31, m_32, m_33, m_34, m_35, m_36, m_37, m_38, m_39, m_40, m_41, m_42, m_43, m_44, m_45, m_46, .ref mo, .ref pl, m_49, m_50, m_51, m_52, m_53, m_54, m_55, m_56, m_57, m_58, m_59])), (w0, .inl (K 0, 5500, .inl fw)), (pl, .inl (K 0, 8, .inl f_4059)), (mo, .inl (K 0, 1152, .inl f_4887))] H) (hD : va_D A [(m0, .inr (12, [m_0, m_1, m_2, .ref w0, m_4, m_5, m_6, m_7, m_8, m_9, m_10, m_11, m_12, m_13, m_14, m_15, m_16, m_17, m_18, m_19, m_20, m_21, m_22, m_23, m_24, m_25, m_26, m_27, m_28, m_29, m_30, m_31, m_32, m_33, m_34, m_35, m_36, m_37, m_38, m_39, m_40, m_41, m_42, m_43, m_44, m_45, m_46, .ref mo, .ref pl, m_49, m_50, m_51, m_52, m_53, m_54, m_55, m_56, m_57, m_58, m_59])), (w0, .inl (K 0, 5500, .inl fw)), (pl, .inl (K 0, 8, .inl f_4059)), (mo, .inl (K 0, 1152, .inl f_4887))]) (hS : va_S A s.heap H locs) (ls : Array Slot) (hl : lv_has ls 8 [(3, .int v_4886), (2, .int v_4058), (0, .ref m0)]), W p l e ({ frames := 3, cells := 0, slots := 0, locals := 66 }) s m (([.ref m0, .int x] : List Value).toArray) below meth c H locs 0 0 Q (F0 m 75 ls []) := by
                intro nn_
                induction nn_ with
                | zero =>
                  intro v_4886 f_4887 hv_4886 hf_4887_0 hr0_lp_5646 hn H locs hP hD hS ls hl
                  exact absurd hn (Nat.not_lt_zero _)
                | succ nn_ ih_5647 =>
                  intro v_4886 f_4887 hv_4886 hf_4887_0 hr0_lp_5646 hn H locs hP hD hS ls hl
                  refine lv_iload_n hx hb dX12_layTunes_75 rfl (lv_at hl 0 rfl) ?_
                  refine lv_if_lt (tgt := 165) hx hb dX12_layTunes_76 (by decide) (fun c_5648 => ?_) (fun c_5648 => ?_)
                  · have c_5648i := i_lt (x := v_4886.toInt) (y := 0) rfl rfl c_5648
                    refine lv_iload_n hx hb dX12_layTunes_165 rfl (lv_at hl 1 rfl) ?_
                    subst hQ
                    have hP9 := hP.sub (ws' := [(m0, .inr (12, [m_0, m_1, m_2, .ref w0, m_4, m_5, m_6, m_7, m_8, m_9, m_10, m_11, m_12, m_13, m_14, m_15, m_16, m_17, m_18, m_19, m_20, m_21, m_22, m_23, m_24, m_25, m_26, m_27, m_28, m_29, m_30, m_31, m_32, m_33, m_34, m_35, m_36, m_37, m_38, m_39, m_40, m_41, m_42, m_43, m_44, m_45, m_46, .ref mo, .ref pl, m_49, m_50, m_51, m_52, m_53, m_54, m_55, m_56, m_57, m_58, m_59])), (w0, .inl (K 0, 5500, .inl fw)), (pl, .inl (K 0, 8, .inl f_4059)), (mo, .inl (K 0, 1152, .inl f_4887))]) [0, 1, 2, 3] rfl
                    have hD9 := hD.sub (ws' := [(m0, .inr (12, [m_0, m_1, m_2, .ref w0, m_4, m_5, m_6, m_7, m_8, m_9, m_10, m_11, m_12, m_13, m_14, m_15, m_16, m_17, m_18, m_19, m_20, m_21, m_22, m_23, m_24, m_25, m_26, m_27, m_28, m_29, m_30, m_31, m_32, m_33, m_34, m_35, m_36, m_37, m_38, m_39, m_40, m_41, m_42, m_43, m_44, m_45, m_46, .ref mo, .ref pl, m_49, m_50, m_51, m_52, m_53, m_54, m_55, m_56, m_57, m_58, m_59])), (w0, .inl (K 0, 5500, .inl fw)), (pl, .inl (K 0, 8, .inl f_4059)), (mo, .inl (K 0, 1152, .inl f_4887))]) [0, 1, 2, 3] (by decide) rfl
                    exact W.iret (v := v_4058) hx hb hr (fun t ht hW => ⟨⟨v_4058, ((fun _ => 0, fun i => match i with | 0 => f_4059 | _ => f_4887, fun _ => fun _ => 0, fun _ => 0, fun _ => 0, fun _ => fun _ => none) : Su), rfl, ⟨(show 0 ≤ v_4058.toInt ∧ v_4058.toInt ≤ 8 by omega), hf_4059_0, hf_4887_0, (show TOK fw f_4059 f_4887 (-1) 0 (v_4058 : Int32).toInt from by have q := hr0_lp_5646; rwa [show v_4886.toInt = -1 by omega] at q), trivial⟩, (⟨by rw [ht]; exact hP9, hD9⟩ : Wd D A _ t)⟩, hS.F ht⟩) hS.2.2 dX12_layTunes_166
                  · have c_5648i := i_nlt (x := v_4886.toInt) (y := 0) rfl rfl c_5648
                    refine lv_iconst (v := 0) hx hb dX12_layTunes_79 (by decide) ?_
                    refine lv_istore (lv' := [(4, .int 0), (3, .int v_4886), (2, .int v_4058), (0, .ref m0)]) hx hb dX12_layTunes_80 hl (by decide) rfl (fun ls hl => ?_)
                    have lp_5970 : ∀ (nn_ : Nat) (v_5862 : Int32) (f_5863 : Nat → Int32) (hv_5862 : 0 ≤ v_5862.toInt ∧ v_5862.toInt ≤ 128) (hf_5863_0 : Rg 1152 0 100000000 f_5863) (hr0_lp_5970 : TOK fw f_4059 f_5863 v_4886.toInt v_5862.toInt v_4058.toInt) (hn : (129 - v_5862.toInt : Int).toNat < nn_) (H : Heap) (locs : List Loc) (hP : va_P D vwCl [(m0, .inr (12, [m_0, m_1, m_2, .ref w0, m_4, m_5, m_6, m_7, m_8, m_9, m_10, m_11, m_12, m_13, m_14, m_15, m_16, m_17, m_18, m_19, m_20, m_21, m_22, m_23, m_24, m_25, m_26, m_27, m_28, m_29, m_30, m_31, m_32, m_33, m_34, m_35, m_36, m_37, m_38, m_39, m_40, m_41, m_42, m_43, m_44, m_45, m_46, .ref mo, .ref pl, m_49, m_50, m_51, m_52, m_53, m_54, m_55, m_56, m_57, m_58, m_59])), (w0, .inl (K 0, 5500, .inl fw)), (pl, .inl (K 0, 8, .inl f_4059)), (mo, .inl (K 0, 1152, .inl f_5863))] H) (hD : va_D A [(m0, .inr (12, [m_0, m_1, m_2, .ref w0, m_4, m_5, m_6, m_7, m_8, m_9, m_10, m_11, m_12, m_13, m_14, m_15, m_16, m_17, m_18, m_19, m_20, m_21, m_22, m_23, m_24, m_25, m_26, m_27, m_28, m_29, m_30, m_31, m_32, m_33, m_34, m_35, m_36, m_37, m_38, m_39, m_40, m_41, m_42, m_43, m_44, m_45, m_46, .ref mo, .ref pl, m_49, m_50, m_51, m_52, m_53, m_54, m_55, m_56, m_57, m_58, m_59])), (w0, .inl (K 0, 5500, .inl fw)), (pl, .inl (K 0, 8, .inl f_4059)), (mo, .inl (K 0, 1152, .inl f_5863))]) (hS : va_S A s.heap H locs) (ls : Array Slot) (hl : lv_has ls 8 [(4, .int v_5862), (3, .int v_4886), (2, .int v_4058), (0, .ref m0)]), W p l e ({ frames := 3, cells := 0, slots := 0, locals := 66 }) s m (([.ref m0, .int x] : List Value).toArray) below meth c H locs 0 0 Q (F0 m 82 ls []) := by
                      intro nn_
                      induction nn_ with
                      | zero =>
                        intro v_5862 f_5863 hv_5862 hf_5863_0 hr0_lp_5970 hn H locs hP hD hS ls hl
                        exact absurd hn (Nat.not_lt_zero _)
                      | succ nn_ ih_5971 =>
                        intro v_5862 f_5863 hv_5862 hf_5863_0 hr0_lp_5970 hn H locs hP hD hS ls hl
                        refine lv_iload hx hb dX12_layTunes_82 (lv_at hl 0 rfl) ?_
                        refine lv_sipush (v := 128) hx hb dX12_layTunes_84 (by decide) ?_
                        refine lv_icmp_ge (tgt := 159) hx hb dX12_layTunes_87 (by decide) (fun c_5972 => ?_) (fun c_5972 => ?_)
                        · have c_5972i := i_le (x := 128) (y := v_5862.toInt) rfl rfl c_5972
                          obtain ⟨x_5973, ex_5973⟩ : ∃ y : Int32, y = v_4886 + Int32.ofInt (-1) := ⟨_, rfl⟩
                          have hx_5973 : x_5973.toInt = (v_4886.toInt + (-1)) := by rw [ex_5973]; exact i_add rfl (show (Int32.ofInt (-1)).toInt = (-1) from rfl) (by omega)
                          refine lv_iinc (v := x_5973) (lv' := [(3, .int x_5973), (4, .int v_5862), (2, .int v_4058), (0, .ref m0)]) hx hb dX12_layTunes_159 hl (k := 1) rfl (by rw [ex_5973]) (by decide) rfl (fun ls hl => ?_)
                          refine lv_goto (tgt := 75) hx hb dX12_layTunes_162 (by decide) ?_
                          exact ih_5647 x_5973 f_5863 (by rw [hx_5973]; omega) hf_5863_0 (show TOK fw f_4059 f_5863 (x_5973 : Int32).toInt 0 v_4058.toInt by rw [hx_5973]; exact TOK.down hr0_lp_5970 (by omega)) (by omega) _ _ hP hD hS ls (lv_sub hl [0, 2, 3] rfl)
                        · have c_5972i := i_nle (x := 128) (y := v_5862.toInt) rfl rfl c_5972
                          refine lv_ldcw (v := 100000000) hx hb hown (hts (.constant RX12 476 (100000000)) (List.mem_cons_of_mem _ (List.mem_append_left _ (List.mem_of_getElem? (i := 3) rfl)))) dX12_layTunes_90 ?_
                          refine lv_istore (lv' := [(5, .int 100000000), (4, .int v_5862), (3, .int v_4886), (2, .int v_4058), (0, .ref m0)]) hx hb dX12_layTunes_93 hl (by decide) rfl (fun ls hl => ?_)
                          refine lv_iconst (v := 0) hx hb dX12_layTunes_95 (by decide) ?_
                          refine lv_istore (lv' := [(6, .int 0), (5, .int 100000000), (4, .int v_5862), (3, .int v_4886), (2, .int v_4058), (0, .ref m0)]) hx hb dX12_layTunes_96 hl (by decide) rfl (fun ls hl => ?_)
                          have lp_6012 : ∀ (nn_ : Nat) (v_5998 : Int32) (v_5999 : Int32) (hv_5998 : 0 ≤ v_5998.toInt ∧ v_5998.toInt ≤ 7) (hv_5999 : 0 ≤ v_5999.toInt ∧ v_5999.toInt ≤ 100000000) (hr0_lp_6012 : MnT fw f_4059 f_5863 v_4886.toInt v_5862.toInt v_5998.toInt v_5999.toInt) (hn : (8 - v_5998.toInt : Int).toNat < nn_) (H : Heap) (locs : List Loc) (hP : va_P D vwCl [(m0, .inr (12, [m_0, m_1, m_2, .ref w0, m_4, m_5, m_6, m_7, m_8, m_9, m_10, m_11, m_12, m_13, m_14, m_15, m_16, m_17, m_18, m_19, m_20, m_21, m_22, m_23, m_24, m_25, m_26, m_27, m_28, m_29, m_30, m_31, m_32, m_33, m_34, m_35, m_36, m_37, m_38, m_39, m_40, m_41, m_42, m_43, m_44, m_45, m_46, .ref mo, .ref pl, m_49, m_50, m_51, m_52, m_53, m_54, m_55, m_56, m_57, m_58, m_59])), (w0, .inl (K 0, 5500, .inl fw)), (pl, .inl (K 0, 8, .inl f_4059)), (mo, .inl (K 0, 1152, .inl f_5863))] H) (hD : va_D A [(m0, .inr (12, [m_0, m_1, m_2, .ref w0, m_4, m_5, m_6, m_7, m_8, m_9, m_10, m_11, m_12, m_13, m_14, m_15, m_16, m_17, m_18, m_19, m_20, m_21, m_22, m_23, m_24, m_25, m_26, m_27, m_28, m_29, m_30, m_31, m_32, m_33, m_34, m_35, m_36, m_37, m_38, m_39, m_40, m_41, m_42, m_43, m_44, m_45, m_46, .ref mo, .ref pl, m_49, m_50, m_51, m_52, m_53, m_54, m_55, m_56, m_57, m_58, m_59])), (w0, .inl (K 0, 5500, .inl fw)), (pl, .inl (K 0, 8, .inl f_4059)), (mo, .inl (K 0, 1152, .inl f_5863))]) (hS : va_S A s.heap H locs) (ls : Array Slot) (hl : lv_has ls 8 [(6, .int v_5998), (5, .int v_5999), (4, .int v_5862), (3, .int v_4886), (2, .int v_4058), (0, .ref m0)]), W p l e ({ frames := 3, cells := 0, slots := 0, locals := 66 }) s m (([.ref m0, .int x] : List Value).toArray) below meth c H locs 0 0 Q (F0 m 98 ls []) := by
                            intro nn_
                            induction nn_ with
                            | zero =>
                              intro v_5998 v_5999 hv_5998 hv_5999 hr0_lp_6012 hn H locs hP hD hS ls hl
                              exact absurd hn (Nat.not_lt_zero _)
                            | succ nn_ ih_6013 =>
                              intro v_5998 v_5999 hv_5998 hv_5999 hr0_lp_6012 hn H locs hP hD hS ls hl
                              refine lv_iload hx hb dX12_layTunes_98 (lv_at hl 0 rfl) ?_
                              refine lv_bipush (v := 7) hx hb dX12_layTunes_100 (by decide) ?_
                              refine lv_icmp_ge (tgt := 138) hx hb dX12_layTunes_102 (by decide) (fun c_6014 => ?_) (fun c_6014 => ?_)
                              · have c_6014i := i_le (x := 7) (y := v_5998.toInt) rfl rfl c_6014
                                have hmf := hr0_lp_6012
                                rw [show v_5998.toInt = 7 by omega] at hmf
                                refine lv_aload_n hx hb dX12_layTunes_138 rfl (lv_at hl 5 rfl) ?_
                                refine va_get (ci := 12) (v := .ref mo) (C := RX12) (T := TX12) (N := 60) hx hb hts hw12 hown hK hP 0 rfl rfl 47 (by decide) (hts (.fieldLink RX12 126 "SmokeTuneModel" "moved" "[I") (List.mem_cons_of_mem _ (List.mem_append_left _ (List.mem_of_getElem? (i := 2) rfl)))) (fun _ h9 => h9) rfl dX12_layTunes_139 ?_
                                refine lv_sipush (v := 128) hx hb dX12_layTunes_142 (by decide) ?_
                                refine lv_iload_n hx hb dX12_layTunes_145 rfl (lv_at hl 3 rfl) ?_
                                refine lv_imul hx hb dX12_layTunes_146 ?_
                                refine lv_topi (fun x_6015 ex_6015 => ?_)
                                have hx_6015 : x_6015.toInt = (128 * v_4886.toInt) := by rw [ex_6015]; exact i_mul (show (128 : Int32).toInt = 128 from rfl) rfl (by omega)
                                refine lv_iload hx hb dX12_layTunes_147 (lv_at hl 2 rfl) ?_
                                refine lv_iadd hx hb dX12_layTunes_149 ?_
                                refine lv_topi (fun x_6016 ex_6016 => ?_)
                                have hx_6016 : x_6016.toInt = ((128 * v_4886.toInt) + v_5862.toInt) := by rw [ex_6016]; exact i_add hx_6015 rfl (by omega)
                                refine lv_iload hx hb dX12_layTunes_150 (lv_at hl 1 rfl) ?_
                                refine va_iast hx hb hK hP hD hS 3 0 rfl rfl (i_in hx_6016 (by omega)) dX12_layTunes_152 (fun H locs hP hD hS => ?_)
                                generalize hf_6017 : (upd f_5863 (x_6016 : Int32).toNatClampNeg v_5999) = f_6017 at hP hD
                                have hf_6017_0 : Rg 1152 0 100000000 f_6017 := by rw [← hf_6017]; exact Rg.upd hf_5863_0 rfl (by omega)
                                have hP : va_P D vwCl [(m0, .inr (12, [m_0, m_1, m_2, .ref w0, m_4, m_5, m_6, m_7, m_8, m_9, m_10, m_11, m_12, m_13, m_14, m_15, m_16, m_17, m_18, m_19, m_20, m_21, m_22, m_23, m_24, m_25, m_26, m_27, m_28, m_29, m_30, m_31, m_32, m_33, m_34, m_35, m_36, m_37, m_38, m_39, m_40, m_41, m_42, m_43, m_44, m_45, m_46, .ref mo, .ref pl, m_49, m_50, m_51, m_52, m_53, m_54, m_55, m_56, m_57, m_58, m_59])), (w0, .inl (K 0, 5500, .inl fw)), (pl, .inl (K 0, 8, .inl f_4059)), (mo, .inl (K 0, 1152, .inl f_6017))] H := hP
                                have hD : va_D A [(m0, .inr (12, [m_0, m_1, m_2, .ref w0, m_4, m_5, m_6, m_7, m_8, m_9, m_10, m_11, m_12, m_13, m_14, m_15, m_16, m_17, m_18, m_19, m_20, m_21, m_22, m_23, m_24, m_25, m_26, m_27, m_28, m_29, m_30, m_31, m_32, m_33, m_34, m_35, m_36, m_37, m_38, m_39, m_40, m_41, m_42, m_43, m_44, m_45, m_46, .ref mo, .ref pl, m_49, m_50, m_51, m_52, m_53, m_54, m_55, m_56, m_57, m_58, m_59])), (w0, .inl (K 0, 5500, .inl fw)), (pl, .inl (K 0, 8, .inl f_4059)), (mo, .inl (K 0, 1152, .inl f_6017))] := hD
                                obtain ⟨x_6018, ex_6018⟩ : ∃ y : Int32, y = v_5862 + Int32.ofInt 1 := ⟨_, rfl⟩
                                have hx_6018 : x_6018.toInt = (v_5862.toInt + 1) := by rw [ex_6018]; exact i_add rfl (show (Int32.ofInt 1).toInt = 1 from rfl) (by omega)
                                refine lv_iinc (v := x_6018) (lv' := [(4, .int x_6018), (6, .int v_5998), (5, .int v_5999), (3, .int v_4886), (2, .int v_4058), (0, .ref m0)]) hx hb dX12_layTunes_153 hl (k := 2) rfl (by rw [ex_6018]) (by decide) rfl (fun ls hl => ?_)
                                refine lv_goto (tgt := 82) hx hb dX12_layTunes_156 (by decide) ?_
                                exact ih_5971 x_6018 f_6017 (by rw [hx_6018]; omega) hf_6017_0 (show TOK fw f_4059 f_6017 v_4886.toInt (x_6018 : Int32).toInt v_4058.toInt by rw [← hf_6017, i_clamp (x := x_6016) (z := ((128 * v_4886.toInt) + v_5862.toInt)) hx_6016, hx_6018]; exact TOK.put hr0_lp_5970 (by omega) (by omega) zfw hf_4059_0 hmf) (by omega) _ _ hP hD hS ls (lv_sub hl [0, 3, 4, 5] rfl)
                              · have c_6014i := i_nle (x := 7) (y := v_5998.toInt) rfl rfl c_6014
                                refine lv_aload_n hx hb dX12_layTunes_105 rfl (lv_at hl 5 rfl) ?_
                                refine lv_iload_n hx hb dX12_layTunes_106 rfl (lv_at hl 3 rfl) ?_
                                refine lv_iload hx hb dX12_layTunes_107 (lv_at hl 2 rfl) ?_
                                refine lv_iload hx hb dX12_layTunes_109 (lv_at hl 0 rfl) ?_
                                refine pci (va_runV (As := [.int v_4886, .int v_5862, .int v_5998]) (rest := []) ⟨hx, hb, hml, hown, hts⟩ (v_movedBy l D K m0 v_4886 v_5862 v_5998 m_0 m_1 m_2 w0 m_4 m_5 m_6 m_7 m_8 m_9 m_10 m_11 m_12 m_13 m_14 m_15 m_16 m_17 m_18 m_19 m_20 m_21 m_22 m_23 m_24 m_25 m_26 m_27 m_28 m_29 m_30 m_31 m_32 m_33 m_34 m_35 m_36 m_37 m_38 m_39 m_40 m_41 m_42 m_43 m_44 m_45 m_46 mo pl m_49 m_50 m_51 m_52 m_53 m_54 m_55 m_56 m_57 m_58 m_59 fw f_4059 f_5863 H.size (by first | omega | decide) (by first | omega | decide) (by first | omega | decide) zfw hf_4059_0 hf_5863_0) (cwV 3 hts gX12_layTunes_X12_movedBy rfl rfl rfl (by decide +kernel) ⟨Nat.le_of_ble_eq_true rfl, Nat.le_of_ble_eq_true rfl⟩) (mkV hK hN (hP.sub [0, 1, 2, 3] rfl) (hD.sub [0, 1, 2, 3] (by decide) rfl) (ci := 12) (q0 := 0) rfl rfl) rfl rfl hl.1 rfl (lv_room (Nat.le_of_ble_eq_true rfl)) dX12_layTunes_111 ⟨Nat.le_of_ble_eq_true rfl, Nat.le_of_ble_eq_true rfl⟩) (fun r_6019 hw => ?_)
                                obtain ⟨⟨hmb_r_6019, hmr_r_6019⟩, -⟩ := hw
                                refine lv_istore (lv' := [(7, .int r_6019), (6, .int v_5998), (5, .int v_5999), (4, .int v_5862), (3, .int v_4886), (2, .int v_4058), (0, .ref m0)]) hx hb dX12_layTunes_114 hl (by decide) rfl (fun ls hl => ?_)
                                refine lv_iload hx hb dX12_layTunes_116 (lv_at hl 0 rfl) ?_
                                refine lv_iload hx hb dX12_layTunes_118 (lv_at hl 2 rfl) ?_
                                refine lv_icmp_ge (tgt := 128) hx hb dX12_layTunes_120 (by decide) (fun c_6020 => ?_) (fun c_6020 => ?_)
                                · have c_6020i := i_le (x := v_5999.toInt) (y := r_6019.toInt) rfl rfl c_6020
                                  refine lv_iload hx hb dX12_layTunes_128 (lv_at hl 2 rfl) ?_
                                  refine lv_istore (lv' := [(5, .int v_5999), (7, .int r_6019), (6, .int v_5998), (4, .int v_5862), (3, .int v_4886), (2, .int v_4058), (0, .ref m0)]) hx hb dX12_layTunes_130 hl (by decide) rfl (fun ls hl => ?_)
                                  obtain ⟨x_6021, ex_6021⟩ : ∃ y : Int32, y = v_5998 + Int32.ofInt 1 := ⟨_, rfl⟩
                                  have hx_6021 : x_6021.toInt = (v_5998.toInt + 1) := by rw [ex_6021]; exact i_add rfl (show (Int32.ofInt 1).toInt = 1 from rfl) (by omega)
                                  refine lv_iinc (v := x_6021) (lv' := [(6, .int x_6021), (5, .int v_5999), (7, .int r_6019), (4, .int v_5862), (3, .int v_4886), (2, .int v_4058), (0, .ref m0)]) hx hb dX12_layTunes_132 hl (k := 2) rfl (by rw [ex_6021]) (by decide) rfl (fun ls hl => ?_)
                                  refine lv_goto (tgt := 98) hx hb dX12_layTunes_135 (by decide) ?_
                                  exact ih_6013 x_6021 v_5999 (by rw [hx_6021]; omega) (by omega) (show MnT fw f_4059 f_5863 v_4886.toInt v_5862.toInt (x_6021 : Int32).toInt (v_5999 : Int32).toInt by rw [hx_6021]; exact MnT.ge hr0_lp_6012 hmb_r_6019 (by omega)) (by omega) _ _ hP hD hS ls (lv_sub hl [0, 1, 3, 4, 5, 6] rfl)
                                · have c_6020i := i_nle (x := v_5999.toInt) (y := r_6019.toInt) rfl rfl c_6020
                                  refine lv_iload hx hb dX12_layTunes_123 (lv_at hl 0 rfl) ?_
                                  refine lv_goto (tgt := 130) hx hb dX12_layTunes_125 (by decide) ?_
                                  refine lv_istore (lv' := [(5, .int r_6019), (7, .int r_6019), (6, .int v_5998), (4, .int v_5862), (3, .int v_4886), (2, .int v_4058), (0, .ref m0)]) hx hb dX12_layTunes_130 hl (by decide) rfl (fun ls hl => ?_)
                                  obtain ⟨x_6022, ex_6022⟩ : ∃ y : Int32, y = v_5998 + Int32.ofInt 1 := ⟨_, rfl⟩
                                  have hx_6022 : x_6022.toInt = (v_5998.toInt + 1) := by rw [ex_6022]; exact i_add rfl (show (Int32.ofInt 1).toInt = 1 from rfl) (by omega)
                                  refine lv_iinc (v := x_6022) (lv' := [(6, .int x_6022), (5, .int r_6019), (7, .int r_6019), (4, .int v_5862), (3, .int v_4886), (2, .int v_4058), (0, .ref m0)]) hx hb dX12_layTunes_132 hl (k := 2) rfl (by rw [ex_6022]) (by decide) rfl (fun ls hl => ?_)
                                  refine lv_goto (tgt := 98) hx hb dX12_layTunes_135 (by decide) ?_
                                  exact ih_6013 x_6022 r_6019 (by rw [hx_6022]; omega) (by omega) (show MnT fw f_4059 f_5863 v_4886.toInt v_5862.toInt (x_6022 : Int32).toInt (r_6019 : Int32).toInt by rw [hx_6022]; exact MnT.lt hr0_lp_6012 (by omega) hmb_r_6019 (by omega)) (by omega) _ _ hP hD hS ls (lv_sub hl [0, 1, 3, 4, 5, 6] rfl)
                          have hz_6023 : (0 : Int32).toInt = 0 := rfl
                          have hz_6024 : (100000000 : Int32).toInt = 100000000 := rfl
                          exact lp_6012 ((8 - (0 : Int32).toInt : Int).toNat + 1) 0 100000000 (by decide) (by decide) (show MnT fw f_4059 f_5863 v_4886.toInt v_5862.toInt (0 : Int32).toInt (100000000 : Int32).toInt by exact MnT.base) (Nat.lt_succ_self _) _ _ hP hD hS ls (lv_sub hl [0, 1, 2, 3, 4, 5] rfl)
                    have hz_6025 : (0 : Int32).toInt = 0 := rfl
                    exact lp_5970 ((129 - (0 : Int32).toInt : Int).toNat + 1) 0 f_4887 (by decide) hf_4887_0 (show TOK fw f_4059 f_4887 v_4886.toInt (0 : Int32).toInt v_4058.toInt by exact hr0_lp_5646) (Nat.lt_succ_self _) _ _ hP hD hS ls (lv_sub hl [0, 1, 2, 3] rfl)
              exact lp_5646 (((x_4127 : Int32).toInt - (-2) : Int).toNat + 1) x_4127 f_4111 (by rw [hx_4127]; omega) hf_4111_0 (show TOK fw f_4059 f_4111 (x_4127 : Int32).toInt 0 v_4058.toInt by rw [hx_4127]; exact TOK.base hz128 (by omega)) (Nat.lt_succ_self _) _ _ hP hD hS ls (lv_sub hl [0, 1, 2] rfl)
            · have c_4126i := i_nle (x := 128) (y := v_4110.toInt) rfl rfl c_4126
              refine lv_aload_n hx hb dX12_layTunes_52 rfl (lv_at hl 2 rfl) ?_
              refine va_get (ci := 12) (v := .ref mo) (C := RX12) (T := TX12) (N := 60) hx hb hts hw12 hown hK hP 0 rfl rfl 47 (by decide) (hts (.fieldLink RX12 126 "SmokeTuneModel" "moved" "[I") (List.mem_cons_of_mem _ (List.mem_append_left _ (List.mem_of_getElem? (i := 2) rfl)))) (fun _ h9 => h9) rfl dX12_layTunes_53 ?_
              refine lv_sipush (v := 128) hx hb dX12_layTunes_56 (by decide) ?_
              refine lv_iload_n hx hb dX12_layTunes_59 rfl (lv_at hl 1 rfl) ?_
              refine lv_imul hx hb dX12_layTunes_60 ?_
              refine lv_topi (fun x_6026 ex_6026 => ?_)
              have hx_6026 : x_6026.toInt = (128 * v_4058.toInt) := by rw [ex_6026]; exact i_mul (show (128 : Int32).toInt = 128 from rfl) rfl (by omega)
              refine lv_iload_n hx hb dX12_layTunes_61 rfl (lv_at hl 0 rfl) ?_
              refine lv_iadd hx hb dX12_layTunes_62 ?_
              refine lv_topi (fun x_6027 ex_6027 => ?_)
              have hx_6027 : x_6027.toInt = ((128 * v_4058.toInt) + v_4110.toInt) := by rw [ex_6027]; exact i_add hx_6026 rfl (by omega)
              refine lv_iconst (v := 0) hx hb dX12_layTunes_63 (by decide) ?_
              refine va_iast hx hb hK hP hD hS 3 0 rfl rfl (i_in hx_6027 (by omega)) dX12_layTunes_64 (fun H locs hP hD hS => ?_)
              generalize hf_6028 : (upd f_4111 (x_6027 : Int32).toNatClampNeg 0) = f_6028 at hP hD
              have hf_6028_0 : Rg 1152 0 100000000 f_6028 := by rw [← hf_6028]; exact Rg.upd hf_4111_0 (show (0 : Int32).toInt = 0 from rfl) (by omega)
              have hP : va_P D vwCl [(m0, .inr (12, [m_0, m_1, m_2, .ref w0, m_4, m_5, m_6, m_7, m_8, m_9, m_10, m_11, m_12, m_13, m_14, m_15, m_16, m_17, m_18, m_19, m_20, m_21, m_22, m_23, m_24, m_25, m_26, m_27, m_28, m_29, m_30, m_31, m_32, m_33, m_34, m_35, m_36, m_37, m_38, m_39, m_40, m_41, m_42, m_43, m_44, m_45, m_46, .ref mo, .ref pl, m_49, m_50, m_51, m_52, m_53, m_54, m_55, m_56, m_57, m_58, m_59])), (w0, .inl (K 0, 5500, .inl fw)), (pl, .inl (K 0, 8, .inl f_4059)), (mo, .inl (K 0, 1152, .inl f_6028))] H := hP
              have hD : va_D A [(m0, .inr (12, [m_0, m_1, m_2, .ref w0, m_4, m_5, m_6, m_7, m_8, m_9, m_10, m_11, m_12, m_13, m_14, m_15, m_16, m_17, m_18, m_19, m_20, m_21, m_22, m_23, m_24, m_25, m_26, m_27, m_28, m_29, m_30, m_31, m_32, m_33, m_34, m_35, m_36, m_37, m_38, m_39, m_40, m_41, m_42, m_43, m_44, m_45, m_46, .ref mo, .ref pl, m_49, m_50, m_51, m_52, m_53, m_54, m_55, m_56, m_57, m_58, m_59])), (w0, .inl (K 0, 5500, .inl fw)), (pl, .inl (K 0, 8, .inl f_4059)), (mo, .inl (K 0, 1152, .inl f_6028))] := hD
              obtain ⟨x_6029, ex_6029⟩ : ∃ y : Int32, y = v_4110 + Int32.ofInt 1 := ⟨_, rfl⟩
              have hx_6029 : x_6029.toInt = (v_4110.toInt + 1) := by rw [ex_6029]; exact i_add rfl (show (Int32.ofInt 1).toInt = 1 from rfl) (by omega)
              refine lv_iinc (v := x_6029) (lv' := [(3, .int x_6029), (2, .int v_4058), (0, .ref m0)]) hx hb dX12_layTunes_65 hl (k := 0) rfl (by rw [ex_6029]) (by decide) rfl (fun ls hl => ?_)
              refine lv_goto (tgt := 45) hx hb dX12_layTunes_68 (by decide) ?_
              exact ih_4125 x_6029 f_6028 (by rw [hx_6029]; omega) hf_6028_0 (show Zr f_6028 v_4058.toInt (x_6029 : Int32).toInt by rw [← hf_6028, i_clamp (x := x_6027) (z := ((128 * v_4058.toInt) + v_4110.toInt)) hx_6027, hx_6029]; exact Zr.put hr0_lp_4124 (by omega)) (by omega) _ _ hP hD hS ls (lv_sub hl [0, 1, 2] rfl)
        have hz_6030 : (0 : Int32).toInt = 0 := rfl
        exact lp_4124 ((129 - (0 : Int32).toInt : Int).toNat + 1) 0 fm (by decide) zfm (show Zr fm v_4058.toInt (0 : Int32).toInt by exact Zr.base) (Nat.lt_succ_self _) _ _ hP hD hS ls (lv_sub hl [0, 1, 2] rfl)
      · have c_4084i := i_nle (x := x_4083.toInt) (y := v_4057.toInt) rfl rfl c_4084
        refine lv_aload_n hx hb dX12_layTunes_14 rfl (lv_at hl 2 rfl) ?_
        refine va_get (ci := 12) (v := .ref w0) (C := RX12) (T := TX12) (N := 60) hx hb hts hw12 hown hK hP 0 rfl rfl 3 (by decide) (hts (.fieldLink RX12 13 "SmokeTuneModel" "row" "[I") (List.mem_cons_of_mem _ (List.mem_append_left _ (List.mem_of_getElem? (i := 0) rfl)))) (fun _ h9 => h9) rfl dX12_layTunes_15 ?_
        refine lv_bipush (v := 43) hx hb dX12_layTunes_18 (by decide) ?_
        refine lv_iload_n hx hb dX12_layTunes_20 rfl (lv_at hl 0 rfl) ?_
        refine lv_iadd hx hb dX12_layTunes_21 ?_
        refine lv_topi (fun x_6031 ex_6031 => ?_)
        have hx_6031 : x_6031.toInt = (43 + v_4057.toInt) := by rw [ex_6031]; exact i_add (show (43 : Int32).toInt = 43 from rfl) rfl (by omega)
        refine va_iald hx hb hK hP 1 0 rfl rfl (i_in hx_6031 (by omega)) dX12_layTunes_22 ?_
        refine lv_topi (fun x_6032 ex_6032 => ?_)
        have px_6032 := RowOK.at zfw hx_6031 (show 0 ≤ (43 + v_4057.toInt) ∧ (43 + v_4057.toInt) < 100 by omega)
        rw [← ex_6032] at px_6032
        refine lv_iload_n hx hb dX12_layTunes_23 rfl (lv_at hl 3 rfl) ?_
        refine lv_icmp_ne (tgt := 37) hx hb dX12_layTunes_24 (by decide) (fun c_6033 => ?_) (fun c_6033 => ?_)
        · have c_6033i := i_ne (x := x_6032.toInt) (y := x.toInt) rfl rfl c_6033
          obtain ⟨x_6034, ex_6034⟩ : ∃ y : Int32, y = v_4057 + Int32.ofInt 1 := ⟨_, rfl⟩
          have hx_6034 : x_6034.toInt = (v_4057.toInt + 1) := by rw [ex_6034]; exact i_add rfl (show (Int32.ofInt 1).toInt = 1 from rfl) (by omega)
          refine lv_iinc (v := x_6034) (lv' := [(3, .int x_6034), (2, .int v_4058), (0, .ref m0), (1, .int x)]) hx hb dX12_layTunes_37 hl (k := 0) rfl (by rw [ex_6034]) (by decide) rfl (fun ls hl => ?_)
          refine lv_goto (tgt := 4) hx hb dX12_layTunes_40 (by decide) ?_
          exact ih_4082 x_6034 v_4058 f_4059 (by rw [hx_6034]; omega) (by omega) hf_4059_0 (show 0 ≤ (v_4058 : Int32).toInt ∧ (v_4058 : Int32).toInt ≤ (x_6034 : Int32).toInt by omega) (by omega) _ _ hP hD hS ls (lv_sub hl [0, 1, 2, 3] rfl)
        · have c_6033i := i_eq (x := x_6032.toInt) (y := x.toInt) rfl rfl c_6033
          refine lv_aload_n hx hb dX12_layTunes_27 rfl (lv_at hl 2 rfl) ?_
          refine va_get (ci := 12) (v := .ref pl) (C := RX12) (T := TX12) (N := 60) hx hb hts hw12 hown hK hP 0 rfl rfl 48 (by decide) (hts (.fieldLink RX12 129 "SmokeTuneModel" "players" "[I") (List.mem_cons_of_mem _ (List.mem_append_left _ (List.mem_of_getElem? (i := 1) rfl)))) (fun _ h9 => h9) rfl dX12_layTunes_28 ?_
          refine lv_iload_n hx hb dX12_layTunes_31 rfl (lv_at hl 1 rfl) ?_
          refine lv_iload_n hx hb dX12_layTunes_32 rfl (lv_at hl 0 rfl) ?_
          refine va_iast hx hb hK hP hD hS 2 0 rfl rfl (i_in rfl (by omega)) dX12_layTunes_33 (fun H locs hP hD hS => ?_)
          generalize hf_6035 : (upd f_4059 (v_4058 : Int32).toNatClampNeg v_4057) = f_6035 at hP hD
          have hf_6035_0 : Rg 8 0 7 f_6035 := by rw [← hf_6035]; exact Rg.upd hf_4059_0 rfl (by omega)
          have hP : va_P D vwCl [(m0, .inr (12, [m_0, m_1, m_2, .ref w0, m_4, m_5, m_6, m_7, m_8, m_9, m_10, m_11, m_12, m_13, m_14, m_15, m_16, m_17, m_18, m_19, m_20, m_21, m_22, m_23, m_24, m_25, m_26, m_27, m_28, m_29, m_30, m_31, m_32, m_33, m_34, m_35, m_36, m_37, m_38, m_39, m_40, m_41, m_42, m_43, m_44, m_45, m_46, .ref mo, .ref pl, m_49, m_50, m_51, m_52, m_53, m_54, m_55, m_56, m_57, m_58, m_59])), (w0, .inl (K 0, 5500, .inl fw)), (pl, .inl (K 0, 8, .inl f_6035)), (mo, .inl (K 0, 1152, .inl fm))] H := hP
          have hD : va_D A [(m0, .inr (12, [m_0, m_1, m_2, .ref w0, m_4, m_5, m_6, m_7, m_8, m_9, m_10, m_11, m_12, m_13, m_14, m_15, m_16, m_17, m_18, m_19, m_20, m_21, m_22, m_23, m_24, m_25, m_26, m_27, m_28, m_29, m_30, m_31, m_32, m_33, m_34, m_35, m_36, m_37, m_38, m_39, m_40, m_41, m_42, m_43, m_44, m_45, m_46, .ref mo, .ref pl, m_49, m_50, m_51, m_52, m_53, m_54, m_55, m_56, m_57, m_58, m_59])), (w0, .inl (K 0, 5500, .inl fw)), (pl, .inl (K 0, 8, .inl f_6035)), (mo, .inl (K 0, 1152, .inl fm))] := hD
          obtain ⟨x_6036, ex_6036⟩ : ∃ y : Int32, y = v_4058 + Int32.ofInt 1 := ⟨_, rfl⟩
          have hx_6036 : x_6036.toInt = (v_4058.toInt + 1) := by rw [ex_6036]; exact i_add rfl (show (Int32.ofInt 1).toInt = 1 from rfl) (by omega)
          refine lv_iinc (v := x_6036) (lv' := [(2, .int x_6036), (3, .int v_4057), (0, .ref m0), (1, .int x)]) hx hb dX12_layTunes_34 hl (k := 1) rfl (by rw [ex_6036]) (by decide) rfl (fun ls hl => ?_)
          obtain ⟨x_6037, ex_6037⟩ : ∃ y : Int32, y = v_4057 + Int32.ofInt 1 := ⟨_, rfl⟩
          have hx_6037 : x_6037.toInt = (v_4057.toInt + 1) := by rw [ex_6037]; exact i_add rfl (show (Int32.ofInt 1).toInt = 1 from rfl) (by omega)
          refine lv_iinc (v := x_6037) (lv' := [(3, .int x_6037), (2, .int x_6036), (0, .ref m0), (1, .int x)]) hx hb dX12_layTunes_37 hl (k := 1) rfl (by rw [ex_6037]) (by decide) rfl (fun ls hl => ?_)
          refine lv_goto (tgt := 4) hx hb dX12_layTunes_40 (by decide) ?_
          exact ih_4082 x_6037 x_6036 f_6035 (by rw [hx_6037]; omega) (by rw [hx_6036]; omega) hf_6035_0 (show 0 ≤ (x_6036 : Int32).toInt ∧ (x_6036 : Int32).toInt ≤ (x_6037 : Int32).toInt by omega) (by omega) _ _ hP hD hS ls (lv_sub hl [0, 1, 2, 3] rfl)
  have hz_6038 : (0 : Int32).toInt = 0 := rfl
  have hz_6039 : (0 : Int32).toInt = 0 := rfl
  exact lp_4081 ((9 - (0 : Int32).toInt : Int).toNat + 1) 0 0 fp (by decide) (by decide) zfp (show 0 ≤ (0 : Int32).toInt ∧ (0 : Int32).toInt ≤ (0 : Int32).toInt by omega) (Nat.lt_succ_self _) _ _ hP hD hS ls (lv_sub hl [0, 1, 2, 3] rfl)
set_option maxHeartbeats 4000000 in
set_option maxRecDepth 100000 in
theorem v_tune (l : Launch) (D : va_G) (K : Nat → ClassId) (m0 : Nat) (x : Int32) (y : Int32) (thr : Int32) (m_1 : Value) (m_2 : Value) (w0 : Nat) (m_4 : Value) (m_5 : Value) (m_6 : Value) (m_7 : Value) (m_8 : Value) (m_9 : Value) (m_10 : Value) (m_11 : Value) (m_12 : Value) (m_13 : Value) (m_14 : Value) (m_15 : Value) (m_16 : Value) (m_17 : Value) (m_18 : Value) (m_19 : Value) (m_20 : Value) (m_21 : Value) (m_22 : Value) (m_23 : Value) (m_24 : Value) (m_25 : Value) (m_26 : Value) (m_27 : Value) (m_28 : Value) (m_29 : Value) (m_30 : Value) (m_31 : Value) (m_32 : Value) (m_33 : Value) (m_34 : Value) (m_35 : Value) (m_36 : Value) (m_37 : Value) (m_38 : Value) (m_39 : Value) (m_40 : Value) (m_41 : Value) (m_42 : Value) (m_43 : Value) (m_44 : Value) (m_45 : Value) (m_46 : Value) (mo : Nat) (pl : Nat) (m_49 : Value) (m_50 : Value) (m_51 : Value) (m_52 : Value) (m_53 : Value) (m_54 : Value) (m_55 : Value) (m_56 : Value) (m_57 : Value) (m_58 : Value) (m_59 : Value) (fw : Nat → Int32) (fp : Nat → Int32) (fm : Nat → Int32) (sz : Nat) (zfw : RowOK fw) (zfp : Rg 8 0 7 fp) (zfm : Rg 1152 0 100000000 fm) : Met l yX12_tune wsX12_tune ({ frames := 4, cells := 0, slots := 0, locals := 93 }) (va_Pc [.ref m0, .int x, .int y] (Pre D K [(m0, .inr (12, [.int thr, m_1, m_2, .ref w0, m_4, m_5, m_6, m_7, m_8, m_9, m_10, m_11, m_12, m_13, m_14, m_15, m_16, m_17, m_18, m_19, m_20, m_21, m_22, m_23, m_24, m_25, m_26, m_27, m_28, m_29, m_30, m_31, m_32, m_33, m_34, m_35, m_36, m_37, m_38, m_39, m_40, m_41, m_42, m_43, m_44, m_45, m_46, .ref mo, .ref pl, m_49, m_50, m_51, m_52, m_53, m_54, m_55, m_56, m_57, m_58, m_59])), (w0, .inl (K 0, 5500, .inl fw)), (pl, .inl (K 0, 8, .inl fp)), (mo, .inl (K 0, 1152, .inl fm))] sz)) (va_Qi (S := Su) (fun (r : Int32) (u : Su) => ((-1) ≤ r.toInt ∧ r.toInt ≤ 100000000) ∧ (Rg 8 0 7 (u.2.1 0)) ∧ (Rg 1152 0 100000000 (u.2.1 1)) ∧ True) (fun u t => Wd D (va_A [(m0, .inr (12, [.int thr, m_1, m_2, .ref w0, m_4, m_5, m_6, m_7, m_8, m_9, m_10, m_11, m_12, m_13, m_14, m_15, m_16, m_17, m_18, m_19, m_20, m_21, m_22, m_23, m_24, m_25, m_26, m_27, m_28, m_29, m_30, m_31, m_32, m_33, m_34, m_35, m_36, m_37, m_38, m_39, m_40, m_41, m_42, m_43, m_44, m_45, m_46, .ref mo, .ref pl, m_49, m_50, m_51, m_52, m_53, m_54, m_55, m_56, m_57, m_58, m_59])), (w0, .inl (K 0, 5500, .inl fw)), (pl, .inl (K 0, 8, .inl fp)), (mo, .inl (K 0, 1152, .inl fm))] sz) ((fun u => [(m0, .inr (12, [.int 0, m_1, m_2, .ref w0, m_4, m_5, m_6, m_7, m_8, m_9, m_10, m_11, m_12, m_13, m_14, m_15, m_16, m_17, m_18, m_19, m_20, m_21, m_22, m_23, m_24, m_25, m_26, m_27, m_28, m_29, m_30, m_31, m_32, m_33, m_34, m_35, m_36, m_37, m_38, m_39, m_40, m_41, m_42, m_43, m_44, m_45, m_46, .ref mo, .ref pl, m_49, m_50, m_51, m_52, m_53, m_54, m_55, m_56, m_57, m_58, m_59])), (w0, .inl (K 0, 5500, .inl fw)), (pl, .inl (K 0, 8, .inl (u.2.1 0))), (mo, .inl (K 0, 1152, .inl (u.2.1 1)))]) u) t) (va_A [(m0, .inr (12, [.int thr, m_1, m_2, .ref w0, m_4, m_5, m_6, m_7, m_8, m_9, m_10, m_11, m_12, m_13, m_14, m_15, m_16, m_17, m_18, m_19, m_20, m_21, m_22, m_23, m_24, m_25, m_26, m_27, m_28, m_29, m_30, m_31, m_32, m_33, m_34, m_35, m_36, m_37, m_38, m_39, m_40, m_41, m_42, m_43, m_44, m_45, m_46, .ref mo, .ref pl, m_49, m_50, m_51, m_52, m_53, m_54, m_55, m_56, m_57, m_58, m_59])), (w0, .inl (K 0, 5500, .inl fw)), (pl, .inl (K 0, 8, .inl fp)), (mo, .inl (K 0, 1152, .inl fm))] sz)) 0 0 (va_A [(m0, .inr (12, [.int thr, m_1, m_2, .ref w0, m_4, m_5, m_6, m_7, m_8, m_9, m_10, m_11, m_12, m_13, m_14, m_15, m_16, m_17, m_18, m_19, m_20, m_21, m_22, m_23, m_24, m_25, m_26, m_27, m_28, m_29, m_30, m_31, m_32, m_33, m_34, m_35, m_36, m_37, m_38, m_39, m_40, m_41, m_42, m_43, m_44, m_45, m_46, .ref mo, .ref pl, m_49, m_50, m_51, m_52, m_53, m_54, m_55, m_56, m_57, m_58, m_59])), (w0, .inl (K 0, 5500, .inl fw)), (pl, .inl (K 0, 8, .inl fp)), (mo, .inl (K 0, 1152, .inl fm))] sz) := by
  refine Met.ofW (cc := cX12_tune) (maxL := 7) (ret := (some .int)) (by decide) rfl ?_
  intro p e s m args below meth c s₁ B hml hv
  obtain ⟨rfl, hsz, hP, hK, hD0, hN⟩ := hv
  have hx := B.exec
  have hb := B.bytes
  have hr := B.returns
  have hts := atoms_spec (ws := wsX12_tune) B.pre
  have hown : s.vm.findClass RX12 = some m.cls := findClass_of_methodNamed B.named
  have hlocks := B.notSynchronized
  subst hsz
  have hD := hD0.self (sz := s.heap.size)
  generalize hAe : va_A [(m0, .inr (12, [.int thr, m_1, m_2, .ref w0, m_4, m_5, m_6, m_7, m_8, m_9, m_10, m_11, m_12, m_13, m_14, m_15, m_16, m_17, m_18, m_19, m_20, m_21, m_22, m_23, m_24, m_25, m_26, m_27, m_28, m_29, m_30, m_31, m_32, m_33, m_34, m_35, m_36, m_37, m_38, m_39, m_40, m_41, m_42, m_43, m_44, m_45, m_46, .ref mo, .ref pl, m_49, m_50, m_51, m_52, m_53, m_54, m_55, m_56, m_57, m_58, m_59])), (w0, .inl (K 0, 5500, .inl fw)), (pl, .inl (K 0, 8, .inl fp)), (mo, .inl (K 0, 1152, .inl fm))] s.heap.size = A at hD ⊢
  have hA : ∀ q : Nat, s.heap.size ≤ q → A q := fun q h => by rw [← hAe]; exact Or.inr h
  have hS : va_S A s.heap s.heap [] := va_S.rf
  have hP : va_P D vwCl [(m0, .inr (12, [.int thr, m_1, m_2, .ref w0, m_4, m_5, m_6, m_7, m_8, m_9, m_10, m_11, m_12, m_13, m_14, m_15, m_16, m_17, m_18, m_19, m_20, m_21, m_22, m_23, m_24, m_25, m_26, m_27, m_28, m_29, m_30, m_31, m_32, m_33, m_34, m_35, m_36, m_37, m_38, m_39, m_40, m_41, m_42, m_43, m_44, m_45, m_46, .ref mo, .ref pl, m_49, m_50, m_51, m_52, m_53, m_54, m_55, m_56, m_57, m_58, m_59])), (w0, .inl (K 0, 5500, .inl fw)), (pl, .inl (K 0, 8, .inl fp)), (mo, .inl (K 0, 1152, .inl fm))] s.heap := hP
  have hl := lv_entry [.ref m0, .int x, .int y] (n := 7) (Nat.le_of_ble_eq_true rfl)
  rw [lg_entry_eq]
  generalize (lg_sl [.ref m0, .int x, .int y] ++ List.replicate (7 - (lg_sl [.ref m0, .int x, .int y]).length) Slot.unset).toArray = ls at hl ⊢
  have hl : lv_has ls 7 [(0, .ref m0), (1, .int x), (2, .int y)] := hl
  have hw12 : ∀ w ∈ wsX120, w ∈ wsX12_tune := fun w h => (List.mem_cons_of_mem _ (List.mem_append_right _ h))
  generalize hQ : MQ below _ _ s _ _ _ = Q
  refine lv_aload_n hx hb dX12_tune_0 rfl (lv_at hl 0 rfl) ?_
  refine lv_iconst (v := 0) hx hb dX12_tune_1 (by decide) ?_
  refine va_put (ci := 12) (v := .int 0) (ty := .int) (C := RX12) (T := TX12) (N := 60) hx hb hts hw12 tyX12 tyX12_ok nmX12 hown hK hP hD hS 0 rfl rfl 0 (by decide) (hts (.fieldLink RX12 158 "SmokeTuneModel" "thrown" "I") (List.mem_cons_of_mem _ (List.mem_append_left _ (List.mem_append_left _ (List.mem_of_getElem? (i := 0) rfl))))) (fun _ h9 => h9) rfl (by decide +kernel) (by first | rfl | decide) (by first | rfl | decide) (Nat.le_of_ble_eq_true rfl) dX12_tune_2 (fun H locs hP hD hS => ?_)
  have hP : va_P D vwCl [(m0, .inr (12, [.int 0, m_1, m_2, .ref w0, m_4, m_5, m_6, m_7, m_8, m_9, m_10, m_11, m_12, m_13, m_14, m_15, m_16, m_17, m_18, m_19, m_20, m_21, m_22, m_23, m_24, m_25, m_26, m_27, m_28, m_29, m_30, m_31, m_32, m_33, m_34, m_35, m_36, m_37, m_38, m_39, m_40, m_41, m_42, m_43, m_44, m_45, m_46, .ref mo, .ref pl, m_49, m_50, m_51, m_52, m_53, m_54, m_55, m_56, m_57, m_58, m_59])), (w0, .inl (K 0, 5500, .inl fw)), (pl, .inl (K 0, 8, .inl fp)), (mo, .inl (K 0, 1152, .inl fm))] H := hP
  have hD : va_D A [(m0, .inr (12, [.int 0, m_1, m_2, .ref w0, m_4, m_5, m_6, m_7, m_8, m_9, m_10, m_11, m_12, m_13, m_14, m_15, m_16, m_17, m_18, m_19, m_20, m_21, m_22, m_23, m_24, m_25, m_26, m_27, m_28, m_29, m_30, m_31, m_32, m_33, m_34, m_35, m_36, m_37, m_38, m_39, m_40, m_41, m_42, m_43, m_44, m_45, m_46, .ref mo, .ref pl, m_49, m_50, m_51, m_52, m_53, m_54, m_55, m_56, m_57, m_58, m_59])), (w0, .inl (K 0, 5500, .inl fw)), (pl, .inl (K 0, 8, .inl fp)), (mo, .inl (K 0, 1152, .inl fm))] := hD
  refine lv_iload_n hx hb dX12_tune_5 rfl (lv_at hl 1 rfl) ?_
  refine lv_i2l hx hb dX12_tune_6 rfl ?_
  refine lv_topl (fun x_2613 ex_2613 => ?_)
  have hx_2613 : x_2613.toInt = x.toInt := by rw [ex_2613]; exact i_wide rfl
  have hbx_2613 := i_rng (a := x) rfl
  refine lv_lconst (v := 0) hx hb dX12_tune_7 (by decide) ?_
  refine lv_ldc2 (v := 3) hx hb hown (hts (.constantLong RX12 191 (3)) (List.mem_cons_of_mem _ (List.mem_append_left _ (List.mem_append_left _ (List.mem_of_getElem? (i := 1) rfl))))) dX12_tune_8 ?_
  have j_3266 : ∀ (H : Heap) (locs : List Loc) (hP : va_P D vwCl [(m0, .inr (12, [.int 0, m_1, m_2, .ref w0, m_4, m_5, m_6, m_7, m_8, m_9, m_10, m_11, m_12, m_13, m_14, m_15, m_16, m_17, m_18, m_19, m_20, m_21, m_22, m_23, m_24, m_25, m_26, m_27, m_28, m_29, m_30, m_31, m_32, m_33, m_34, m_35, m_36, m_37, m_38, m_39, m_40, m_41, m_42, m_43, m_44, m_45, m_46, .ref mo, .ref pl, m_49, m_50, m_51, m_52, m_53, m_54, m_55, m_56, m_57, m_58, m_59])), (w0, .inl (K 0, 5500, .inl fw)), (pl, .inl (K 0, 8, .inl fp)), (mo, .inl (K 0, 1152, .inl fm))] H) (hD : va_D A [(m0, .inr (12, [.int 0, m_1, m_2, .ref w0, m_4, m_5, m_6, m_7, m_8, m_9, m_10, m_11, m_12, m_13, m_14, m_15, m_16, m_17, m_18, m_19, m_20, m_21, m_22, m_23, m_24, m_25, m_26, m_27, m_28, m_29, m_30, m_31, m_32, m_33, m_34, m_35, m_36, m_37, m_38, m_39, m_40, m_41, m_42, m_43, m_44, m_45, m_46, .ref mo, .ref pl, m_49, m_50, m_51, m_52, m_53, m_54, m_55, m_56, m_57, m_58, m_59])), (w0, .inl (K 0, 5500, .inl fw)), (pl, .inl (K 0, 8, .inl fp)), (mo, .inl (K 0, 1152, .inl fm))]) (hS : va_S A s.heap H locs) (ls : Array Slot) (hl : lv_has ls 7 []), W p l e ({ frames := 4, cells := 0, slots := 0, locals := 93 }) s m (([.ref m0, .int x, .int y] : List Value).toArray) below meth c H locs 0 0 Q (F0 m 50 ls []) := by
    intro H locs hP hD hS ls hl
    refine lv_iconst (v := (-1)) hx hb dX12_tune_50 (by decide) ?_
    subst hQ
    have hP9 := hP.sub (ws' := [(m0, .inr (12, [.int 0, m_1, m_2, .ref w0, m_4, m_5, m_6, m_7, m_8, m_9, m_10, m_11, m_12, m_13, m_14, m_15, m_16, m_17, m_18, m_19, m_20, m_21, m_22, m_23, m_24, m_25, m_26, m_27, m_28, m_29, m_30, m_31, m_32, m_33, m_34, m_35, m_36, m_37, m_38, m_39, m_40, m_41, m_42, m_43, m_44, m_45, m_46, .ref mo, .ref pl, m_49, m_50, m_51, m_52, m_53, m_54, m_55, m_56, m_57, m_58, m_59])), (w0, .inl (K 0, 5500, .inl fw)), (pl, .inl (K 0, 8, .inl fp)), (mo, .inl (K 0, 1152, .inl fm))]) [0, 1, 2, 3] rfl
    have hD9 := hD.sub (ws' := [(m0, .inr (12, [.int 0, m_1, m_2, .ref w0, m_4, m_5, m_6, m_7, m_8, m_9, m_10, m_11, m_12, m_13, m_14, m_15, m_16, m_17, m_18, m_19, m_20, m_21, m_22, m_23, m_24, m_25, m_26, m_27, m_28, m_29, m_30, m_31, m_32, m_33, m_34, m_35, m_36, m_37, m_38, m_39, m_40, m_41, m_42, m_43, m_44, m_45, m_46, .ref mo, .ref pl, m_49, m_50, m_51, m_52, m_53, m_54, m_55, m_56, m_57, m_58, m_59])), (w0, .inl (K 0, 5500, .inl fw)), (pl, .inl (K 0, 8, .inl fp)), (mo, .inl (K 0, 1152, .inl fm))]) [0, 1, 2, 3] (by decide) rfl
    exact W.iret (v := (-1)) hx hb hr (fun t ht hW => ⟨⟨(-1), ((fun _ => 0, fun i => match i with | 0 => fp | _ => fm, fun _ => fun _ => 0, fun _ => 0, fun _ => 0, fun _ => fun _ => none) : Su), rfl, ⟨(show (-1) ≤ ((-1) : Int32).toInt ∧ ((-1) : Int32).toInt ≤ 100000000 by decide), zfp, zfm, trivial⟩, (⟨by rw [ht]; exact hP9, hD9⟩ : Wd D A _ t)⟩, hS.F ht⟩) hS.2.2 dX12_tune_51
  refine pci (va_runS (As := [.long x_2613, .long 0, .long 3]) (rest := []) ⟨hx, hb, hml, hown, hts⟩ (v_in l D K x.toInt 0 3 x_2613 0 3 H.size hx_2613 (show (0 : Int64).toInt = 0 from rfl) (show (3 : Int64).toInt = 3 from rfl)) (va_cwS 3 hts gX12_tune_X12_in rfl rfl rfl (by decide +kernel) ⟨Nat.le_of_ble_eq_true rfl, Nat.le_of_ble_eq_true rfl⟩) (mkS hK hN (va_P.nil) (va_D.nil (A := fun _ => True))) rfl rfl hl.1 rfl (lv_room (Nat.le_of_ble_eq_true rfl)) dX12_tune_11 ⟨Nat.le_of_ble_eq_true rfl, Nat.le_of_ble_eq_true rfl⟩) (fun r_3267 hw => ?_)
  obtain ⟨hw, -⟩ := hw
  rcases hw with ⟨rfl, h_3268, h_3269⟩ | ⟨rfl, h_3270⟩
  · refine lv_if_eq (tgt := 50) hx hb dX12_tune_14 (by decide) (fun c_3271 => absurd c_3271 (by decide)) (fun c_3271 => ?_)
    refine lv_iload_n hx hb dX12_tune_17 rfl (lv_at hl 2 rfl) ?_
    refine lv_if_lt (tgt := 50) hx hb dX12_tune_18 (by decide) (fun c_3272 => ?_) (fun c_3272 => ?_)
    · have c_3272i := i_lt (x := y.toInt) (y := 0) rfl rfl c_3272
      exact j_3266   _ _ hP hD hS ls (lv_sub hl [] rfl)
    · have c_3272i := i_nlt (x := y.toInt) (y := 0) rfl rfl c_3272
      refine lv_iload_n hx hb dX12_tune_21 rfl (lv_at hl 2 rfl) ?_
      have j_3595 : ∀ (H : Heap) (locs : List Loc) (hP : va_P D vwCl [(m0, .inr (12, [.int 0, m_1, m_2, .ref w0, m_4, m_5, m_6, m_7, m_8, m_9, m_10, m_11, m_12, m_13, m_14, m_15, m_16, m_17, m_18, m_19, m_20, m_21, m_22, m_23, m_24, m_25, m_26, m_27, m_28, m_29, m_30, m_31, m_32, m_33, m_34, m_35, m_36, m_37, m_38, m_39, m_40, m_41, m_42, m_43, m_44, m_45, m_46, .ref mo, .ref pl, m_49, m_50, m_51, m_52, m_53, m_54, m_55, m_56, m_57, m_58, m_59])), (w0, .inl (K 0, 5500, .inl fw)), (pl, .inl (K 0, 8, .inl fp)), (mo, .inl (K 0, 1152, .inl fm))] H) (hD : va_D A [(m0, .inr (12, [.int 0, m_1, m_2, .ref w0, m_4, m_5, m_6, m_7, m_8, m_9, m_10, m_11, m_12, m_13, m_14, m_15, m_16, m_17, m_18, m_19, m_20, m_21, m_22, m_23, m_24, m_25, m_26, m_27, m_28, m_29, m_30, m_31, m_32, m_33, m_34, m_35, m_36, m_37, m_38, m_39, m_40, m_41, m_42, m_43, m_44, m_45, m_46, .ref mo, .ref pl, m_49, m_50, m_51, m_52, m_53, m_54, m_55, m_56, m_57, m_58, m_59])), (w0, .inl (K 0, 5500, .inl fw)), (pl, .inl (K 0, 8, .inl fp)), (mo, .inl (K 0, 1152, .inl fm))]) (hS : va_S A s.heap H locs) (ls : Array Slot) (hl : lv_has ls 7 [(0, .ref m0), (1, .int x), (2, .int y)]), W p l e ({ frames := 4, cells := 0, slots := 0, locals := 93 }) s m (([.ref m0, .int x, .int y] : List Value).toArray) below meth c H locs 0 0 Q (F0 m 52 ls []) := by
        intro H locs hP hD hS ls hl
        refine lv_aload_n hx hb dX12_tune_52 rfl (lv_at hl 0 rfl) ?_
        refine lv_iload_n hx hb dX12_tune_53 rfl (lv_at hl 1 rfl) ?_
        refine kci (S := Su) (wr := []) (va_runV (As := [.int x]) (rest := []) ⟨hx, hb, hml, hown, hts⟩ (v_layTunes l D K m0 x (.int 0) m_1 m_2 w0 m_4 m_5 m_6 m_7 m_8 m_9 m_10 m_11 m_12 m_13 m_14 m_15 m_16 m_17 m_18 m_19 m_20 m_21 m_22 m_23 m_24 m_25 m_26 m_27 m_28 m_29 m_30 m_31 m_32 m_33 m_34 m_35 m_36 m_37 m_38 m_39 m_40 m_41 m_42 m_43 m_44 m_45 m_46 mo pl m_49 m_50 m_51 m_52 m_53 m_54 m_55 m_56 m_57 m_58 m_59 fw fp fm H.size zfw zfp zfm) (cwV 1 hts gX12_tune_X12_layTunes rfl rfl rfl (by decide +kernel) ⟨Nat.le_of_ble_eq_true rfl, Nat.le_of_ble_eq_true rfl⟩) (mkV hK hN (hP.sub [0, 1, 2, 3] rfl) (hD.sub [0, 1, 2, 3] (by decide) rfl) (ci := 12) (q0 := 0) rfl rfl) rfl rfl hl.1 rfl (lv_room (Nat.le_of_ble_eq_true rfl)) dX12_tune_54 ⟨Nat.le_of_ble_eq_true rfl, Nat.le_of_ble_eq_true rfl⟩) hP hD hS hA [0, 1, 2, 3] [] rfl rfl (by decide) (by decide) (fun r_3596 u_3597 H locs hw hP hD hS => ?_)
        have hP : va_P D vwCl [(m0, .inr (12, [.int 0, m_1, m_2, .ref w0, m_4, m_5, m_6, m_7, m_8, m_9, m_10, m_11, m_12, m_13, m_14, m_15, m_16, m_17, m_18, m_19, m_20, m_21, m_22, m_23, m_24, m_25, m_26, m_27, m_28, m_29, m_30, m_31, m_32, m_33, m_34, m_35, m_36, m_37, m_38, m_39, m_40, m_41, m_42, m_43, m_44, m_45, m_46, .ref mo, .ref pl, m_49, m_50, m_51, m_52, m_53, m_54, m_55, m_56, m_57, m_58, m_59])), (w0, .inl (K 0, 5500, .inl fw)), (pl, .inl (K 0, 8, .inl (u_3597.2.1 0))), (mo, .inl (K 0, 1152, .inl (u_3597.2.1 1)))] H := hP
        have hD : va_D A [(m0, .inr (12, [.int 0, m_1, m_2, .ref w0, m_4, m_5, m_6, m_7, m_8, m_9, m_10, m_11, m_12, m_13, m_14, m_15, m_16, m_17, m_18, m_19, m_20, m_21, m_22, m_23, m_24, m_25, m_26, m_27, m_28, m_29, m_30, m_31, m_32, m_33, m_34, m_35, m_36, m_37, m_38, m_39, m_40, m_41, m_42, m_43, m_44, m_45, m_46, .ref mo, .ref pl, m_49, m_50, m_51, m_52, m_53, m_54, m_55, m_56, m_57, m_58, m_59])), (w0, .inl (K 0, 5500, .inl fw)), (pl, .inl (K 0, 8, .inl (u_3597.2.1 0))), (mo, .inl (K 0, 1152, .inl (u_3597.2.1 1)))] := hD
        obtain ⟨h_3601, k_3598, k_3599, k_3600, -⟩ := hw
        refine lv_istore_n (lv' := [(3, .int r_3596), (0, .ref m0), (1, .int x), (2, .int y)]) hx hb dX12_tune_57 rfl hl (by decide) rfl (fun ls hl => ?_)
        refine lv_iload_n hx hb dX12_tune_58 rfl (lv_at hl 3 rfl) ?_
        refine lv_if_ne (tgt := 69) hx hb dX12_tune_59 (by decide) (fun c_3602 => ?_) (fun c_3602 => ?_)
        · have c_3602i := i_ne (x := y.toInt) (y := 0) rfl rfl c_3602
          refine lv_iconst (v := 0) hx hb dX12_tune_69 (by decide) ?_
          refine lv_istore (lv' := [(4, .int 0), (3, .int r_3596), (0, .ref m0), (1, .int x), (2, .int y)]) hx hb dX12_tune_70 hl (by decide) rfl (fun ls hl => ?_)
          refine lv_iconst (v := 0) hx hb dX12_tune_72 (by decide) ?_
          refine lv_istore (lv' := [(5, .int 0), (4, .int 0), (3, .int r_3596), (0, .ref m0), (1, .int x), (2, .int y)]) hx hb dX12_tune_73 hl (by decide) rfl (fun ls hl => ?_)
          have lp_3855 : ∀ (nn_ : Nat) (v_3753 : Int32) (v_3754 : Int32) (hv_3753 : 0 ≤ v_3753.toInt ∧ v_3753.toInt ≤ 8) (hv_3754 : 0 ≤ v_3754.toInt ∧ v_3754.toInt ≤ 127) (hn : (9 - v_3753.toInt : Int).toNat < nn_) (H : Heap) (locs : List Loc) (hP : va_P D vwCl [(m0, .inr (12, [.int 0, m_1, m_2, .ref w0, m_4, m_5, m_6, m_7, m_8, m_9, m_10, m_11, m_12, m_13, m_14, m_15, m_16, m_17, m_18, m_19, m_20, m_21, m_22, m_23, m_24, m_25, m_26, m_27, m_28, m_29, m_30, m_31, m_32, m_33, m_34, m_35, m_36, m_37, m_38, m_39, m_40, m_41, m_42, m_43, m_44, m_45, m_46, .ref mo, .ref pl, m_49, m_50, m_51, m_52, m_53, m_54, m_55, m_56, m_57, m_58, m_59])), (w0, .inl (K 0, 5500, .inl fw)), (pl, .inl (K 0, 8, .inl (u_3597.2.1 0))), (mo, .inl (K 0, 1152, .inl (u_3597.2.1 1)))] H) (hD : va_D A [(m0, .inr (12, [.int 0, m_1, m_2, .ref w0, m_4, m_5, m_6, m_7, m_8, m_9, m_10, m_11, m_12, m_13, m_14, m_15, m_16, m_17, m_18, m_19, m_20, m_21, m_22, m_23, m_24, m_25, m_26, m_27, m_28, m_29, m_30, m_31, m_32, m_33, m_34, m_35, m_36, m_37, m_38, m_39, m_40, m_41, m_42, m_43, m_44, m_45, m_46, .ref mo, .ref pl, m_49, m_50, m_51, m_52, m_53, m_54, m_55, m_56, m_57, m_58, m_59])), (w0, .inl (K 0, 5500, .inl fw)), (pl, .inl (K 0, 8, .inl (u_3597.2.1 0))), (mo, .inl (K 0, 1152, .inl (u_3597.2.1 1)))]) (hS : va_S A s.heap H locs) (ls : Array Slot) (hl : lv_has ls 7 [(5, .int v_3753), (4, .int v_3754), (3, .int r_3596), (0, .ref m0), (2, .int y)]), W p l e ({ frames := 4, cells := 0, slots := 0, locals := 93 }) s m (([.ref m0, .int x, .int y] : List Value).toArray) below meth c H locs 0 0 Q (F0 m 75 ls []) := by
            intro nn_
            induction nn_ with
            | zero =>
              intro v_3753 v_3754 hv_3753 hv_3754 hn H locs hP hD hS ls hl
              exact absurd hn (Nat.not_lt_zero _)
            | succ nn_ ih_3856 =>
              intro v_3753 v_3754 hv_3753 hv_3754 hn H locs hP hD hS ls hl
              refine lv_iload hx hb dX12_tune_75 (lv_at hl 0 rfl) ?_
              refine lv_iload_n hx hb dX12_tune_77 rfl (lv_at hl 2 rfl) ?_
              refine lv_icmp_ge (tgt := 148) hx hb dX12_tune_78 (by decide) (fun c_3857 => ?_) (fun c_3857 => ?_)
              · have c_3857i := i_le (x := r_3596.toInt) (y := v_3753.toInt) rfl rfl c_3857
                refine lv_iconst (v := (-1)) hx hb dX12_tune_148 (by decide) ?_
                subst hQ
                have hP9 := hP.sub (ws' := [(m0, .inr (12, [.int 0, m_1, m_2, .ref w0, m_4, m_5, m_6, m_7, m_8, m_9, m_10, m_11, m_12, m_13, m_14, m_15, m_16, m_17, m_18, m_19, m_20, m_21, m_22, m_23, m_24, m_25, m_26, m_27, m_28, m_29, m_30, m_31, m_32, m_33, m_34, m_35, m_36, m_37, m_38, m_39, m_40, m_41, m_42, m_43, m_44, m_45, m_46, .ref mo, .ref pl, m_49, m_50, m_51, m_52, m_53, m_54, m_55, m_56, m_57, m_58, m_59])), (w0, .inl (K 0, 5500, .inl fw)), (pl, .inl (K 0, 8, .inl (u_3597.2.1 0))), (mo, .inl (K 0, 1152, .inl (u_3597.2.1 1)))]) [0, 1, 2, 3] rfl
                have hD9 := hD.sub (ws' := [(m0, .inr (12, [.int 0, m_1, m_2, .ref w0, m_4, m_5, m_6, m_7, m_8, m_9, m_10, m_11, m_12, m_13, m_14, m_15, m_16, m_17, m_18, m_19, m_20, m_21, m_22, m_23, m_24, m_25, m_26, m_27, m_28, m_29, m_30, m_31, m_32, m_33, m_34, m_35, m_36, m_37, m_38, m_39, m_40, m_41, m_42, m_43, m_44, m_45, m_46, .ref mo, .ref pl, m_49, m_50, m_51, m_52, m_53, m_54, m_55, m_56, m_57, m_58, m_59])), (w0, .inl (K 0, 5500, .inl fw)), (pl, .inl (K 0, 8, .inl (u_3597.2.1 0))), (mo, .inl (K 0, 1152, .inl (u_3597.2.1 1)))]) [0, 1, 2, 3] (by decide) rfl
                exact W.iret (v := (-1)) hx hb hr (fun t ht hW => ⟨⟨(-1), ((fun _ => 0, fun i => match i with | 0 => (u_3597.2.1 0) | _ => (u_3597.2.1 1), fun _ => fun _ => 0, fun _ => 0, fun _ => 0, fun _ => fun _ => none) : Su), rfl, ⟨(show (-1) ≤ ((-1) : Int32).toInt ∧ ((-1) : Int32).toInt ≤ 100000000 by decide), k_3598, k_3599, trivial⟩, (⟨by rw [ht]; exact hP9, hD9⟩ : Wd D A _ t)⟩, hS.F ht⟩) hS.2.2 dX12_tune_149
              · have c_3857i := i_nle (x := r_3596.toInt) (y := v_3753.toInt) rfl rfl c_3857
                refine lv_iconst (v := 0) hx hb dX12_tune_81 (by decide) ?_
                refine lv_istore (lv' := [(6, .int 0), (5, .int v_3753), (4, .int v_3754), (3, .int r_3596), (0, .ref m0), (2, .int y)]) hx hb dX12_tune_82 hl (by decide) rfl (fun ls hl => ?_)
                have lp_3891 : ∀ (nn_ : Nat) (v_3877 : Int32) (hv_3877 : 0 ≤ v_3877.toInt ∧ v_3877.toInt ≤ 6) (hr0_lp_3891 : WTu fw (u_3597.2.1 0) (u_3597.2.1 1) v_3753.toInt v_3754.toInt v_3877.toInt) (hn : (7 - v_3877.toInt : Int).toNat < nn_) (H : Heap) (locs : List Loc) (hP : va_P D vwCl [(m0, .inr (12, [.int 0, m_1, m_2, .ref w0, m_4, m_5, m_6, m_7, m_8, m_9, m_10, m_11, m_12, m_13, m_14, m_15, m_16, m_17, m_18, m_19, m_20, m_21, m_22, m_23, m_24, m_25, m_26, m_27, m_28, m_29, m_30, m_31, m_32, m_33, m_34, m_35, m_36, m_37, m_38, m_39, m_40, m_41, m_42, m_43, m_44, m_45, m_46, .ref mo, .ref pl, m_49, m_50, m_51, m_52, m_53, m_54, m_55, m_56, m_57, m_58, m_59])), (w0, .inl (K 0, 5500, .inl fw)), (pl, .inl (K 0, 8, .inl (u_3597.2.1 0))), (mo, .inl (K 0, 1152, .inl (u_3597.2.1 1)))] H) (hD : va_D A [(m0, .inr (12, [.int 0, m_1, m_2, .ref w0, m_4, m_5, m_6, m_7, m_8, m_9, m_10, m_11, m_12, m_13, m_14, m_15, m_16, m_17, m_18, m_19, m_20, m_21, m_22, m_23, m_24, m_25, m_26, m_27, m_28, m_29, m_30, m_31, m_32, m_33, m_34, m_35, m_36, m_37, m_38, m_39, m_40, m_41, m_42, m_43, m_44, m_45, m_46, .ref mo, .ref pl, m_49, m_50, m_51, m_52, m_53, m_54, m_55, m_56, m_57, m_58, m_59])), (w0, .inl (K 0, 5500, .inl fw)), (pl, .inl (K 0, 8, .inl (u_3597.2.1 0))), (mo, .inl (K 0, 1152, .inl (u_3597.2.1 1)))]) (hS : va_S A s.heap H locs) (ls : Array Slot) (hl : lv_has ls 7 [(6, .int v_3877), (5, .int v_3753), (4, .int v_3754), (3, .int r_3596), (0, .ref m0), (2, .int y)]), W p l e ({ frames := 4, cells := 0, slots := 0, locals := 93 }) s m (([.ref m0, .int x, .int y] : List Value).toArray) below meth c H locs 0 0 Q (F0 m 84 ls []) := by
                  intro nn_
                  induction nn_ with
                  | zero =>
                    intro v_3877 hv_3877 hr0_lp_3891 hn H locs hP hD hS ls hl
                    exact absurd hn (Nat.not_lt_zero _)
                  | succ nn_ ih_3892 =>
                    intro v_3877 hv_3877 hr0_lp_3891 hn H locs hP hD hS ls hl
                    refine lv_aload_n hx hb dX12_tune_84 rfl (lv_at hl 4 rfl) ?_
                    refine lv_iload hx hb dX12_tune_85 (lv_at hl 1 rfl) ?_
                    refine lv_iload hx hb dX12_tune_87 (lv_at hl 2 rfl) ?_
                    refine lv_iload hx hb dX12_tune_89 (lv_at hl 0 rfl) ?_
                    refine pci (va_runV (As := [.int v_3753, .int v_3754, .int v_3877]) (rest := []) ⟨hx, hb, hml, hown, hts⟩ (v_movedBy l D K m0 v_3753 v_3754 v_3877 (.int 0) m_1 m_2 w0 m_4 m_5 m_6 m_7 m_8 m_9 m_10 m_11 m_12 m_13 m_14 m_15 m_16 m_17 m_18 m_19 m_20 m_21 m_22 m_23 m_24 m_25 m_26 m_27 m_28 m_29 m_30 m_31 m_32 m_33 m_34 m_35 m_36 m_37 m_38 m_39 m_40 m_41 m_42 m_43 m_44 m_45 m_46 mo pl m_49 m_50 m_51 m_52 m_53 m_54 m_55 m_56 m_57 m_58 m_59 fw (u_3597.2.1 0) (u_3597.2.1 1) H.size (by first | omega | decide) (by first | omega | decide) (by first | omega | decide) zfw k_3598 k_3599) (cwV 3 hts gX12_tune_X12_movedBy rfl rfl rfl (by decide +kernel) ⟨Nat.le_of_ble_eq_true rfl, Nat.le_of_ble_eq_true rfl⟩) (mkV hK hN (hP.sub [0, 1, 2, 3] rfl) (hD.sub [0, 1, 2, 3] (by decide) rfl) (ci := 12) (q0 := 0) rfl rfl) rfl rfl hl.1 rfl (lv_room (Nat.le_of_ble_eq_true rfl)) dX12_tune_91 ⟨Nat.le_of_ble_eq_true rfl, Nat.le_of_ble_eq_true rfl⟩) (fun r_3893 hw => ?_)
                    obtain ⟨⟨hmb_r_3893, hmr_r_3893⟩, -⟩ := hw
                    refine lv_aload_n hx hb dX12_tune_94 rfl (lv_at hl 4 rfl) ?_
                    refine va_get (ci := 12) (v := .ref mo) (C := RX12) (T := TX12) (N := 60) hx hb hts hw12 hown hK hP 0 rfl rfl 47 (by decide) (hts (.fieldLink RX12 126 "SmokeTuneModel" "moved" "[I") (List.mem_cons_of_mem _ (List.mem_append_left _ (List.mem_append_left _ (List.mem_of_getElem? (i := 3) rfl))))) (fun _ h9 => h9) rfl dX12_tune_95 ?_
                    refine lv_sipush (v := 128) hx hb dX12_tune_98 (by decide) ?_
                    refine lv_iload hx hb dX12_tune_101 (lv_at hl 1 rfl) ?_
                    refine lv_imul hx hb dX12_tune_103 ?_
                    refine lv_topi (fun x_3894 ex_3894 => ?_)
                    have hx_3894 : x_3894.toInt = (128 * v_3753.toInt) := by rw [ex_3894]; exact i_mul (show (128 : Int32).toInt = 128 from rfl) rfl (by omega)
                    refine lv_iload hx hb dX12_tune_104 (lv_at hl 2 rfl) ?_
                    refine lv_iadd hx hb dX12_tune_106 ?_
                    refine lv_topi (fun x_3895 ex_3895 => ?_)
                    have hx_3895 : x_3895.toInt = ((128 * v_3753.toInt) + v_3754.toInt) := by rw [ex_3895]; exact i_add hx_3894 rfl (by omega)
                    refine va_iald hx hb hK hP 3 0 rfl rfl (i_in hx_3895 (by omega)) dX12_tune_107 ?_
                    refine lv_topi (fun x_3896 ex_3896 => ?_)
                    have hx_3896 := Rg.at k_3599 hx_3895 (show 0 ≤ ((128 * v_3753.toInt) + v_3754.toInt) ∧ ((128 * v_3753.toInt) + v_3754.toInt) < _ by omega)
                    rw [← ex_3896] at hx_3896
                    have owx_3896 : x_3896.toInt = ((u_3597.2.1 1) (128 * v_3753.toInt + v_3754.toInt).toNat).toInt := by rw [ex_3896, i_clamp hx_3895]
                    refine lv_icmp_eq (tgt := 117) hx hb dX12_tune_108 (by decide) (fun c_3897 => ?_) (fun c_3897 => ?_)
                    · have c_3897i := i_eq (x := r_3893.toInt) (y := x_3896.toInt) rfl rfl c_3897
                      refine lv_aload_n hx hb dX12_tune_117 rfl (lv_at hl 4 rfl) ?_
                      refine va_get (ci := 12) (v := .ref pl) (C := RX12) (T := TX12) (N := 60) hx hb hts hw12 hown hK hP 0 rfl rfl 48 (by decide) (hts (.fieldLink RX12 129 "SmokeTuneModel" "players" "[I") (List.mem_cons_of_mem _ (List.mem_append_left _ (List.mem_append_left _ (List.mem_of_getElem? (i := 4) rfl))))) (fun _ h9 => h9) rfl dX12_tune_118 ?_
                      refine lv_iload hx hb dX12_tune_121 (lv_at hl 1 rfl) ?_
                      refine va_iald hx hb hK hP 2 0 rfl rfl (i_in rfl (by omega)) dX12_tune_123 ?_
                      refine lv_topi (fun x_3898 ex_3898 => ?_)
                      have hx_3898 := Rg.at k_3598 rfl (show 0 ≤ v_3753.toInt ∧ v_3753.toInt < _ by omega)
                      rw [← ex_3898] at hx_3898
                      refine lv_iload_n hx hb dX12_tune_124 rfl (lv_at hl 5 rfl) ?_
                      refine lv_iconst (v := 1) hx hb dX12_tune_125 (by decide) ?_
                      refine lv_isub hx hb dX12_tune_126 ?_
                      refine lv_topi (fun x_3899 ex_3899 => ?_)
                      have hx_3899 : x_3899.toInt = (y.toInt - 1) := by rw [ex_3899]; exact i_sub rfl (show (1 : Int32).toInt = 1 from rfl) (by have q1 := i_rng (a := y) rfl; omega)
                      refine lv_icmp_ne (tgt := 133) hx hb dX12_tune_127 (by decide) (fun c_3900 => ?_) (fun c_3900 => ?_)
                      · have c_3900i := i_ne (x := x_3898.toInt) (y := (y.toInt - 1)) rfl hx_3899 c_3900
                        refine lv_iload hx hb dX12_tune_133 (lv_at hl 2 rfl) ?_
                        refine lv_iconst (v := 1) hx hb dX12_tune_135 (by decide) ?_
                        refine lv_iload hx hb dX12_tune_136 (lv_at hl 0 rfl) ?_
                        refine lv_ishl hx hb dX12_tune_138 ?_
                        refine lv_topi (fun x_3901 ex_3901 => ?_)
                        have hx_3901 : 1 ≤ x_3901.toInt ∧ x_3901.toInt ≤ 64 := by rw [ex_3901]; exact i_shl1 rfl (n := 6) (by decide) (by omega)
                        refine lv_ior hx hb dX12_tune_139 ?_
                        refine lv_topi (fun x_3902 ex_3902 => ?_)
                        have hx_3902 : 0 ≤ x_3902.toInt ∧ x_3902.toInt < 128 := by rw [ex_3902]; exact i_or (k := 7) rfl rfl (by decide) (by omega) (by omega)
                        refine lv_istore (lv' := [(4, .int x_3902), (6, .int v_3877), (5, .int v_3753), (3, .int r_3596), (0, .ref m0), (2, .int y)]) hx hb dX12_tune_140 hl (by decide) rfl (fun ls hl => ?_)
                        obtain ⟨x_3903, ex_3903⟩ : ∃ y : Int32, y = v_3753 + Int32.ofInt 1 := ⟨_, rfl⟩
                        have hx_3903 : x_3903.toInt = (v_3753.toInt + 1) := by rw [ex_3903]; exact i_add rfl (show (Int32.ofInt 1).toInt = 1 from rfl) (by omega)
                        refine lv_iinc (v := x_3903) (lv' := [(5, .int x_3903), (4, .int x_3902), (6, .int v_3877), (3, .int r_3596), (0, .ref m0), (2, .int y)]) hx hb dX12_tune_142 hl (k := 2) rfl (by rw [ex_3903]) (by decide) rfl (fun ls hl => ?_)
                        refine lv_goto (tgt := 75) hx hb dX12_tune_145 (by decide) ?_
                        exact ih_3856 x_3903 x_3902 (by rw [hx_3903]; omega) (by omega) (by omega) _ _ hP hD hS ls (lv_sub hl [0, 1, 3, 4, 5] rfl)
                      · have c_3900i := i_eq (x := x_3898.toInt) (y := (y.toInt - 1)) rfl hx_3899 c_3900
                        refine lv_iload hx hb dX12_tune_130 (lv_at hl 0 rfl) ?_
                        subst hQ
                        have hP9 := hP.sub (ws' := [(m0, .inr (12, [.int 0, m_1, m_2, .ref w0, m_4, m_5, m_6, m_7, m_8, m_9, m_10, m_11, m_12, m_13, m_14, m_15, m_16, m_17, m_18, m_19, m_20, m_21, m_22, m_23, m_24, m_25, m_26, m_27, m_28, m_29, m_30, m_31, m_32, m_33, m_34, m_35, m_36, m_37, m_38, m_39, m_40, m_41, m_42, m_43, m_44, m_45, m_46, .ref mo, .ref pl, m_49, m_50, m_51, m_52, m_53, m_54, m_55, m_56, m_57, m_58, m_59])), (w0, .inl (K 0, 5500, .inl fw)), (pl, .inl (K 0, 8, .inl (u_3597.2.1 0))), (mo, .inl (K 0, 1152, .inl (u_3597.2.1 1)))]) [0, 1, 2, 3] rfl
                        have hD9 := hD.sub (ws' := [(m0, .inr (12, [.int 0, m_1, m_2, .ref w0, m_4, m_5, m_6, m_7, m_8, m_9, m_10, m_11, m_12, m_13, m_14, m_15, m_16, m_17, m_18, m_19, m_20, m_21, m_22, m_23, m_24, m_25, m_26, m_27, m_28, m_29, m_30, m_31, m_32, m_33, m_34, m_35, m_36, m_37, m_38, m_39, m_40, m_41, m_42, m_43, m_44, m_45, m_46, .ref mo, .ref pl, m_49, m_50, m_51, m_52, m_53, m_54, m_55, m_56, m_57, m_58, m_59])), (w0, .inl (K 0, 5500, .inl fw)), (pl, .inl (K 0, 8, .inl (u_3597.2.1 0))), (mo, .inl (K 0, 1152, .inl (u_3597.2.1 1)))]) [0, 1, 2, 3] (by decide) rfl
                        exact W.iret (v := v_3877) hx hb hr (fun t ht hW => ⟨⟨v_3877, ((fun _ => 0, fun i => match i with | 0 => (u_3597.2.1 0) | _ => (u_3597.2.1 1), fun _ => fun _ => 0, fun _ => 0, fun _ => 0, fun _ => fun _ => none) : Su), rfl, ⟨(show (-1) ≤ v_3877.toInt ∧ v_3877.toInt ≤ 100000000 by omega), k_3598, k_3599, trivial⟩, (⟨by rw [ht]; exact hP9, hD9⟩ : Wd D A _ t)⟩, hS.F ht⟩) hS.2.2 dX12_tune_132
                    · have c_3897i := i_ne (x := r_3893.toInt) (y := x_3896.toInt) rfl rfl c_3897
                      obtain ⟨hwn1, hwn2⟩ := WTu.next hr0_lp_3891 hmb_r_3893 owx_3896 (by omega)
                      obtain ⟨x_3904, ex_3904⟩ : ∃ y : Int32, y = v_3877 + Int32.ofInt 1 := ⟨_, rfl⟩
                      have hx_3904 : x_3904.toInt = (v_3877.toInt + 1) := by rw [ex_3904]; exact i_add rfl (show (Int32.ofInt 1).toInt = 1 from rfl) (by omega)
                      refine lv_iinc (v := x_3904) (lv' := [(6, .int x_3904), (5, .int v_3753), (4, .int v_3754), (3, .int r_3596), (0, .ref m0), (2, .int y)]) hx hb dX12_tune_111 hl (k := 0) rfl (by rw [ex_3904]) (by decide) rfl (fun ls hl => ?_)
                      refine lv_goto (tgt := 84) hx hb dX12_tune_114 (by decide) ?_
                      exact ih_3892 x_3904 (by rw [hx_3904]; omega) (show WTu fw (u_3597.2.1 0) (u_3597.2.1 1) v_3753.toInt v_3754.toInt (x_3904 : Int32).toInt by rw [hx_3904]; exact hwn2) (by omega) _ _ hP hD hS ls (lv_sub hl [0, 1, 2, 3, 4, 5] rfl)
                have hz_3905 : (0 : Int32).toInt = 0 := rfl
                exact lp_3891 ((7 - (0 : Int32).toInt : Int).toNat + 1) 0 (by decide) (show WTu fw (u_3597.2.1 0) (u_3597.2.1 1) v_3753.toInt v_3754.toInt (0 : Int32).toInt by exact WTu.base k_3600 (by omega) (by omega)) (Nat.lt_succ_self _) _ _ hP hD hS ls (lv_sub hl [0, 1, 2, 3, 4, 5] rfl)
          exact lp_3855 ((9 - (0 : Int32).toInt : Int).toNat + 1) 0 0 (by decide) (by decide) (Nat.lt_succ_self _) _ _ hP hD hS ls (lv_sub hl [0, 1, 2, 3, 5] rfl)
        · have c_3602i := i_eq (x := y.toInt) (y := 0) rfl rfl c_3602
          refine lv_aload_n hx hb dX12_tune_62 rfl (lv_at hl 1 rfl) ?_
          refine va_get (ci := 12) (v := .ref mo) (C := RX12) (T := TX12) (N := 60) hx hb hts hw12 hown hK hP 0 rfl rfl 47 (by decide) (hts (.fieldLink RX12 126 "SmokeTuneModel" "moved" "[I") (List.mem_cons_of_mem _ (List.mem_append_left _ (List.mem_append_left _ (List.mem_of_getElem? (i := 3) rfl))))) (fun _ h9 => h9) rfl dX12_tune_63 ?_
          refine lv_iconst (v := 0) hx hb dX12_tune_66 (by decide) ?_
          refine va_iald hx hb hK hP 3 0 rfl rfl (i_in (x := 0) rfl (by omega)) dX12_tune_67 ?_
          refine lv_topi (fun x_3906 ex_3906 => ?_)
          have hx_3906 := Rg.at k_3599 (show (0 : Int32).toInt = 0 from rfl) (show 0 ≤ 0 ∧ 0 < _ by omega)
          rw [← ex_3906] at hx_3906
          subst hQ
          have hP9 := hP.sub (ws' := [(m0, .inr (12, [.int 0, m_1, m_2, .ref w0, m_4, m_5, m_6, m_7, m_8, m_9, m_10, m_11, m_12, m_13, m_14, m_15, m_16, m_17, m_18, m_19, m_20, m_21, m_22, m_23, m_24, m_25, m_26, m_27, m_28, m_29, m_30, m_31, m_32, m_33, m_34, m_35, m_36, m_37, m_38, m_39, m_40, m_41, m_42, m_43, m_44, m_45, m_46, .ref mo, .ref pl, m_49, m_50, m_51, m_52, m_53, m_54, m_55, m_56, m_57, m_58, m_59])), (w0, .inl (K 0, 5500, .inl fw)), (pl, .inl (K 0, 8, .inl (u_3597.2.1 0))), (mo, .inl (K 0, 1152, .inl (u_3597.2.1 1)))]) [0, 1, 2, 3] rfl
          have hD9 := hD.sub (ws' := [(m0, .inr (12, [.int 0, m_1, m_2, .ref w0, m_4, m_5, m_6, m_7, m_8, m_9, m_10, m_11, m_12, m_13, m_14, m_15, m_16, m_17, m_18, m_19, m_20, m_21, m_22, m_23, m_24, m_25, m_26, m_27, m_28, m_29, m_30, m_31, m_32, m_33, m_34, m_35, m_36, m_37, m_38, m_39, m_40, m_41, m_42, m_43, m_44, m_45, m_46, .ref mo, .ref pl, m_49, m_50, m_51, m_52, m_53, m_54, m_55, m_56, m_57, m_58, m_59])), (w0, .inl (K 0, 5500, .inl fw)), (pl, .inl (K 0, 8, .inl (u_3597.2.1 0))), (mo, .inl (K 0, 1152, .inl (u_3597.2.1 1)))]) [0, 1, 2, 3] (by decide) rfl
          exact W.iret (v := x_3906) hx hb hr (fun t ht hW => ⟨⟨x_3906, ((fun _ => 0, fun i => match i with | 0 => (u_3597.2.1 0) | _ => (u_3597.2.1 1), fun _ => fun _ => 0, fun _ => 0, fun _ => 0, fun _ => fun _ => none) : Su), rfl, ⟨(show (-1) ≤ x_3906.toInt ∧ x_3906.toInt ≤ 100000000 by omega), k_3598, k_3599, trivial⟩, (⟨by rw [ht]; exact hP9, hD9⟩ : Wd D A _ t)⟩, hS.F ht⟩) hS.2.2 dX12_tune_68
      refine lv_if_le (tgt := 52) hx hb dX12_tune_22 (by decide) (fun c_3907 => ?_) (fun c_3907 => ?_)
      · have c_3907i := i_le (x := y.toInt) (y := 0) rfl rfl c_3907
        exact j_3595   _ _ hP hD hS ls (lv_sub hl [0, 1, 2] rfl)
      · have c_3907i := i_nle (x := y.toInt) (y := 0) rfl rfl c_3907
        refine lv_aload_n hx hb dX12_tune_25 rfl (lv_at hl 0 rfl) ?_
        refine lv_iload_n hx hb dX12_tune_26 rfl (lv_at hl 2 rfl) ?_
        refine lv_iconst (v := 1) hx hb dX12_tune_27 (by decide) ?_
        refine lv_isub hx hb dX12_tune_28 ?_
        refine lv_topi (fun x_3908 ex_3908 => ?_)
        have hx_3908 : x_3908.toInt = (y.toInt - 1) := by rw [ex_3908]; exact i_sub rfl (show (1 : Int32).toInt = 1 from rfl) (by have q1 := i_rng (a := y) rfl; omega)
        refine pci (va_runV (As := [.int x_3908]) (rest := []) ⟨hx, hb, hml, hown, hts⟩ (v_isHouse l D K (y.toInt - 1) m0 x_3908 (.int 0) m_1 m_2 w0 m_4 m_5 m_6 m_7 m_8 m_9 m_10 m_11 m_12 m_13 m_14 m_15 m_16 m_17 m_18 m_19 m_20 m_21 m_22 m_23 m_24 m_25 m_26 m_27 m_28 m_29 m_30 m_31 m_32 m_33 m_34 m_35 m_36 m_37 m_38 m_39 m_40 m_41 m_42 m_43 m_44 m_45 m_46 (.ref mo) (.ref pl) m_49 m_50 m_51 m_52 m_53 m_54 m_55 m_56 m_57 m_58 m_59 fw H.size hx_3908 zfw) (cwV 1 hts gX12_tune_X12_isHouse rfl rfl rfl (by decide +kernel) ⟨Nat.le_of_ble_eq_true rfl, Nat.le_of_ble_eq_true rfl⟩) (mkV hK hN (hP.sub [0, 1] rfl) (hD.sub [0, 1] (by decide) rfl) (ci := 12) (q0 := 0) rfl rfl) rfl rfl hl.1 rfl (lv_room (Nat.le_of_ble_eq_true rfl)) dX12_tune_29 ⟨Nat.le_of_ble_eq_true rfl, Nat.le_of_ble_eq_true rfl⟩) (fun r_3909 hw => ?_)
        obtain ⟨hw, -⟩ := hw
        rcases hw with ⟨rfl, h_3910, h_3911⟩ | rfl
        · refine lv_if_eq (tgt := 50) hx hb dX12_tune_32 (by decide) (fun c_3912 => absurd c_3912 (by decide)) (fun c_3912 => ?_)
          refine lv_aload_n hx hb dX12_tune_35 rfl (lv_at hl 0 rfl) ?_
          refine va_get (ci := 12) (v := .ref w0) (C := RX12) (T := TX12) (N := 60) hx hb hts hw12 hown hK hP 0 rfl rfl 3 (by decide) (hts (.fieldLink RX12 13 "SmokeTuneModel" "row" "[I") (List.mem_cons_of_mem _ (List.mem_append_left _ (List.mem_append_left _ (List.mem_of_getElem? (i := 2) rfl))))) (fun _ h9 => h9) rfl dX12_tune_36 ?_
          refine lv_bipush (v := 43) hx hb dX12_tune_39 (by decide) ?_
          refine lv_iload_n hx hb dX12_tune_41 rfl (lv_at hl 2 rfl) ?_
          refine lv_iadd hx hb dX12_tune_42 ?_
          refine lv_topi (fun x_3913 ex_3913 => ?_)
          refine lv_iconst (v := 1) hx hb dX12_tune_43 (by decide) ?_
          refine lv_isub hx hb dX12_tune_44 ?_
          refine lv_topi (fun x_3914 ex_3914 => ?_)
          refine va_iald hx hb hK hP 1 0 rfl rfl (i_in rfl (by omega)) dX12_tune_45 ?_
          refine lv_topi (fun x_3915 ex_3915 => ?_)
          refine lv_iload_n hx hb dX12_tune_46 rfl (lv_at hl 1 rfl) ?_
          refine lv_icmp_eq (tgt := 52) hx hb dX12_tune_47 (by decide) (fun c_3916 => ?_) (fun c_3916 => ?_)
          · have c_3916i := i_eq (x := x_3915.toInt) (y := x.toInt) rfl rfl c_3916
            exact j_3595   _ _ hP hD hS ls (lv_sub hl [0, 1, 2] rfl)
          · have c_3916i := i_ne (x := x_3915.toInt) (y := x.toInt) rfl rfl c_3916
            exact j_3266   _ _ hP hD hS ls (lv_sub hl [] rfl)
        · refine lv_if_eq (tgt := 50) hx hb dX12_tune_32 (by decide) (fun c_3917 => ?_) (fun c_3917 => absurd (by decide) c_3917)
          exact j_3266   _ _ hP hD hS ls (lv_sub hl [] rfl)
  · refine lv_if_eq (tgt := 50) hx hb dX12_tune_14 (by decide) (fun c_3918 => ?_) (fun c_3918 => absurd (by decide) c_3918)
    exact j_3266   _ _ hP hD hS ls (lv_sub hl [] rfl)
