theorem dX12_layLeast_0 : decode cX12_layLeast 0 = .ok (.aload_n 0, 1) := by decide +kernel
theorem dX12_layLeast_1 : decode cX12_layLeast 1 = .ok (.bipush 16, 2) := by decide +kernel
theorem dX12_layLeast_3 : decode cX12_layLeast 3 = .ok (.invokevirtual 167, 3) := by decide +kernel
theorem dX12_layLeast_6 : decode cX12_layLeast 6 = .ok (.iconst 0, 1) := by decide +kernel
theorem dX12_layLeast_7 : decode cX12_layLeast 7 = .ok (.istore 4, 2) := by decide +kernel
theorem dX12_layLeast_9 : decode cX12_layLeast 9 = .ok (.iload 4, 2) := by decide +kernel
theorem dX12_layLeast_11 : decode cX12_layLeast 11 = .ok (.iload_n 2, 1) := by decide +kernel
theorem dX12_layLeast_12 : decode cX12_layLeast 12 = .ok (.if_icmp .ge 27, 3) := by decide +kernel
theorem dX12_layLeast_15 : decode cX12_layLeast 15 = .ok (.aload_n 0, 1) := by decide +kernel
theorem dX12_layLeast_16 : decode cX12_layLeast 16 = .ok (.iload_n 1, 1) := by decide +kernel
theorem dX12_layLeast_17 : decode cX12_layLeast 17 = .ok (.iload 4, 2) := by decide +kernel
theorem dX12_layLeast_19 : decode cX12_layLeast 19 = .ok (.iload_n 3, 1) := by decide +kernel
theorem dX12_layLeast_20 : decode cX12_layLeast 20 = .ok (.iload 4, 2) := by decide +kernel
theorem dX12_layLeast_22 : decode cX12_layLeast 22 = .ok (.invokestatic 436, 3) := by decide +kernel
theorem dX12_layLeast_25 : decode cX12_layLeast 25 = .ok (.invokevirtual 477, 3) := by decide +kernel
theorem dX12_layLeast_28 : decode cX12_layLeast 28 = .ok (.aload_n 0, 1) := by decide +kernel
theorem dX12_layLeast_29 : decode cX12_layLeast 29 = .ok (.iconst 1, 1) := by decide +kernel
theorem dX12_layLeast_30 : decode cX12_layLeast 30 = .ok (.invokevirtual 481, 3) := by decide +kernel
theorem dX12_layLeast_33 : decode cX12_layLeast 33 = .ok (.iinc 4 1, 3) := by decide +kernel
theorem dX12_layLeast_36 : decode cX12_layLeast 36 = .ok (.goto (-27), 3) := by decide +kernel
theorem dX12_layLeast_39 : decode cX12_layLeast 39 = .ok (.aload_n 0, 1) := by decide +kernel
theorem dX12_layLeast_40 : decode cX12_layLeast 40 = .ok (.bipush 16, 2) := by decide +kernel
theorem dX12_layLeast_42 : decode cX12_layLeast 42 = .ok (.invokevirtual 175, 3) := by decide +kernel
theorem dX12_layLeast_45 : decode cX12_layLeast 45 = .ok (.iconst 0, 1) := by decide +kernel
theorem dX12_layLeast_46 : decode cX12_layLeast 46 = .ok (.istore 4, 2) := by decide +kernel
theorem dX12_layLeast_48 : decode cX12_layLeast 48 = .ok (.iload 4, 2) := by decide +kernel
theorem dX12_layLeast_50 : decode cX12_layLeast 50 = .ok (.bipush 20, 2) := by decide +kernel
theorem dX12_layLeast_52 : decode cX12_layLeast 52 = .ok (.if_icmp .gt 22, 3) := by decide +kernel
theorem dX12_layLeast_55 : decode cX12_layLeast 55 = .ok (.aload_n 0, 1) := by decide +kernel
theorem dX12_layLeast_56 : decode cX12_layLeast 56 = .ok (.getfield 111, 3) := by decide +kernel
theorem dX12_layLeast_59 : decode cX12_layLeast 59 = .ok (.bipush 21, 2) := by decide +kernel
theorem dX12_layLeast_61 : decode cX12_layLeast 61 = .ok (.iload_n 2, 1) := by decide +kernel
theorem dX12_layLeast_62 : decode cX12_layLeast 62 = .ok (.imul, 1) := by decide +kernel
theorem dX12_layLeast_63 : decode cX12_layLeast 63 = .ok (.iload 4, 2) := by decide +kernel
theorem dX12_layLeast_65 : decode cX12_layLeast 65 = .ok (.iadd, 1) := by decide +kernel
theorem dX12_layLeast_66 : decode cX12_layLeast 66 = .ok (.iconst 0, 1) := by decide +kernel
theorem dX12_layLeast_67 : decode cX12_layLeast 67 = .ok (.iastore, 1) := by decide +kernel
theorem dX12_layLeast_68 : decode cX12_layLeast 68 = .ok (.iinc 4 1, 3) := by decide +kernel
theorem dX12_layLeast_71 : decode cX12_layLeast 71 = .ok (.goto (-23), 3) := by decide +kernel
theorem dX12_layLeast_74 : decode cX12_layLeast 74 = .ok (.iload_n 2, 1) := by decide +kernel
theorem dX12_layLeast_75 : decode cX12_layLeast 75 = .ok (.iconst 1, 1) := by decide +kernel
theorem dX12_layLeast_76 : decode cX12_layLeast 76 = .ok (.isub, 1) := by decide +kernel
theorem dX12_layLeast_77 : decode cX12_layLeast 77 = .ok (.istore 4, 2) := by decide +kernel
theorem dX12_layLeast_79 : decode cX12_layLeast 79 = .ok (.iload 4, 2) := by decide +kernel
theorem dX12_layLeast_81 : decode cX12_layLeast 81 = .ok (.ifCond .lt 88, 3) := by decide +kernel
theorem dX12_layLeast_84 : decode cX12_layLeast 84 = .ok (.iconst 0, 1) := by decide +kernel
theorem dX12_layLeast_85 : decode cX12_layLeast 85 = .ok (.istore 5, 2) := by decide +kernel
theorem dX12_layLeast_87 : decode cX12_layLeast 87 = .ok (.iload 5, 2) := by decide +kernel
theorem dX12_layLeast_89 : decode cX12_layLeast 89 = .ok (.bipush 20, 2) := by decide +kernel
theorem dX12_layLeast_91 : decode cX12_layLeast 91 = .ok (.if_icmp .gt 72, 3) := by decide +kernel
theorem dX12_layLeast_94 : decode cX12_layLeast 94 = .ok (.ldc_w 476, 3) := by decide +kernel
theorem dX12_layLeast_97 : decode cX12_layLeast 97 = .ok (.istore 6, 2) := by decide +kernel
theorem dX12_layLeast_99 : decode cX12_layLeast 99 = .ok (.iconst 0, 1) := by decide +kernel
theorem dX12_layLeast_100 : decode cX12_layLeast 100 = .ok (.istore 7, 2) := by decide +kernel
theorem dX12_layLeast_102 : decode cX12_layLeast 102 = .ok (.iload 7, 2) := by decide +kernel
theorem dX12_layLeast_104 : decode cX12_layLeast 104 = .ok (.iconst 3, 1) := by decide +kernel
theorem dX12_layLeast_105 : decode cX12_layLeast 105 = .ok (.if_icmp .ge 37, 3) := by decide +kernel
theorem dX12_layLeast_108 : decode cX12_layLeast 108 = .ok (.aload_n 0, 1) := by decide +kernel
theorem dX12_layLeast_109 : decode cX12_layLeast 109 = .ok (.iload 4, 2) := by decide +kernel
theorem dX12_layLeast_111 : decode cX12_layLeast 111 = .ok (.iload 5, 2) := by decide +kernel
theorem dX12_layLeast_113 : decode cX12_layLeast 113 = .ok (.iload 7, 2) := by decide +kernel
theorem dX12_layLeast_115 : decode cX12_layLeast 115 = .ok (.invokevirtual 484, 3) := by decide +kernel
theorem dX12_layLeast_118 : decode cX12_layLeast 118 = .ok (.istore 8, 2) := by decide +kernel
theorem dX12_layLeast_120 : decode cX12_layLeast 120 = .ok (.iload 8, 2) := by decide +kernel
theorem dX12_layLeast_122 : decode cX12_layLeast 122 = .ok (.iload 6, 2) := by decide +kernel
theorem dX12_layLeast_124 : decode cX12_layLeast 124 = .ok (.if_icmp .ge 8, 3) := by decide +kernel
theorem dX12_layLeast_132 : decode cX12_layLeast 132 = .ok (.iload 6, 2) := by decide +kernel
theorem dX12_layLeast_134 : decode cX12_layLeast 134 = .ok (.istore 6, 2) := by decide +kernel
theorem dX12_layLeast_136 : decode cX12_layLeast 136 = .ok (.iinc 7 1, 3) := by decide +kernel
theorem dX12_layLeast_139 : decode cX12_layLeast 139 = .ok (.goto (-37), 3) := by decide +kernel
theorem dX12_layLeast_127 : decode cX12_layLeast 127 = .ok (.iload 8, 2) := by decide +kernel
theorem dX12_layLeast_129 : decode cX12_layLeast 129 = .ok (.goto 5, 3) := by decide +kernel
theorem dX12_layLeast_142 : decode cX12_layLeast 142 = .ok (.aload_n 0, 1) := by decide +kernel
theorem dX12_layLeast_143 : decode cX12_layLeast 143 = .ok (.getfield 111, 3) := by decide +kernel
theorem dX12_layLeast_146 : decode cX12_layLeast 146 = .ok (.bipush 21, 2) := by decide +kernel
theorem dX12_layLeast_148 : decode cX12_layLeast 148 = .ok (.iload 4, 2) := by decide +kernel
theorem dX12_layLeast_150 : decode cX12_layLeast 150 = .ok (.imul, 1) := by decide +kernel
theorem dX12_layLeast_151 : decode cX12_layLeast 151 = .ok (.iload 5, 2) := by decide +kernel
theorem dX12_layLeast_153 : decode cX12_layLeast 153 = .ok (.iadd, 1) := by decide +kernel
theorem dX12_layLeast_154 : decode cX12_layLeast 154 = .ok (.iload 6, 2) := by decide +kernel
theorem dX12_layLeast_156 : decode cX12_layLeast 156 = .ok (.iastore, 1) := by decide +kernel
theorem dX12_layLeast_157 : decode cX12_layLeast 157 = .ok (.iinc 5 1, 3) := by decide +kernel
theorem dX12_layLeast_160 : decode cX12_layLeast 160 = .ok (.goto (-73), 3) := by decide +kernel
theorem dX12_layLeast_163 : decode cX12_layLeast 163 = .ok (.iinc 4 (-1), 3) := by decide +kernel
theorem dX12_layLeast_166 : decode cX12_layLeast 166 = .ok (.goto (-87), 3) := by decide +kernel
theorem dX12_layLeast_169 : decode cX12_layLeast 169 = .ok (.return_, 1) := by decide +kernel
theorem dX12_least_0 : decode cX12_least 0 = .ok (.aload_n 0, 1) := by decide +kernel
theorem dX12_least_1 : decode cX12_least 1 = .ok (.iconst 0, 1) := by decide +kernel
theorem dX12_least_2 : decode cX12_least 2 = .ok (.putfield 158, 3) := by decide +kernel
theorem dX12_least_5 : decode cX12_least 5 = .ok (.aload_n 0, 1) := by decide +kernel
theorem dX12_least_6 : decode cX12_least 6 = .ok (.iload_n 1, 1) := by decide +kernel
theorem dX12_least_7 : decode cX12_least 7 = .ok (.invokevirtual 197, 3) := by decide +kernel
theorem dX12_least_10 : decode cX12_least 10 = .ok (.ifCond .eq 45, 3) := by decide +kernel
theorem dX12_least_13 : decode cX12_least 13 = .ok (.iload_n 2, 1) := by decide +kernel
theorem dX12_least_14 : decode cX12_least 14 = .ok (.i2l, 1) := by decide +kernel
theorem dX12_least_15 : decode cX12_least 15 = .ok (.lconst 1, 1) := by decide +kernel
theorem dX12_least_16 : decode cX12_least 16 = .ok (.ldc2_w 488, 3) := by decide +kernel
theorem dX12_least_19 : decode cX12_least 19 = .ok (.invokestatic 178, 3) := by decide +kernel
theorem dX12_least_22 : decode cX12_least 22 = .ok (.ifCond .eq 33, 3) := by decide +kernel
theorem dX12_least_25 : decode cX12_least 25 = .ok (.iload_n 3, 1) := by decide +kernel
theorem dX12_least_26 : decode cX12_least 26 = .ok (.i2l, 1) := by decide +kernel
theorem dX12_least_27 : decode cX12_least 27 = .ok (.lconst 0, 1) := by decide +kernel
theorem dX12_least_28 : decode cX12_least 28 = .ok (.lconst 1, 1) := by decide +kernel
theorem dX12_least_29 : decode cX12_least 29 = .ok (.iload_n 2, 1) := by decide +kernel
theorem dX12_least_30 : decode cX12_least 30 = .ok (.lshl, 1) := by decide +kernel
theorem dX12_least_31 : decode cX12_least 31 = .ok (.lconst 1, 1) := by decide +kernel
theorem dX12_least_32 : decode cX12_least 32 = .ok (.lsub, 1) := by decide +kernel
theorem dX12_least_33 : decode cX12_least 33 = .ok (.invokestatic 178, 3) := by decide +kernel
theorem dX12_least_36 : decode cX12_least 36 = .ok (.ifCond .eq 19, 3) := by decide +kernel
theorem dX12_least_39 : decode cX12_least 39 = .ok (.iload 4, 2) := by decide +kernel
theorem dX12_least_41 : decode cX12_least 41 = .ok (.i2l, 1) := by decide +kernel
theorem dX12_least_42 : decode cX12_least 42 = .ok (.ldc2_w 266, 3) := by decide +kernel
theorem dX12_least_45 : decode cX12_least 45 = .ok (.iload_n 2, 1) := by decide +kernel
theorem dX12_least_46 : decode cX12_least 46 = .ok (.i2l, 1) := by decide +kernel
theorem dX12_least_47 : decode cX12_least 47 = .ok (.lconst 1, 1) := by decide +kernel
theorem dX12_least_48 : decode cX12_least 48 = .ok (.lsub, 1) := by decide +kernel
theorem dX12_least_49 : decode cX12_least 49 = .ok (.invokestatic 178, 3) := by decide +kernel
theorem dX12_least_52 : decode cX12_least 52 = .ok (.ifCond .ne 5, 3) := by decide +kernel
theorem dX12_least_57 : decode cX12_least 57 = .ok (.aload_n 0, 1) := by decide +kernel
theorem dX12_least_58 : decode cX12_least 58 = .ok (.iload_n 1, 1) := by decide +kernel
theorem dX12_least_59 : decode cX12_least 59 = .ok (.iload_n 2, 1) := by decide +kernel
theorem dX12_least_60 : decode cX12_least 60 = .ok (.iload_n 3, 1) := by decide +kernel
theorem dX12_least_61 : decode cX12_least 61 = .ok (.invokevirtual 490, 3) := by decide +kernel
theorem dX12_least_64 : decode cX12_least 64 = .ok (.aload_n 0, 1) := by decide +kernel
theorem dX12_least_65 : decode cX12_least 65 = .ok (.getfield 13, 3) := by decide +kernel
theorem dX12_least_68 : decode cX12_least 68 = .ok (.bipush 11, 2) := by decide +kernel
theorem dX12_least_70 : decode cX12_least 70 = .ok (.iload_n 1, 1) := by decide +kernel
theorem dX12_least_71 : decode cX12_least 71 = .ok (.iadd, 1) := by decide +kernel
theorem dX12_least_72 : decode cX12_least 72 = .ok (.iaload, 1) := by decide +kernel
theorem dX12_least_73 : decode cX12_least 73 = .ok (.istore 5, 2) := by decide +kernel
theorem dX12_least_75 : decode cX12_least 75 = .ok (.aload_n 0, 1) := by decide +kernel
theorem dX12_least_76 : decode cX12_least 76 = .ok (.getfield 111, 3) := by decide +kernel
theorem dX12_least_79 : decode cX12_least 79 = .ok (.iload 5, 2) := by decide +kernel
theorem dX12_least_81 : decode cX12_least 81 = .ok (.iaload, 1) := by decide +kernel
theorem dX12_least_82 : decode cX12_least 82 = .ok (.ldc_w 476, 3) := by decide +kernel
theorem dX12_least_85 : decode cX12_least 85 = .ok (.if_icmp .eq 9, 3) := by decide +kernel
theorem dX12_least_88 : decode cX12_least 88 = .ok (.iload 4, 2) := by decide +kernel
theorem dX12_least_90 : decode cX12_least 90 = .ok (.iconst (-1), 1) := by decide +kernel
theorem dX12_least_91 : decode cX12_least 91 = .ok (.if_icmp .ne 28, 3) := by decide +kernel
theorem dX12_least_119 : decode cX12_least 119 = .ok (.iconst 0, 1) := by decide +kernel
theorem dX12_least_120 : decode cX12_least 120 = .ok (.istore 6, 2) := by decide +kernel
theorem dX12_least_122 : decode cX12_least 122 = .ok (.iconst 0, 1) := by decide +kernel
theorem dX12_least_123 : decode cX12_least 123 = .ok (.istore 7, 2) := by decide +kernel
theorem dX12_least_125 : decode cX12_least 125 = .ok (.iload 7, 2) := by decide +kernel
theorem dX12_least_127 : decode cX12_least 127 = .ok (.iload 4, 2) := by decide +kernel
theorem dX12_least_129 : decode cX12_least 129 = .ok (.if_icmp .gt 64, 3) := by decide +kernel
theorem dX12_least_132 : decode cX12_least 132 = .ok (.iconst 0, 1) := by decide +kernel
theorem dX12_least_133 : decode cX12_least 133 = .ok (.istore 6, 2) := by decide +kernel
theorem dX12_least_135 : decode cX12_least 135 = .ok (.aload_n 0, 1) := by decide +kernel
theorem dX12_least_136 : decode cX12_least 136 = .ok (.iload 7, 2) := by decide +kernel
theorem dX12_least_138 : decode cX12_least 138 = .ok (.iload 5, 2) := by decide +kernel
theorem dX12_least_140 : decode cX12_least 140 = .ok (.iload 6, 2) := by decide +kernel
theorem dX12_least_142 : decode cX12_least 142 = .ok (.invokevirtual 484, 3) := by decide +kernel
theorem dX12_least_145 : decode cX12_least 145 = .ok (.aload_n 0, 1) := by decide +kernel
theorem dX12_least_146 : decode cX12_least 146 = .ok (.getfield 111, 3) := by decide +kernel
theorem dX12_least_149 : decode cX12_least 149 = .ok (.bipush 21, 2) := by decide +kernel
theorem dX12_least_151 : decode cX12_least 151 = .ok (.iload 7, 2) := by decide +kernel
theorem dX12_least_153 : decode cX12_least 153 = .ok (.imul, 1) := by decide +kernel
theorem dX12_least_154 : decode cX12_least 154 = .ok (.iload 5, 2) := by decide +kernel
theorem dX12_least_156 : decode cX12_least 156 = .ok (.iadd, 1) := by decide +kernel
theorem dX12_least_157 : decode cX12_least 157 = .ok (.iaload, 1) := by decide +kernel
theorem dX12_least_158 : decode cX12_least 158 = .ok (.if_icmp .eq 9, 3) := by decide +kernel
theorem dX12_least_161 : decode cX12_least 161 = .ok (.iinc 6 1, 3) := by decide +kernel
theorem dX12_least_164 : decode cX12_least 164 = .ok (.goto (-29), 3) := by decide +kernel
theorem dX12_least_167 : decode cX12_least 167 = .ok (.aload_n 0, 1) := by decide +kernel
theorem dX12_least_168 : decode cX12_least 168 = .ok (.getfield 114, 3) := by decide +kernel
theorem dX12_least_171 : decode cX12_least 171 = .ok (.bipush 63, 2) := by decide +kernel
theorem dX12_least_173 : decode cX12_least 173 = .ok (.iload 7, 2) := by decide +kernel
theorem dX12_least_175 : decode cX12_least 175 = .ok (.imul, 1) := by decide +kernel
theorem dX12_least_176 : decode cX12_least 176 = .ok (.iconst 3, 1) := by decide +kernel
theorem dX12_least_177 : decode cX12_least 177 = .ok (.iload 5, 2) := by decide +kernel
theorem dX12_least_179 : decode cX12_least 179 = .ok (.imul, 1) := by decide +kernel
theorem dX12_least_180 : decode cX12_least 180 = .ok (.iadd, 1) := by decide +kernel
theorem dX12_least_181 : decode cX12_least 181 = .ok (.iload 6, 2) := by decide +kernel
theorem dX12_least_183 : decode cX12_least 183 = .ok (.iadd, 1) := by decide +kernel
theorem dX12_least_184 : decode cX12_least 184 = .ok (.iaload, 1) := by decide +kernel
theorem dX12_least_185 : decode cX12_least 185 = .ok (.istore 5, 2) := by decide +kernel
theorem dX12_least_187 : decode cX12_least 187 = .ok (.iinc 7 1, 3) := by decide +kernel
theorem dX12_least_190 : decode cX12_least 190 = .ok (.goto (-65), 3) := by decide +kernel
theorem dX12_least_193 : decode cX12_least 193 = .ok (.iload 6, 2) := by decide +kernel
theorem dX12_least_195 : decode cX12_least 195 = .ok (.ireturn, 1) := by decide +kernel
theorem dX12_least_94 : decode cX12_least 94 = .ok (.aload_n 0, 1) := by decide +kernel
theorem dX12_least_95 : decode cX12_least 95 = .ok (.getfield 111, 3) := by decide +kernel
theorem dX12_least_98 : decode cX12_least 98 = .ok (.iload 5, 2) := by decide +kernel
theorem dX12_least_100 : decode cX12_least 100 = .ok (.iaload, 1) := by decide +kernel
theorem dX12_least_101 : decode cX12_least 101 = .ok (.ldc_w 476, 3) := by decide +kernel
theorem dX12_least_104 : decode cX12_least 104 = .ok (.if_icmp .ne 7, 3) := by decide +kernel
theorem dX12_least_111 : decode cX12_least 111 = .ok (.aload_n 0, 1) := by decide +kernel
theorem dX12_least_112 : decode cX12_least 112 = .ok (.getfield 111, 3) := by decide +kernel
theorem dX12_least_115 : decode cX12_least 115 = .ok (.iload 5, 2) := by decide +kernel
theorem dX12_least_117 : decode cX12_least 117 = .ok (.iaload, 1) := by decide +kernel
theorem dX12_least_118 : decode cX12_least 118 = .ok (.ireturn, 1) := by decide +kernel
theorem dX12_least_107 : decode cX12_least 107 = .ok (.iconst (-1), 1) := by decide +kernel
theorem dX12_least_108 : decode cX12_least 108 = .ok (.goto 10, 3) := by decide +kernel
theorem dX12_least_55 : decode cX12_least 55 = .ok (.iconst (-1), 1) := by decide +kernel
theorem dX12_least_56 : decode cX12_least 56 = .ok (.ireturn, 1) := by decide +kernel
set_option maxRecDepth 100000 in
set_option maxHeartbeats 4000000 in
theorem ggX12_layLeast_X12_keepAll : GoodIn wsX12_layLeast wsX12_keepAll := goodIn_q _ [7] [8, 9, 103, 104, 105, 106, 107, 108, 109, 110, 111, 112, 113, 114, 115, 116, 117, 118, 119, 120, 121, 122, 123, 124, 125, 126, 127, 128, 129, 130, 131, 132, 133, 134, 135, 136, 137, 138, 139, 140, 141, 142, 143, 144, 145, 146, 147, 148, 149, 150, 151, 152, 153, 154, 155, 156, 157, 158, 159, 160, 161, 162] rfl (by decide +kernel) (by decide +kernel)
set_option maxRecDepth 20000 in
theorem gX12_layLeast_X12_keepAll : GoodIn wsX12_layLeast (wsV RX12 167 RX12 yX12_keepAll wsX12_keepAll) := goodIn_app (goodIn_of _ (by decide +kernel)) ggX12_layLeast_X12_keepAll
set_option maxRecDepth 100000 in
set_option maxHeartbeats 4000000 in
theorem ggX12_layLeast_X12_putBack : GoodIn wsX12_layLeast wsX12_putBack := goodIn_q _ [98] [9, 8, 103, 104, 105, 106, 107, 108, 109, 110, 111, 112, 113, 114, 115, 116, 117, 118, 119, 120, 121, 122, 123, 124, 125, 126, 127, 128, 129, 130, 131, 132, 133, 134, 135, 136, 137, 138, 139, 140, 141, 142, 143, 144, 145, 146, 147, 148, 149, 150, 151, 152, 153, 154, 155, 156, 157, 158, 159, 160, 161, 162] rfl (by decide +kernel) (by decide +kernel)
set_option maxRecDepth 20000 in
theorem gX12_layLeast_X12_putBack : GoodIn wsX12_layLeast (wsV RX12 175 RX12 yX12_putBack wsX12_putBack) := goodIn_app (goodIn_of _ (by decide +kernel)) ggX12_layLeast_X12_putBack
set_option maxRecDepth 100000 in
set_option maxHeartbeats 4000000 in
theorem ggX12_layLeast_X12_coalBy : GoodIn wsX12_layLeast wsX12_coalBy := goodIn_q _ [102, 82] [17, 2, 1, 18, 80, 81, 6, 103, 104, 105, 106, 107, 108, 109, 110, 111, 112, 113, 114, 115, 116, 117, 118, 119, 120, 121, 122, 123, 124, 125, 126, 127, 128, 129, 130, 131, 132, 133, 134, 135, 136, 137, 138, 139, 140, 141, 142, 143, 144, 145, 146, 147, 148, 149, 150, 151, 152, 153, 154, 155, 156, 157, 158, 159, 160, 161, 162] rfl (by decide +kernel) (by decide +kernel)
set_option maxRecDepth 20000 in
theorem gX12_layLeast_X12_coalBy : GoodIn wsX12_layLeast (wsV RX12 484 RX12 yX12_coalBy wsX12_coalBy) := goodIn_app (goodIn_of _ (by decide +kernel)) ggX12_layLeast_X12_coalBy
theorem ggX12_layLeast_X12_is : GoodIn wsX12_layLeast wsX12_is := goodIn_q _ [12] [] rfl (by decide +kernel) (by decide +kernel)
set_option maxRecDepth 20000 in
theorem gX12_layLeast_X12_is : GoodIn wsX12_layLeast (va_wsS RX12 436 yX12_is wsX12_is) := goodIn_app (goodIn_of _ (by decide +kernel)) ggX12_layLeast_X12_is
set_option maxRecDepth 100000 in
set_option maxHeartbeats 4000000 in
theorem ggX12_layLeast_X12_layHour : GoodIn wsX12_layLeast wsX12_layHour := goodIn_q _ [16, 22, 26, 33, 37, 43, 55, 59, 62, 66, 70, 74, 78, 82, 86] [9, 17, 18, 19, 20, 21, 6, 23, 24, 25, 27, 28, 29, 30, 31, 32, 34, 35, 36, 38, 39, 40, 41, 42, 44, 45, 46, 47, 48, 49, 50, 51, 52, 53, 54, 56, 57, 58, 60, 61, 63, 64, 65, 67, 68, 69, 71, 72, 73, 75, 76, 77, 79, 80, 81, 83, 84, 85, 103, 104, 105, 106, 107, 108, 109, 110, 111, 112, 113, 114, 115, 116, 117, 118, 119, 120, 121, 122, 123, 124, 125, 126, 127, 128, 129, 130, 131, 132, 133, 134, 135, 136, 137, 138, 139, 140, 141, 142, 143, 144, 145, 146, 147, 148, 149, 150, 151, 152, 153, 154, 155, 156, 157, 158, 159, 160, 161, 162] rfl (by decide +kernel) (by decide +kernel)
set_option maxRecDepth 20000 in
theorem gX12_layLeast_X12_layHour : GoodIn wsX12_layLeast (wsV RX12 477 RX12 yX12_layHour wsX12_layHour) := goodIn_app (goodIn_of _ (by decide +kernel)) ggX12_layLeast_X12_layHour
set_option maxRecDepth 100000 in
set_option maxHeartbeats 4000000 in
theorem ggX12_layLeast_X12_goOnBy : GoodIn wsX12_layLeast wsX12_goOnBy := goodIn_q _ [90, 94, 33] [91, 92, 93, 6, 9, 30, 31, 32, 103, 104, 105, 106, 107, 108, 109, 110, 111, 112, 113, 114, 115, 116, 117, 118, 119, 120, 121, 122, 123, 124, 125, 126, 127, 128, 129, 130, 131, 132, 133, 134, 135, 136, 137, 138, 139, 140, 141, 142, 143, 144, 145, 146, 147, 148, 149, 150, 151, 152, 153, 154, 155, 156, 157, 158, 159, 160, 161, 162] rfl (by decide +kernel) (by decide +kernel)
set_option maxRecDepth 20000 in
theorem gX12_layLeast_X12_goOnBy : GoodIn wsX12_layLeast (wsV RX12 481 RX12 yX12_goOnBy wsX12_goOnBy) := goodIn_app (goodIn_of _ (by decide +kernel)) ggX12_layLeast_X12_goOnBy
set_option maxRecDepth 100000 in
set_option maxHeartbeats 4000000 in
theorem ggX12_least_X12_isHouse : GoodIn wsX12_least wsX12_isHouse := goodIn_q _ [12, 15] [4, 13, 14, 11, 109, 110, 111, 112, 113, 114, 115, 116, 117, 118, 119, 120, 121, 122, 123, 124, 125, 126, 127, 128, 129, 130, 131, 132, 133, 134, 135, 136, 137, 138, 139, 140, 141, 142, 143, 144, 145, 146, 147, 148, 149, 150, 151, 152, 153, 154, 155, 156, 157, 158, 159, 160, 161, 162, 163, 164, 165, 166, 167, 168] rfl (by decide +kernel) (by decide +kernel)
set_option maxRecDepth 20000 in
theorem gX12_least_X12_isHouse : GoodIn wsX12_least (wsV RX12 197 RX12 yX12_isHouse wsX12_isHouse) := goodIn_app (goodIn_of _ (by decide +kernel)) ggX12_least_X12_isHouse
theorem ggX12_least_X12_in : GoodIn wsX12_least wsX12_in := goodIn_q _ [15] [] rfl (by decide +kernel) (by decide +kernel)
set_option maxRecDepth 20000 in
theorem gX12_least_X12_in : GoodIn wsX12_least (va_wsS RX12 178 yX12_in wsX12_in) := goodIn_app (goodIn_of _ (by decide +kernel)) ggX12_least_X12_in
set_option maxRecDepth 100000 in
set_option maxHeartbeats 4000000 in
theorem ggX12_least_X12_layLeast : GoodIn wsX12_least wsX12_layLeast := goodIn_q _ [19, 23, 27, 31, 36, 40, 47, 51, 57, 68, 72, 15, 12, 76, 80, 84, 88, 92, 96, 100, 104, 108] [5, 6, 20, 21, 22, 11, 24, 4, 25, 26, 28, 29, 30, 32, 7, 33, 34, 35, 37, 38, 39, 41, 42, 43, 44, 45, 46, 48, 49, 50, 52, 53, 54, 55, 56, 58, 59, 60, 61, 62, 3, 63, 64, 65, 66, 67, 69, 70, 71, 13, 14, 8, 9, 10, 73, 74, 75, 77, 78, 79, 81, 82, 83, 85, 86, 87, 89, 90, 91, 93, 94, 95, 97, 98, 99, 101, 102, 103, 105, 106, 107, 109, 110, 111, 112, 113, 114, 115, 116, 117, 118, 119, 120, 121, 122, 123, 124, 125, 126, 127, 128, 129, 130, 131, 132, 133, 134, 135, 136, 137, 138, 139, 140, 141, 142, 143, 144, 145, 146, 147, 148, 149, 150, 151, 152, 153, 154, 155, 156, 157, 158, 159, 160, 161, 162, 163, 164, 165, 166, 167, 168] rfl (by decide +kernel) (by decide +kernel)
set_option maxRecDepth 20000 in
theorem gX12_least_X12_layLeast : GoodIn wsX12_least (wsV RX12 490 RX12 yX12_layLeast wsX12_layLeast) := goodIn_app (goodIn_of _ (by decide +kernel)) ggX12_least_X12_layLeast
set_option maxRecDepth 100000 in
set_option maxHeartbeats 4000000 in
theorem ggX12_least_X12_coalBy : GoodIn wsX12_least wsX12_coalBy := goodIn_q _ [108, 88] [32, 6, 5, 7, 86, 87, 11, 109, 110, 111, 112, 113, 114, 115, 116, 117, 118, 119, 120, 121, 122, 123, 124, 125, 126, 127, 128, 129, 130, 131, 132, 133, 134, 135, 136, 137, 138, 139, 140, 141, 142, 143, 144, 145, 146, 147, 148, 149, 150, 151, 152, 153, 154, 155, 156, 157, 158, 159, 160, 161, 162, 163, 164, 165, 166, 167, 168] rfl (by decide +kernel) (by decide +kernel)
set_option maxRecDepth 20000 in
theorem gX12_least_X12_coalBy : GoodIn wsX12_least (wsV RX12 484 RX12 yX12_coalBy wsX12_coalBy) := goodIn_app (goodIn_of _ (by decide +kernel)) ggX12_least_X12_coalBy
set_option maxRecDepth 100000 in
noncomputable def E_v_layLeast_l102 (f_4907 : Nat → Int32) (f_4908 : Nat → Int32) (v_5861 : Int32) (v_6963 : Int32) (f_6964 : Nat → Int32) (rec_7085 : Int32 → (Nat → Int32) → (Int32 × Int32 × Int64 × Int64 × (Nat → Int32) × (Nat → Int64) × (Nat → Int64) × (Nat → Int32) × (Nat → Int32) × (Nat → Int32) × (Nat → Int32))) (rec_7133 : Int32 → Int32 → (Int32 × Int32 × Int64 × Int64 × (Nat → Int32) × (Nat → Int64) × (Nat → Int64) × (Nat → Int32) × (Nat → Int32) × (Nat → Int32) × (Nat → Int32))) (v_7117 : Int32) (v_7118 : Int32) : Int32 × Int32 × Int64 × Int64 × (Nat → Int32) × (Nat → Int64) × (Nat → Int64) × (Nat → Int32) × (Nat → Int32) × (Nat → Int32) × (Nat → Int32) :=
  if 3 ≤ v_7117 then (Lt (21 * v_5861 : Int32) (fun x_7136 => Lt (x_7136 + v_6963 : Int32) (fun x_7137 => Lt (upd f_6964 (x_7137 : Int32).toNatClampNeg v_7118 : Nat → Int32) (fun f_7138 => Lt (v_6963 + Int32.ofInt 1 : Int32) (fun x_7139 => rec_7085 x_7139 f_7138))))) else (Lt (E_v_coalBy v_5861 v_6963 v_7117 f_4907 f_4908 f_6964) (fun r_7140 => if v_7118 ≤ r_7140 then (Lt (v_7117 + Int32.ofInt 1 : Int32) (fun x_7143 => rec_7133 x_7143 v_7118)) else (Lt (v_7117 + Int32.ofInt 1 : Int32) (fun x_7144 => rec_7133 x_7144 r_7140))))
set_option maxRecDepth 100000 in
noncomputable def E_v_layLeast_l87 (f_4907 : Nat → Int32) (f_4908 : Nat → Int32) (v_5861 : Int32) (rec_6719 : Int32 → (Nat → Int32) → (Int32 × Int32 × Int64 × Int64 × (Nat → Int32) × (Nat → Int64) × (Nat → Int64) × (Nat → Int32) × (Nat → Int32) × (Nat → Int32) × (Nat → Int32))) (rec_7085 : Int32 → (Nat → Int32) → (Int32 × Int32 × Int64 × Int64 × (Nat → Int32) × (Nat → Int64) × (Nat → Int64) × (Nat → Int32) × (Nat → Int32) × (Nat → Int32) × (Nat → Int32))) (v_6963 : Int32) (f_6964 : Nat → Int32) : Int32 × Int32 × Int64 × Int64 × (Nat → Int32) × (Nat → Int64) × (Nat → Int64) × (Nat → Int32) × (Nat → Int32) × (Nat → Int32) × (Nat → Int32) :=
  if 20 < v_6963 then (Lt (v_5861 + Int32.ofInt (-1) : Int32) (fun x_7088 => rec_6719 x_7088 f_6964)) else (Lp (α := Int32 → Int32 → (Int32 × Int32 × Int64 × Int64 × (Nat → Int32) × (Nat → Int64) × (Nat → Int64) × (Nat → Int32) × (Nat → Int32) × (Nat → Int32) × (Nat → Int32))) (E_v_layLeast_l102 f_4907 f_4908 v_5861 v_6963 f_6964 rec_7085) (fun _ _ => ((0, 0, 0, 0, fun _ => 0, fun _ => 0, fun _ => 0, fun _ => 0, fun _ => 0, fun _ => 0, fun _ => 0) : Int32 × Int32 × Int64 × Int64 × (Nat → Int32) × (Nat → Int64) × (Nat → Int64) × (Nat → Int32) × (Nat → Int32) × (Nat → Int32) × (Nat → Int32))) ((4 - (0 : Int32).toInt : Int).toNat + 1) 0 100000000)
set_option maxRecDepth 100000 in
noncomputable def E_v_layLeast_l79 (u_4800_2_1_0 : Nat → Int32) (v_4901 : Int32) (v_4902 : Int32) (v_4903 : Int64) (v_4904 : Int64) (f_4905 : Nat → Int64) (f_4906 : Nat → Int64) (f_4907 : Nat → Int32) (f_4908 : Nat → Int32) (u_4958_2_1_0 : Nat → Int32) (rec_6719 : Int32 → (Nat → Int32) → (Int32 × Int32 × Int64 × Int64 × (Nat → Int32) × (Nat → Int64) × (Nat → Int64) × (Nat → Int32) × (Nat → Int32) × (Nat → Int32) × (Nat → Int32))) (v_5861 : Int32) (f_5862 : Nat → Int32) : Int32 × Int32 × Int64 × Int64 × (Nat → Int32) × (Nat → Int64) × (Nat → Int64) × (Nat → Int32) × (Nat → Int32) × (Nat → Int32) × (Nat → Int32) :=
  if v_5861 < 0 then (((v_4901, v_4902, v_4903, v_4904, u_4958_2_1_0, f_4905, f_4906, u_4800_2_1_0, f_4907, f_4908, f_5862) : Int32 × Int32 × Int64 × Int64 × (Nat → Int32) × (Nat → Int64) × (Nat → Int64) × (Nat → Int32) × (Nat → Int32) × (Nat → Int32) × (Nat → Int32))) else (Lp (α := Int32 → (Nat → Int32) → (Int32 × Int32 × Int64 × Int64 × (Nat → Int32) × (Nat → Int64) × (Nat → Int64) × (Nat → Int32) × (Nat → Int32) × (Nat → Int32) × (Nat → Int32))) (E_v_layLeast_l87 f_4907 f_4908 v_5861 rec_6719) (fun _ _ => ((0, 0, 0, 0, fun _ => 0, fun _ => 0, fun _ => 0, fun _ => 0, fun _ => 0, fun _ => 0, fun _ => 0) : Int32 × Int32 × Int64 × Int64 × (Nat → Int32) × (Nat → Int64) × (Nat → Int64) × (Nat → Int32) × (Nat → Int32) × (Nat → Int32) × (Nat → Int32))) ((22 - (0 : Int32).toInt : Int).toNat + 1) 0 f_5862)
set_option maxRecDepth 100000 in
noncomputable def E_v_layLeast_l48 (y : Int32) (u_4800_2_1_0 : Nat → Int32) (v_4901 : Int32) (v_4902 : Int32) (v_4903 : Int64) (v_4904 : Int64) (f_4905 : Nat → Int64) (f_4906 : Nat → Int64) (f_4907 : Nat → Int32) (f_4908 : Nat → Int32) (u_4958_2_1_0 : Nat → Int32) (rec_5001 : Int32 → (Nat → Int32) → (Int32 × Int32 × Int64 × Int64 × (Nat → Int32) × (Nat → Int64) × (Nat → Int64) × (Nat → Int32) × (Nat → Int32) × (Nat → Int32) × (Nat → Int32))) (v_4987 : Int32) (f_4988 : Nat → Int32) : Int32 × Int32 × Int64 × Int64 × (Nat → Int32) × (Nat → Int64) × (Nat → Int64) × (Nat → Int32) × (Nat → Int32) × (Nat → Int32) × (Nat → Int32) :=
  if 20 < v_4987 then (Lt (y - 1 : Int32) (fun x_5004 => Lp (α := Int32 → (Nat → Int32) → (Int32 × Int32 × Int64 × Int64 × (Nat → Int32) × (Nat → Int64) × (Nat → Int64) × (Nat → Int32) × (Nat → Int32) × (Nat → Int32) × (Nat → Int32))) (E_v_layLeast_l79 u_4800_2_1_0 v_4901 v_4902 v_4903 v_4904 f_4905 f_4906 f_4907 f_4908 u_4958_2_1_0) (fun _ _ => ((0, 0, 0, 0, fun _ => 0, fun _ => 0, fun _ => 0, fun _ => 0, fun _ => 0, fun _ => 0, fun _ => 0) : Int32 × Int32 × Int64 × Int64 × (Nat → Int32) × (Nat → Int64) × (Nat → Int64) × (Nat → Int32) × (Nat → Int32) × (Nat → Int32) × (Nat → Int32))) (((x_5004 : Int32).toInt - (-2) : Int).toNat + 1) x_5004 f_4988)) else (Lt (21 * y : Int32) (fun x_7148 => Lt (x_7148 + v_4987 : Int32) (fun x_7149 => Lt (upd f_4988 (x_7149 : Int32).toNatClampNeg 0 : Nat → Int32) (fun f_7150 => Lt (v_4987 + Int32.ofInt 1 : Int32) (fun x_7151 => rec_5001 x_7151 f_7150)))))
set_option maxRecDepth 100000 in
noncomputable def E_v_layLeast_l9 (x : Int32) (y : Int32) (z : Int32) (fl : Nat → Int32) (u_4800_2_1_0 : Nat → Int32) (rec_4954 : Int32 → Int32 → Int32 → Int64 → Int64 → (Nat → Int64) → (Nat → Int64) → (Nat → Int32) → (Nat → Int32) → (Nat → Int32) → (Int32 × Int32 × Int64 × Int64 × (Nat → Int32) × (Nat → Int64) × (Nat → Int64) × (Nat → Int32) × (Nat → Int32) × (Nat → Int32) × (Nat → Int32))) (v_4900 : Int32) (v_4901 : Int32) (v_4902 : Int32) (v_4903 : Int64) (v_4904 : Int64) (f_4905 : Nat → Int64) (f_4906 : Nat → Int64) (f_4907 : Nat → Int32) (f_4908 : Nat → Int32) (f_4909 : Nat → Int32) : Int32 × Int32 × Int64 × Int64 × (Nat → Int32) × (Nat → Int64) × (Nat → Int64) × (Nat → Int32) × (Nat → Int32) × (Nat → Int32) × (Nat → Int32) :=
  if y ≤ v_4900 then (Lt (E_v_putBack 16 f_4909 u_4800_2_1_0) (fun u_4958_2_1_0 => Lp (α := Int32 → (Nat → Int32) → (Int32 × Int32 × Int64 × Int64 × (Nat → Int32) × (Nat → Int64) × (Nat → Int64) × (Nat → Int32) × (Nat → Int32) × (Nat → Int32) × (Nat → Int32))) (E_v_layLeast_l48 y u_4800_2_1_0 v_4901 v_4902 v_4903 v_4904 f_4905 f_4906 f_4907 f_4908 u_4958_2_1_0) (fun _ _ => ((0, 0, 0, 0, fun _ => 0, fun _ => 0, fun _ => 0, fun _ => 0, fun _ => 0, fun _ => 0, fun _ => 0) : Int32 × Int32 × Int64 × Int64 × (Nat → Int32) × (Nat → Int64) × (Nat → Int64) × (Nat → Int32) × (Nat → Int32) × (Nat → Int32) × (Nat → Int32))) ((22 - (0 : Int32).toInt : Int).toNat + 1) 0 fl)) else (Lt (E_v_is z v_4900) (fun r_7152 => Lt2 (E_v_layHour x v_4900 r_7152 v_4901 v_4902 v_4903 v_4904 f_4909 f_4905 f_4906 f_4907 f_4908) (fun u_7156_2_2_2_1_0 q0_u_7156_2_2_2_1_0 => Lt2 q0_u_7156_2_2_2_1_0 (fun u_7156_2_2_2_1_1 q1_u_7156_2_2_2_1_1 => Lt2 q1_u_7156_2_2_2_1_1 (fun u_7156_2_2_2_2_1_0 q2_u_7156_2_2_2_2_1_0 => Lt2 q2_u_7156_2_2_2_2_1_0 (fun u_7156_2_2_2_2_1_1 q3_u_7156_2_2_2_2_1_1 => Lt2 q3_u_7156_2_2_2_2_1_1 (fun u_7156_2_1_0 q4_u_7156_2_1_0 => Lt2 q4_u_7156_2_1_0 (fun u_7156_2_2_1_0 q5_u_7156_2_2_1_0 => Lt2 q5_u_7156_2_2_1_0 (fun u_7156_2_2_1_1 q6_u_7156_2_2_1_1 => Lt2 q6_u_7156_2_2_1_1 (fun u_7156_2_1_1 u_7156_2_1_2 => Lt (E_v_goOnBy 1 u_7156_2_1_0) (fun u_7163_2_1_0 => Lt (v_4900 + Int32.ofInt 1 : Int32) (fun x_7167 => rec_4954 x_7167 u_7156_2_2_2_1_0 u_7156_2_2_2_1_1 u_7156_2_2_2_2_1_0 u_7156_2_2_2_2_1_1 u_7156_2_2_1_0 u_7156_2_2_1_1 u_7156_2_1_1 u_7156_2_1_2 u_7163_2_1_0))))))))))))
set_option maxRecDepth 100000 in
noncomputable def E_v_layLeast (x : Int32) (y : Int32) (z : Int32) (lw : Int32) (bro : Int32) (val : Int64) (sm : Int64) (fw : Nat → Int32) (fe : Nat → Int64) (frs : Nat → Int64) (fu : Nat → Int32) (fi : Nat → Int32) (ft : Nat → Int32) (fl : Nat → Int32) : Int32 × Int32 × Int64 × Int64 × (Nat → Int32) × (Nat → Int64) × (Nat → Int64) × (Nat → Int32) × (Nat → Int32) × (Nat → Int32) × (Nat → Int32) :=
  Lt (E_v_keepAll 16 fw fu) (fun u_4800_2_1_0 => Lp (α := Int32 → Int32 → Int32 → Int64 → Int64 → (Nat → Int64) → (Nat → Int64) → (Nat → Int32) → (Nat → Int32) → (Nat → Int32) → (Int32 × Int32 × Int64 × Int64 × (Nat → Int32) × (Nat → Int64) × (Nat → Int64) × (Nat → Int32) × (Nat → Int32) × (Nat → Int32) × (Nat → Int32))) (E_v_layLeast_l9 x y z fl u_4800_2_1_0) (fun _ _ _ _ _ _ _ _ _ _ => ((0, 0, 0, 0, fun _ => 0, fun _ => 0, fun _ => 0, fun _ => 0, fun _ => 0, fun _ => 0, fun _ => 0) : Int32 × Int32 × Int64 × Int64 × (Nat → Int32) × (Nat → Int64) × (Nat → Int64) × (Nat → Int32) × (Nat → Int32) × (Nat → Int32) × (Nat → Int32))) ((13 - (0 : Int32).toInt : Int).toNat + 1) 0 lw bro val sm fe frs fi ft fw)
set_option maxHeartbeats 4000000 in
set_option maxRecDepth 100000 in
theorem v_layLeast (l : Launch) (D : va_G) (K : Nat → ClassId) (m0 : Nat) (x : Int32) (y : Int32) (z : Int32) (m_0 : Value) (m_1 : Value) (m_2 : Value) (w0 : Nat) (m_4 : Value) (m_5 : Value) (u0 : Nat) (m_7 : Value) (m_8 : Value) (m_9 : Value) (m_10 : Value) (m_11 : Value) (m_12 : Value) (m_13 : Value) (m_14 : Value) (m_15 : Value) (m_16 : Value) (m_17 : Value) (m_18 : Value) (m_19 : Value) (m_21 : Value) (m_22 : Value) (m_23 : Value) (m_24 : Value) (m_25 : Value) (m_26 : Value) (m_27 : Value) (m_28 : Value) (m_29 : Value) (m_30 : Value) (m_31 : Value) (m_32 : Value) (m_33 : Value) (lw : Int32) (e0 : Nat) (m_36 : Value) (q0 : Nat) (bro : Int32) (val : Int64) (sm : Int64) (m_41 : Value) (le : Nat) (tf : Nat) (i3 : Nat) (m_45 : Value) (m_46 : Value) (m_47 : Value) (m_48 : Value) (m_49 : Value) (m_50 : Value) (m_51 : Value) (m_52 : Value) (m_53 : Value) (m_54 : Value) (m_55 : Value) (m_56 : Value) (m_57 : Value) (m_58 : Value) (m_59 : Value) (fw : Nat → Int32) (gr : Nat → Int32) (fe : Nat → Int64) (frs : Nat → Int64) (fu : Nat → Int32) (fi : Nat → Int32) (ft : Nat → Int32) (fl : Nat → Int32) (sz : Nat) (zbro : 0 ≤ bro.toInt ∧ bro.toInt ≤ 1) (zx : 0 ≤ x.toInt ∧ x.toInt ≤ 7) (zy : 1 ≤ y.toInt ∧ y.toInt ≤ 12) (zfw : RwOK fw) (zgr : FzM gr fw) (zfu : Pu 558 fu) (zft : Rg 819 0 20 ft) : Met l yX12_layLeast wsX12_layLeast ({ frames := 7, cells := 0, slots := 0, locals := 173 }) (va_Pc [.ref m0, .int x, .int y, .int z] (Pre D K [(m0, .inr (12, [m_0, m_1, m_2, .ref w0, m_4, m_5, .ref u0, m_7, m_8, m_9, m_10, m_11, m_12, m_13, m_14, m_15, m_16, m_17, m_18, m_19, .int 0, m_21, m_22, m_23, m_24, m_25, m_26, m_27, m_28, m_29, m_30, m_31, m_32, m_33, .int lw, .ref e0, m_36, .ref q0, .int bro, .long val, .long sm, m_41, .ref le, .ref tf, .ref i3, m_45, m_46, m_47, m_48, m_49, m_50, m_51, m_52, m_53, m_54, m_55, m_56, m_57, m_58, m_59])), (w0, .inl (K 0, 5500, .inl fw)), (e0, .inl (K 2, 13, .inr (.inl fe))), (q0, .inl (K 2, 400, .inr (.inl frs))), (u0, .inl (K 0, 558, .inl fu)), (i3, .inl (K 1, 819, .inl fi)), (tf, .inl (K 0, 819, .inl ft)), (le, .inl (K 0, 273, .inl fl))] sz)) (va_Qv (S := Su) (fun (u : Su) => (0 ≤ (u.2.2.2.1 1).toInt ∧ (u.2.2.2.1 1).toInt ≤ 1) ∧ (RwOK (u.2.1 0)) ∧ (FzM gr (u.2.1 0)) ∧ (Pu 558 (u.2.1 1)) ∧ (Rg 819 0 20 (u.2.1 3)) ∧ (LOK (u.2.1 2) (u.2.1 3) (u.2.1 4) (-1) 0 y.toInt) ∧ (((u.2.2.2.1 0), (u.2.2.2.1 1), (u.2.2.2.2.1 0), (u.2.2.2.2.1 1), (u.2.1 0), (u.2.2.1 0), (u.2.2.1 1), (u.2.1 1), (u.2.1 2), (u.2.1 3), (u.2.1 4)) = E_v_layLeast x y z lw bro val sm fw fe frs fu fi ft fl) ∧ True) (fun u t => Wd D (va_A [(m0, .inr (12, [m_0, m_1, m_2, .ref w0, m_4, m_5, .ref u0, m_7, m_8, m_9, m_10, m_11, m_12, m_13, m_14, m_15, m_16, m_17, m_18, m_19, .int 0, m_21, m_22, m_23, m_24, m_25, m_26, m_27, m_28, m_29, m_30, m_31, m_32, m_33, .int lw, .ref e0, m_36, .ref q0, .int bro, .long val, .long sm, m_41, .ref le, .ref tf, .ref i3, m_45, m_46, m_47, m_48, m_49, m_50, m_51, m_52, m_53, m_54, m_55, m_56, m_57, m_58, m_59])), (w0, .inl (K 0, 5500, .inl fw)), (e0, .inl (K 2, 13, .inr (.inl fe))), (q0, .inl (K 2, 400, .inr (.inl frs))), (u0, .inl (K 0, 558, .inl fu)), (i3, .inl (K 1, 819, .inl fi)), (tf, .inl (K 0, 819, .inl ft)), (le, .inl (K 0, 273, .inl fl))] sz) ((fun u => [(m0, .inr (12, [m_0, m_1, m_2, .ref w0, m_4, m_5, .ref u0, m_7, m_8, m_9, m_10, m_11, m_12, m_13, m_14, m_15, m_16, m_17, m_18, m_19, .int 0, m_21, m_22, m_23, m_24, m_25, m_26, m_27, m_28, m_29, m_30, m_31, m_32, m_33, .int (u.2.2.2.1 0), .ref e0, m_36, .ref q0, .int (u.2.2.2.1 1), .long (u.2.2.2.2.1 0), .long (u.2.2.2.2.1 1), m_41, .ref le, .ref tf, .ref i3, m_45, m_46, m_47, m_48, m_49, m_50, m_51, m_52, m_53, m_54, m_55, m_56, m_57, m_58, m_59])), (w0, .inl (K 0, 5500, .inl (u.2.1 0))), (e0, .inl (K 2, 13, .inr (.inl (u.2.2.1 0)))), (q0, .inl (K 2, 400, .inr (.inl (u.2.2.1 1)))), (u0, .inl (K 0, 558, .inl (u.2.1 1))), (i3, .inl (K 1, 819, .inl (u.2.1 2))), (tf, .inl (K 0, 819, .inl (u.2.1 3))), (le, .inl (K 0, 273, .inl (u.2.1 4)))]) u) t) (va_A [(m0, .inr (12, [m_0, m_1, m_2, .ref w0, m_4, m_5, .ref u0, m_7, m_8, m_9, m_10, m_11, m_12, m_13, m_14, m_15, m_16, m_17, m_18, m_19, .int 0, m_21, m_22, m_23, m_24, m_25, m_26, m_27, m_28, m_29, m_30, m_31, m_32, m_33, .int lw, .ref e0, m_36, .ref q0, .int bro, .long val, .long sm, m_41, .ref le, .ref tf, .ref i3, m_45, m_46, m_47, m_48, m_49, m_50, m_51, m_52, m_53, m_54, m_55, m_56, m_57, m_58, m_59])), (w0, .inl (K 0, 5500, .inl fw)), (e0, .inl (K 2, 13, .inr (.inl fe))), (q0, .inl (K 2, 400, .inr (.inl frs))), (u0, .inl (K 0, 558, .inl fu)), (i3, .inl (K 1, 819, .inl fi)), (tf, .inl (K 0, 819, .inl ft)), (le, .inl (K 0, 273, .inl fl))] sz)) 0 0 (va_A [(m0, .inr (12, [m_0, m_1, m_2, .ref w0, m_4, m_5, .ref u0, m_7, m_8, m_9, m_10, m_11, m_12, m_13, m_14, m_15, m_16, m_17, m_18, m_19, .int 0, m_21, m_22, m_23, m_24, m_25, m_26, m_27, m_28, m_29, m_30, m_31, m_32, m_33, .int lw, .ref e0, m_36, .ref q0, .int bro, .long val, .long sm, m_41, .ref le, .ref tf, .ref i3, m_45, m_46, m_47, m_48, m_49, m_50, m_51, m_52, m_53, m_54, m_55, m_56, m_57, m_58, m_59])), (w0, .inl (K 0, 5500, .inl fw)), (e0, .inl (K 2, 13, .inr (.inl fe))), (q0, .inl (K 2, 400, .inr (.inl frs))), (u0, .inl (K 0, 558, .inl fu)), (i3, .inl (K 1, 819, .inl fi)), (tf, .inl (K 0, 819, .inl ft)), (le, .inl (K 0, 273, .inl fl))] sz) := by
  refine Met.ofW (cc := cX12_layLeast) (maxL := 9) (ret := none) (by decide) rfl ?_
  intro p e s m args below meth c s₁ B hml hv
  obtain ⟨rfl, hsz, hP, hK, hD0, hN⟩ := hv
  have hx := B.exec
  have hb := B.bytes
  have hr := B.returns
  have hts := atoms_spec (ws := wsX12_layLeast) B.pre
  have hown : s.vm.findClass RX12 = some m.cls := findClass_of_methodNamed B.named
  have hlocks := B.notSynchronized
  subst hsz
  have hD := hD0.self (sz := s.heap.size)
  generalize hAe : va_A [(m0, .inr (12, [m_0, m_1, m_2, .ref w0, m_4, m_5, .ref u0, m_7, m_8, m_9, m_10, m_11, m_12, m_13, m_14, m_15, m_16, m_17, m_18, m_19, .int 0, m_21, m_22, m_23, m_24, m_25, m_26, m_27, m_28, m_29, m_30, m_31, m_32, m_33, .int lw, .ref e0, m_36, .ref q0, .int bro, .long val, .long sm, m_41, .ref le, .ref tf, .ref i3, m_45, m_46, m_47, m_48, m_49, m_50, m_51, m_52, m_53, m_54, m_55, m_56, m_57, m_58, m_59])), (w0, .inl (K 0, 5500, .inl fw)), (e0, .inl (K 2, 13, .inr (.inl fe))), (q0, .inl (K 2, 400, .inr (.inl frs))), (u0, .inl (K 0, 558, .inl fu)), (i3, .inl (K 1, 819, .inl fi)), (tf, .inl (K 0, 819, .inl ft)), (le, .inl (K 0, 273, .inl fl))] s.heap.size = A at hD ⊢
  have hA : ∀ q : Nat, s.heap.size ≤ q → A q := fun q h => by rw [← hAe]; exact Or.inr h
  have hS : va_S A s.heap s.heap [] := va_S.rf
  have hP : va_P D vwCl [(m0, .inr (12, [m_0, m_1, m_2, .ref w0, m_4, m_5, .ref u0, m_7, m_8, m_9, m_10, m_11, m_12, m_13, m_14, m_15, m_16, m_17, m_18, m_19, .int 0, m_21, m_22, m_23, m_24, m_25, m_26, m_27, m_28, m_29, m_30, m_31, m_32, m_33, .int lw, .ref e0, m_36, .ref q0, .int bro, .long val, .long sm, m_41, .ref le, .ref tf, .ref i3, m_45, m_46, m_47, m_48, m_49, m_50, m_51, m_52, m_53, m_54, m_55, m_56, m_57, m_58, m_59])), (w0, .inl (K 0, 5500, .inl fw)), (e0, .inl (K 2, 13, .inr (.inl fe))), (q0, .inl (K 2, 400, .inr (.inl frs))), (u0, .inl (K 0, 558, .inl fu)), (i3, .inl (K 1, 819, .inl fi)), (tf, .inl (K 0, 819, .inl ft)), (le, .inl (K 0, 273, .inl fl))] s.heap := hP
  have hl := lv_entry [.ref m0, .int x, .int y, .int z] (n := 9) (Nat.le_of_ble_eq_true rfl)
  rw [lg_entry_eq]
  generalize (lg_sl [.ref m0, .int x, .int y, .int z] ++ List.replicate (9 - (lg_sl [.ref m0, .int x, .int y, .int z]).length) Slot.unset).toArray = ls at hl ⊢
  have hl : lv_has ls 9 [(0, .ref m0), (1, .int x), (2, .int y), (3, .int z)] := hl
  have hw12 : ∀ w ∈ wsX120, w ∈ wsX12_layLeast := fun w h => (List.mem_cons_of_mem _ (List.mem_append_right _ h))
  generalize hQ : MQ below _ _ s _ _ _ = Q
  have hE := E_v_layLeast.eq_def x y z lw bro val sm fw fe frs fu fi ft fl
  refine lv_aload_n hx hb dX12_layLeast_0 rfl (lv_at hl 0 rfl) ?_
  refine lv_bipush (v := 16) hx hb dX12_layLeast_1 (by decide) ?_
  refine kcv (S := Su) (wr := [(e0, .inl (K 2, 13, .inr (.inl fe))), (q0, .inl (K 2, 400, .inr (.inl frs))), (i3, .inl (K 1, 819, .inl fi)), (tf, .inl (K 0, 819, .inl ft)), (le, .inl (K 0, 273, .inl fl))]) (va_runV (As := [.int 16]) (rest := []) ⟨hx, hb, hml, hown, hts⟩ (v_keepAll l D K m0 16 m_0 m_1 m_2 w0 m_4 m_5 u0 m_7 m_8 m_9 m_10 m_11 m_12 m_13 m_14 m_15 m_16 m_17 m_18 m_19 (.int 0) m_21 m_22 m_23 m_24 m_25 m_26 m_27 m_28 m_29 m_30 m_31 m_32 m_33 (.int lw) (.ref e0) m_36 (.ref q0) (.int bro) (.long val) (.long sm) m_41 (.ref le) (.ref tf) (.ref i3) m_45 m_46 m_47 m_48 m_49 m_50 m_51 m_52 m_53 m_54 m_55 m_56 m_57 m_58 m_59 fw gr fu s.heap.size (by first | omega | decide) zfw zgr zfu) (cwV 1 hts gX12_layLeast_X12_keepAll rfl rfl rfl (by decide +kernel) ⟨Nat.le_of_ble_eq_true rfl, Nat.le_of_ble_eq_true rfl⟩) (mkV hK hN (hP.sub [0, 1, 4] rfl) (hD.sub [0, 1, 4] (by decide) rfl) (ci := 12) (q0 := 0) rfl rfl) rfl rfl hl.1 rfl (lv_room (Nat.le_of_ble_eq_true rfl)) dX12_layLeast_3 ⟨Nat.le_of_ble_eq_true rfl, Nat.le_of_ble_eq_true rfl⟩) hP hD hS hA [0, 1, 4] [2, 3, 5, 6, 7] rfl rfl (by decide) (by decide) (fun u_4800 H locs hw hP hD hS => ?_)
  have hP : va_P D vwCl [(e0, .inl (K 2, 13, .inr (.inl fe))), (q0, .inl (K 2, 400, .inr (.inl frs))), (i3, .inl (K 1, 819, .inl fi)), (tf, .inl (K 0, 819, .inl ft)), (le, .inl (K 0, 273, .inl fl)), (m0, .inr (12, [m_0, m_1, m_2, .ref w0, m_4, m_5, .ref u0, m_7, m_8, m_9, m_10, m_11, m_12, m_13, m_14, m_15, m_16, m_17, m_18, m_19, .int 0, m_21, m_22, m_23, m_24, m_25, m_26, m_27, m_28, m_29, m_30, m_31, m_32, m_33, .int lw, .ref e0, m_36, .ref q0, .int bro, .long val, .long sm, m_41, .ref le, .ref tf, .ref i3, m_45, m_46, m_47, m_48, m_49, m_50, m_51, m_52, m_53, m_54, m_55, m_56, m_57, m_58, m_59])), (w0, .inl (K 0, 5500, .inl fw)), (u0, .inl (K 0, 558, .inl (u_4800.2.1 0)))] H := hP
  have hD : va_D A [(e0, .inl (K 2, 13, .inr (.inl fe))), (q0, .inl (K 2, 400, .inr (.inl frs))), (i3, .inl (K 1, 819, .inl fi)), (tf, .inl (K 0, 819, .inl ft)), (le, .inl (K 0, 273, .inl fl)), (m0, .inr (12, [m_0, m_1, m_2, .ref w0, m_4, m_5, .ref u0, m_7, m_8, m_9, m_10, m_11, m_12, m_13, m_14, m_15, m_16, m_17, m_18, m_19, .int 0, m_21, m_22, m_23, m_24, m_25, m_26, m_27, m_28, m_29, m_30, m_31, m_32, m_33, .int lw, .ref e0, m_36, .ref q0, .int bro, .long val, .long sm, m_41, .ref le, .ref tf, .ref i3, m_45, m_46, m_47, m_48, m_49, m_50, m_51, m_52, m_53, m_54, m_55, m_56, m_57, m_58, m_59])), (w0, .inl (K 0, 5500, .inl fw)), (u0, .inl (K 0, 558, .inl (u_4800.2.1 0)))] := hD
  obtain ⟨k_4801, k_4802, -⟩ := hw
  replace hE := hE.trans (Lt_in k_4802)
  refine lv_iconst (v := 0) hx hb dX12_layLeast_6 (by decide) ?_
  refine lv_istore (lv' := [(4, .int 0), (0, .ref m0), (1, .int x), (2, .int y), (3, .int z)]) hx hb dX12_layLeast_7 hl (by decide) rfl (fun ls hl => ?_)
  have lp_4954 : ∀ (nn_ : Nat) (v_4900 : Int32) (v_4901 : Int32) (v_4902 : Int32) (v_4903 : Int64) (v_4904 : Int64) (f_4905 : Nat → Int64) (f_4906 : Nat → Int64) (f_4907 : Nat → Int32) (f_4908 : Nat → Int32) (f_4909 : Nat → Int32) (hv_4900 : 0 ≤ v_4900.toInt ∧ v_4900.toInt ≤ 12) (hv_4902 : 0 ≤ v_4902.toInt ∧ v_4902.toInt ≤ 1) (hf_4908_0 : Rg 819 0 20 f_4908) (hf_4909_0 : RwOK f_4909) (hf_4909_1 : FzM gr f_4909) (hn : (13 - v_4900.toInt : Int).toNat < nn_) (hE : E_v_layLeast x y z lw bro val sm fw fe frs fu fi ft fl = Lp (α := Int32 → Int32 → Int32 → Int64 → Int64 → (Nat → Int64) → (Nat → Int64) → (Nat → Int32) → (Nat → Int32) → (Nat → Int32) → (Int32 × Int32 × Int64 × Int64 × (Nat → Int32) × (Nat → Int64) × (Nat → Int64) × (Nat → Int32) × (Nat → Int32) × (Nat → Int32) × (Nat → Int32))) (E_v_layLeast_l9 x y z fl (u_4800.2.1 0)) (fun _ _ _ _ _ _ _ _ _ _ => ((0, 0, 0, 0, fun _ => 0, fun _ => 0, fun _ => 0, fun _ => 0, fun _ => 0, fun _ => 0, fun _ => 0) : Int32 × Int32 × Int64 × Int64 × (Nat → Int32) × (Nat → Int64) × (Nat → Int64) × (Nat → Int32) × (Nat → Int32) × (Nat → Int32) × (Nat → Int32))) nn_ v_4900 v_4901 v_4902 v_4903 v_4904 f_4905 f_4906 f_4907 f_4908 f_4909) (H : Heap) (locs : List Loc) (hP : va_P D vwCl [(e0, .inl (K 2, 13, .inr (.inl f_4905))), (q0, .inl (K 2, 400, .inr (.inl f_4906))), (i3, .inl (K 1, 819, .inl f_4907)), (tf, .inl (K 0, 819, .inl f_4908)), (le, .inl (K 0, 273, .inl fl)), (m0, .inr (12, [m_0, m_1, m_2, .ref w0, m_4, m_5, .ref u0, m_7, m_8, m_9, m_10, m_11, m_12, m_13, m_14, m_15, m_16, m_17, m_18, m_19, .int 0, m_21, m_22, m_23, m_24, m_25, m_26, m_27, m_28, m_29, m_30, m_31, m_32, m_33, .int v_4901, .ref e0, m_36, .ref q0, .int v_4902, .long v_4903, .long v_4904, m_41, .ref le, .ref tf, .ref i3, m_45, m_46, m_47, m_48, m_49, m_50, m_51, m_52, m_53, m_54, m_55, m_56, m_57, m_58, m_59])), (w0, .inl (K 0, 5500, .inl f_4909)), (u0, .inl (K 0, 558, .inl (u_4800.2.1 0)))] H) (hD : va_D A [(e0, .inl (K 2, 13, .inr (.inl f_4905))), (q0, .inl (K 2, 400, .inr (.inl f_4906))), (i3, .inl (K 1, 819, .inl f_4907)), (tf, .inl (K 0, 819, .inl f_4908)), (le, .inl (K 0, 273, .inl fl)), (m0, .inr (12, [m_0, m_1, m_2, .ref w0, m_4, m_5, .ref u0, m_7, m_8, m_9, m_10, m_11, m_12, m_13, m_14, m_15, m_16, m_17, m_18, m_19, .int 0, m_21, m_22, m_23, m_24, m_25, m_26, m_27, m_28, m_29, m_30, m_31, m_32, m_33, .int v_4901, .ref e0, m_36, .ref q0, .int v_4902, .long v_4903, .long v_4904, m_41, .ref le, .ref tf, .ref i3, m_45, m_46, m_47, m_48, m_49, m_50, m_51, m_52, m_53, m_54, m_55, m_56, m_57, m_58, m_59])), (w0, .inl (K 0, 5500, .inl f_4909)), (u0, .inl (K 0, 558, .inl (u_4800.2.1 0)))]) (hS : va_S A s.heap H locs) (ls : Array Slot) (hl : lv_has ls 9 [(4, .int v_4900), (0, .ref m0), (1, .int x), (2, .int y), (3, .int z)]), W p l e ({ frames := 7, cells := 0, slots := 0, locals := 173 }) s m (([.ref m0, .int x, .int y, .int z] : List Value).toArray) below meth c H locs 0 0 Q (F0 m 9 ls []) := by
    intro nn_
    induction nn_ with
    | zero =>
      intro v_4900 v_4901 v_4902 v_4903 v_4904 f_4905 f_4906 f_4907 f_4908 f_4909 hv_4900 hv_4902 hf_4908_0 hf_4909_0 hf_4909_1 hn hE H locs hP hD hS ls hl
      exact absurd hn (Nat.not_lt_zero _)
    | succ nn_ ih_4955 =>
      intro v_4900 v_4901 v_4902 v_4903 v_4904 f_4905 f_4906 f_4907 f_4908 f_4909 hv_4900 hv_4902 hf_4908_0 hf_4909_0 hf_4909_1 hn hE H locs hP hD hS ls hl
      replace hE : E_v_layLeast x y z lw bro val sm fw fe frs fu fi ft fl = E_v_layLeast_l9 x y z fl (u_4800.2.1 0) (Lp (α := Int32 → Int32 → Int32 → Int64 → Int64 → (Nat → Int64) → (Nat → Int64) → (Nat → Int32) → (Nat → Int32) → (Nat → Int32) → (Int32 × Int32 × Int64 × Int64 × (Nat → Int32) × (Nat → Int64) × (Nat → Int64) × (Nat → Int32) × (Nat → Int32) × (Nat → Int32) × (Nat → Int32))) (E_v_layLeast_l9 x y z fl (u_4800.2.1 0)) (fun _ _ _ _ _ _ _ _ _ _ => ((0, 0, 0, 0, fun _ => 0, fun _ => 0, fun _ => 0, fun _ => 0, fun _ => 0, fun _ => 0, fun _ => 0) : Int32 × Int32 × Int64 × Int64 × (Nat → Int32) × (Nat → Int64) × (Nat → Int64) × (Nat → Int32) × (Nat → Int32) × (Nat → Int32) × (Nat → Int32))) nn_) v_4900 v_4901 v_4902 v_4903 v_4904 f_4905 f_4906 f_4907 f_4908 f_4909 := hE
      obtain ⟨rec_4954, hrec_4954⟩ : ∃ z9, z9 = Lp (α := Int32 → Int32 → Int32 → Int64 → Int64 → (Nat → Int64) → (Nat → Int64) → (Nat → Int32) → (Nat → Int32) → (Nat → Int32) → (Int32 × Int32 × Int64 × Int64 × (Nat → Int32) × (Nat → Int64) × (Nat → Int64) × (Nat → Int32) × (Nat → Int32) × (Nat → Int32) × (Nat → Int32))) (E_v_layLeast_l9 x y z fl (u_4800.2.1 0)) (fun _ _ _ _ _ _ _ _ _ _ => ((0, 0, 0, 0, fun _ => 0, fun _ => 0, fun _ => 0, fun _ => 0, fun _ => 0, fun _ => 0, fun _ => 0) : Int32 × Int32 × Int64 × Int64 × (Nat → Int32) × (Nat → Int64) × (Nat → Int64) × (Nat → Int32) × (Nat → Int32) × (Nat → Int32) × (Nat → Int32))) nn_ := ⟨_, rfl⟩
      rw [← hrec_4954] at hE
      replace hE := hE.trans (E_v_layLeast_l9.eq_def _ _ _ _ _ _ _ _ _ _ _ _ _ _ _ _)
      refine lv_iload hx hb dX12_layLeast_9 (lv_at hl 0 rfl) ?_
      refine lv_iload_n hx hb dX12_layLeast_11 rfl (lv_at hl 3 rfl) ?_
      refine lv_icmp_ge (tgt := 39) hx hb dX12_layLeast_12 (by decide) (fun c_4956 => ?_) (fun c_4956 => ?_)
      · have c_4956i := i_le (x := y.toInt) (y := v_4900.toInt) rfl rfl c_4956
        replace hE := hE.trans (if_pos c_4956)
        refine lv_aload_n hx hb dX12_layLeast_39 rfl (lv_at hl 1 rfl) ?_
        refine lv_bipush (v := 16) hx hb dX12_layLeast_40 (by decide) ?_
        refine kcv (S := Su) (wr := [(e0, .inl (K 2, 13, .inr (.inl f_4905))), (q0, .inl (K 2, 400, .inr (.inl f_4906))), (i3, .inl (K 1, 819, .inl f_4907)), (tf, .inl (K 0, 819, .inl f_4908)), (le, .inl (K 0, 273, .inl fl))]) (va_runV (As := [.int 16]) (rest := []) ⟨hx, hb, hml, hown, hts⟩ (v_putBack l D K m0 16 m_0 m_1 m_2 w0 m_4 m_5 u0 m_7 m_8 m_9 m_10 m_11 m_12 m_13 m_14 m_15 m_16 m_17 m_18 m_19 (.int 0) m_21 m_22 m_23 m_24 m_25 m_26 m_27 m_28 m_29 m_30 m_31 m_32 m_33 (.int v_4901) (.ref e0) m_36 (.ref q0) (.int v_4902) (.long v_4903) (.long v_4904) m_41 (.ref le) (.ref tf) (.ref i3) m_45 m_46 m_47 m_48 m_49 m_50 m_51 m_52 m_53 m_54 m_55 m_56 m_57 m_58 m_59 f_4909 gr (u_4800.2.1 0) H.size (by first | omega | decide) hf_4909_0 hf_4909_1 k_4801) (cwV 1 hts gX12_layLeast_X12_putBack rfl rfl rfl (by decide +kernel) ⟨Nat.le_of_ble_eq_true rfl, Nat.le_of_ble_eq_true rfl⟩) (mkV hK hN (hP.sub [5, 6, 7] rfl) (hD.sub [5, 6, 7] (by decide) rfl) (ci := 12) (q0 := 0) rfl rfl) rfl rfl hl.1 rfl (lv_room (Nat.le_of_ble_eq_true rfl)) dX12_layLeast_42 ⟨Nat.le_of_ble_eq_true rfl, Nat.le_of_ble_eq_true rfl⟩) hP hD hS hA [5, 6, 7] [0, 1, 2, 3, 4] rfl rfl (by decide) (by decide) (fun u_4958 H locs hw hP hD hS => ?_)
        have hP : va_P D vwCl [(e0, .inl (K 2, 13, .inr (.inl f_4905))), (q0, .inl (K 2, 400, .inr (.inl f_4906))), (i3, .inl (K 1, 819, .inl f_4907)), (tf, .inl (K 0, 819, .inl f_4908)), (le, .inl (K 0, 273, .inl fl)), (m0, .inr (12, [m_0, m_1, m_2, .ref w0, m_4, m_5, .ref u0, m_7, m_8, m_9, m_10, m_11, m_12, m_13, m_14, m_15, m_16, m_17, m_18, m_19, .int 0, m_21, m_22, m_23, m_24, m_25, m_26, m_27, m_28, m_29, m_30, m_31, m_32, m_33, .int v_4901, .ref e0, m_36, .ref q0, .int v_4902, .long v_4903, .long v_4904, m_41, .ref le, .ref tf, .ref i3, m_45, m_46, m_47, m_48, m_49, m_50, m_51, m_52, m_53, m_54, m_55, m_56, m_57, m_58, m_59])), (w0, .inl (K 0, 5500, .inl (u_4958.2.1 0))), (u0, .inl (K 0, 558, .inl (u_4800.2.1 0)))] H := hP
        have hD : va_D A [(e0, .inl (K 2, 13, .inr (.inl f_4905))), (q0, .inl (K 2, 400, .inr (.inl f_4906))), (i3, .inl (K 1, 819, .inl f_4907)), (tf, .inl (K 0, 819, .inl f_4908)), (le, .inl (K 0, 273, .inl fl)), (m0, .inr (12, [m_0, m_1, m_2, .ref w0, m_4, m_5, .ref u0, m_7, m_8, m_9, m_10, m_11, m_12, m_13, m_14, m_15, m_16, m_17, m_18, m_19, .int 0, m_21, m_22, m_23, m_24, m_25, m_26, m_27, m_28, m_29, m_30, m_31, m_32, m_33, .int v_4901, .ref e0, m_36, .ref q0, .int v_4902, .long v_4903, .long v_4904, m_41, .ref le, .ref tf, .ref i3, m_45, m_46, m_47, m_48, m_49, m_50, m_51, m_52, m_53, m_54, m_55, m_56, m_57, m_58, m_59])), (w0, .inl (K 0, 5500, .inl (u_4958.2.1 0))), (u0, .inl (K 0, 558, .inl (u_4800.2.1 0)))] := hD
        obtain ⟨k_4959, k_4960, k_4961, -⟩ := hw
        replace hE := hE.trans (Lt_in k_4961)
        refine lv_iconst (v := 0) hx hb dX12_layLeast_45 (by decide) ?_
        refine lv_istore (lv' := [(4, .int 0), (0, .ref m0), (1, .int x), (2, .int y), (3, .int z)]) hx hb dX12_layLeast_46 hl (by decide) rfl (fun ls hl => ?_)
        have lp_5001 : ∀ (nn_ : Nat) (v_4987 : Int32) (f_4988 : Nat → Int32) (hv_4987 : 0 ≤ v_4987.toInt ∧ v_4987.toInt ≤ 21) (hn : (22 - v_4987.toInt : Int).toNat < nn_) (hE : E_v_layLeast x y z lw bro val sm fw fe frs fu fi ft fl = Lp (α := Int32 → (Nat → Int32) → (Int32 × Int32 × Int64 × Int64 × (Nat → Int32) × (Nat → Int64) × (Nat → Int64) × (Nat → Int32) × (Nat → Int32) × (Nat → Int32) × (Nat → Int32))) (E_v_layLeast_l48 y (u_4800.2.1 0) v_4901 v_4902 v_4903 v_4904 f_4905 f_4906 f_4907 f_4908 (u_4958.2.1 0)) (fun _ _ => ((0, 0, 0, 0, fun _ => 0, fun _ => 0, fun _ => 0, fun _ => 0, fun _ => 0, fun _ => 0, fun _ => 0) : Int32 × Int32 × Int64 × Int64 × (Nat → Int32) × (Nat → Int64) × (Nat → Int64) × (Nat → Int32) × (Nat → Int32) × (Nat → Int32) × (Nat → Int32))) nn_ v_4987 f_4988) (H : Heap) (locs : List Loc) (hP : va_P D vwCl [(e0, .inl (K 2, 13, .inr (.inl f_4905))), (q0, .inl (K 2, 400, .inr (.inl f_4906))), (i3, .inl (K 1, 819, .inl f_4907)), (tf, .inl (K 0, 819, .inl f_4908)), (le, .inl (K 0, 273, .inl f_4988)), (m0, .inr (12, [m_0, m_1, m_2, .ref w0, m_4, m_5, .ref u0, m_7, m_8, m_9, m_10, m_11, m_12, m_13, m_14, m_15, m_16, m_17, m_18, m_19, .int 0, m_21, m_22, m_23, m_24, m_25, m_26, m_27, m_28, m_29, m_30, m_31, m_32, m_33, .int v_4901, .ref e0, m_36, .ref q0, .int v_4902, .long v_4903, .long v_4904, m_41, .ref le, .ref tf, .ref i3, m_45, m_46, m_47, m_48, m_49, m_50, m_51, m_52, m_53, m_54, m_55, m_56, m_57, m_58, m_59])), (w0, .inl (K 0, 5500, .inl (u_4958.2.1 0))), (u0, .inl (K 0, 558, .inl (u_4800.2.1 0)))] H) (hD : va_D A [(e0, .inl (K 2, 13, .inr (.inl f_4905))), (q0, .inl (K 2, 400, .inr (.inl f_4906))), (i3, .inl (K 1, 819, .inl f_4907)), (tf, .inl (K 0, 819, .inl f_4908)), (le, .inl (K 0, 273, .inl f_4988)), (m0, .inr (12, [m_0, m_1, m_2, .ref w0, m_4, m_5, .ref u0, m_7, m_8, m_9, m_10, m_11, m_12, m_13, m_14, m_15, m_16, m_17, m_18, m_19, .int 0, m_21, m_22, m_23, m_24, m_25, m_26, m_27, m_28, m_29, m_30, m_31, m_32, m_33, .int v_4901, .ref e0, m_36, .ref q0, .int v_4902, .long v_4903, .long v_4904, m_41, .ref le, .ref tf, .ref i3, m_45, m_46, m_47, m_48, m_49, m_50, m_51, m_52, m_53, m_54, m_55, m_56, m_57, m_58, m_59])), (w0, .inl (K 0, 5500, .inl (u_4958.2.1 0))), (u0, .inl (K 0, 558, .inl (u_4800.2.1 0)))]) (hS : va_S A s.heap H locs) (ls : Array Slot) (hl : lv_has ls 9 [(4, .int v_4987), (0, .ref m0), (2, .int y)]), W p l e ({ frames := 7, cells := 0, slots := 0, locals := 173 }) s m (([.ref m0, .int x, .int y, .int z] : List Value).toArray) below meth c H locs 0 0 Q (F0 m 48 ls []) := by
          intro nn_
          induction nn_ with
          | zero =>
            intro v_4987 f_4988 hv_4987 hn hE H locs hP hD hS ls hl
            exact absurd hn (Nat.not_lt_zero _)
          | succ nn_ ih_5002 =>
            intro v_4987 f_4988 hv_4987 hn hE H locs hP hD hS ls hl
            replace hE : E_v_layLeast x y z lw bro val sm fw fe frs fu fi ft fl = E_v_layLeast_l48 y (u_4800.2.1 0) v_4901 v_4902 v_4903 v_4904 f_4905 f_4906 f_4907 f_4908 (u_4958.2.1 0) (Lp (α := Int32 → (Nat → Int32) → (Int32 × Int32 × Int64 × Int64 × (Nat → Int32) × (Nat → Int64) × (Nat → Int64) × (Nat → Int32) × (Nat → Int32) × (Nat → Int32) × (Nat → Int32))) (E_v_layLeast_l48 y (u_4800.2.1 0) v_4901 v_4902 v_4903 v_4904 f_4905 f_4906 f_4907 f_4908 (u_4958.2.1 0)) (fun _ _ => ((0, 0, 0, 0, fun _ => 0, fun _ => 0, fun _ => 0, fun _ => 0, fun _ => 0, fun _ => 0, fun _ => 0) : Int32 × Int32 × Int64 × Int64 × (Nat → Int32) × (Nat → Int64) × (Nat → Int64) × (Nat → Int32) × (Nat → Int32) × (Nat → Int32) × (Nat → Int32))) nn_) v_4987 f_4988 := hE
            obtain ⟨rec_5001, hrec_5001⟩ : ∃ z9, z9 = Lp (α := Int32 → (Nat → Int32) → (Int32 × Int32 × Int64 × Int64 × (Nat → Int32) × (Nat → Int64) × (Nat → Int64) × (Nat → Int32) × (Nat → Int32) × (Nat → Int32) × (Nat → Int32))) (E_v_layLeast_l48 y (u_4800.2.1 0) v_4901 v_4902 v_4903 v_4904 f_4905 f_4906 f_4907 f_4908 (u_4958.2.1 0)) (fun _ _ => ((0, 0, 0, 0, fun _ => 0, fun _ => 0, fun _ => 0, fun _ => 0, fun _ => 0, fun _ => 0, fun _ => 0) : Int32 × Int32 × Int64 × Int64 × (Nat → Int32) × (Nat → Int64) × (Nat → Int64) × (Nat → Int32) × (Nat → Int32) × (Nat → Int32) × (Nat → Int32))) nn_ := ⟨_, rfl⟩
            rw [← hrec_5001] at hE
            replace hE := hE.trans (E_v_layLeast_l48.eq_def _ _ _ _ _ _ _ _ _ _ _ _ _ _)
            refine lv_iload hx hb dX12_layLeast_48 (lv_at hl 0 rfl) ?_
            refine lv_bipush (v := 20) hx hb dX12_layLeast_50 (by decide) ?_
            refine lv_icmp_gt (tgt := 74) hx hb dX12_layLeast_52 (by decide) (fun c_5003 => ?_) (fun c_5003 => ?_)
            · have c_5003i := i_lt (x := 20) (y := v_4987.toInt) rfl rfl c_5003
              replace hE := hE.trans (if_pos c_5003)
              refine lv_iload_n hx hb dX12_layLeast_74 rfl (lv_at hl 2 rfl) ?_
              refine lv_iconst (v := 1) hx hb dX12_layLeast_75 (by decide) ?_
              refine lv_isub hx hb dX12_layLeast_76 ?_
              refine lv_topi (fun x_5004 ex_5004 => ?_)
              replace hE := hE.trans (Lt_in ex_5004)
              have hx_5004 : x_5004.toInt = (y.toInt - 1) := by rw [ex_5004]; exact i_sub rfl (show (1 : Int32).toInt = 1 from rfl) (by omega)
              refine lv_istore (lv' := [(4, .int x_5004), (0, .ref m0), (2, .int y)]) hx hb dX12_layLeast_77 hl (by decide) rfl (fun ls hl => ?_)
              have lp_6719 : ∀ (nn_ : Nat) (v_5861 : Int32) (f_5862 : Nat → Int32) (hv_5861 : (-1) ≤ v_5861.toInt ∧ v_5861.toInt ≤ 11) (hr0_lp_6719 : LOK f_4907 f_4908 f_5862 v_5861.toInt 0 y.toInt) (hn : (v_5861.toInt - (-2) : Int).toNat < nn_) (hE : E_v_layLeast x y z lw bro val sm fw fe frs fu fi ft fl = Lp (α := Int32 → (Nat → Int32) → (Int32 × Int32 × Int64 × Int64 × (Nat → Int32) × (Nat → Int64) × (Nat → Int64) × (Nat → Int32) × (Nat → Int32) × (Nat → Int32) × (Nat → Int32))) (E_v_layLeast_l79 (u_4800.2.1 0) v_4901 v_4902 v_4903 v_4904 f_4905 f_4906 f_4907 f_4908 (u_4958.2.1 0)) (fun _ _ => ((0, 0, 0, 0, fun _ => 0, fun _ => 0, fun _ => 0, fun _ => 0, fun _ => 0, fun _ => 0, fun _ => 0) : Int32 × Int32 × Int64 × Int64 × (Nat → Int32) × (Nat → Int64) × (Nat → Int64) × (Nat → Int32) × (Nat → Int32) × (Nat → Int32) × (Nat → Int32))) nn_ v_5861 f_5862) (H : Heap) (locs : List Loc) (hP : va_P D vwCl [(e0, .inl (K 2, 13, .inr (.inl f_4905))), (q0, .inl (K 2, 400, .inr (.inl f_4906))), (i3, .inl (K 1, 819, .inl f_4907)), (tf, .inl (K 0, 819, .inl f_4908)), (le, .inl (K 0, 273, .inl f_5862)), (m0, .inr (12, [m_0, m_1, m_2, .ref w0, m_4, m_5, .ref u0, m_7, m_8, m_9, m_10, m_11, m_12, m_13, m_14, m_15, m_16, m_17, m_18, m_19, .int 0, m_21, m_22, m_23, m_24, m_25, m_26, m_27, m_28, m_29, m_30, m_31, m_32, m_33, .int v_4901, .ref e0, m_36, .ref q0, .int v_4902, .long v_4903, .long v_4904, m_41, .ref le, .ref tf, .ref i3, m_45, m_46, m_47, m_48, m_49, m_50, m_51, m_52, m_53, m_54, m_55, m_56, m_57, m_58, m_59])), (w0, .inl (K 0, 5500, .inl (u_4958.2.1 0))), (u0, .inl (K 0, 558, .inl (u_4800.2.1 0)))] H) (hD : va_D A [(e0, .inl (K 2, 13, .inr (.inl f_4905))), (q0, .inl (K 2, 400, .inr (.inl f_4906))), (i3, .inl (K 1, 819, .inl f_4907)), (tf, .inl (K 0, 819, .inl f_4908)), (le, .inl (K 0, 273, .inl f_5862)), (m0, .inr (12, [m_0, m_1, m_2, .ref w0, m_4, m_5, .ref u0, m_7, m_8, m_9, m_10, m_11, m_12, m_13, m_14, m_15, m_16, m_17, m_18, m_19, .int 0, m_21, m_22, m_23, m_24, m_25, m_26, m_27, m_28, m_29, m_30, m_31, m_32, m_33, .int v_4901, .ref e0, m_36, .ref q0, .int v_4902, .long v_4903, .long v_4904, m_41, .ref le, .ref tf, .ref i3, m_45, m_46, m_47, m_48, m_49, m_50, m_51, m_52, m_53, m_54, m_55, m_56, m_57, m_58, m_59])), (w0, .inl (K 0, 5500, .inl (u_4958.2.1 0))), (u0, .inl (K 0, 558, .inl (u_4800.2.1 0)))]) (hS : va_S A s.heap H locs) (ls : Array Slot) (hl : lv_has ls 9 [(4, .int v_5861), (0, .ref m0)]), W p l e ({ frames := 7, cells := 0, slots := 0, locals := 173 }) s m (([.ref m0, .int x, .int y, .int z] : List Value).toArray) below meth c H locs 0 0 Q (F0 m 79 ls []) := by
                intro nn_
                induction nn_ with
                | zero =>
                  intro v_5861 f_5862 hv_5861 hr0_lp_6719 hn hE H locs hP hD hS ls hl
                  exact absurd hn (Nat.not_lt_zero _)
                | succ nn_ ih_6720 =>
                  intro v_5861 f_5862 hv_5861 hr0_lp_6719 hn hE H locs hP hD hS ls hl
                  replace hE : E_v_layLeast x y z lw bro val sm fw fe frs fu fi ft fl = E_v_layLeast_l79 (u_4800.2.1 0) v_4901 v_4902 v_4903 v_4904 f_4905 f_4906 f_4907 f_4908 (u_4958.2.1 0) (Lp (α := Int32 → (Nat → Int32) → (Int32 × Int32 × Int64 × Int64 × (Nat → Int32) × (Nat → Int64) × (Nat → Int64) × (Nat → Int32) × (Nat → Int32) × (Nat → Int32) × (Nat → Int32))) (E_v_layLeast_l79 (u_4800.2.1 0) v_4901 v_4902 v_4903 v_4904 f_4905 f_4906 f_4907 f_4908 (u_4958.2.1 0)) (fun _ _ => ((0, 0, 0, 0, fun _ => 0, fun _ => 0, fun _ => 0, fun _ => 0, fun _ => 0, fun _ => 0, fun _ => 0) : Int32 × Int32 × Int64 × Int64 × (Nat → Int32) × (Nat → Int64) × (Nat → Int64) × (Nat → Int32) × (Nat → Int32) × (Nat → Int32) × (Nat → Int32))) nn_) v_5861 f_5862 := hE
                  obtain ⟨rec_6719, hrec_6719⟩ : ∃ z9, z9 = Lp (α := Int32 → (Nat → Int32) → (Int32 × Int32 × Int64 × Int64 × (Nat → Int32) × (Nat → Int64) × (Nat → Int64) × (Nat → Int32) × (Nat → Int32) × (Nat → Int32) × (Nat → Int32))) (E_v_layLeast_l79 (u_4800.2.1 0) v_4901 v_4902 v_4903 v_4904 f_4905 f_4906 f_4907 f_4908 (u_4958.2.1 0)) (fun _ _ => ((0, 0, 0, 0, fun _ => 0, fun _ => 0, fun _ => 0, fun _ => 0, fun _ => 0, fun _ => 0, fun _ => 0) : Int32 × Int32 × Int64 × Int64 × (Nat → Int32) × (Nat → Int64) × (Nat → Int64) × (Nat → Int32) × (Nat → Int32) × (Nat → Int32) × (Nat → Int32))) nn_ := ⟨_, rfl⟩
                  rw [← hrec_6719] at hE
                  replace hE := hE.trans (E_v_layLeast_l79.eq_def _ _ _ _ _ _ _ _ _ _ _ _ _)
                  refine lv_iload hx hb dX12_layLeast_79 (lv_at hl 0 rfl) ?_
                  refine lv_if_lt (tgt := 169) hx hb dX12_layLeast_81 (by decide) (fun c_6721 => ?_) (fun c_6721 => ?_)
                  · have c_6721i := i_lt (x := v_5861.toInt) (y := 0) rfl rfl c_6721
                    replace hE := hE.trans (if_pos c_6721)
                    rw [← hQ]
                    have hP9 := hP.sub (ws' := [(m0, .inr (12, [m_0, m_1, m_2, .ref w0, m_4, m_5, .ref u0, m_7, m_8, m_9, m_10, m_11, m_12, m_13, m_14, m_15, m_16, m_17, m_18, m_19, .int 0, m_21, m_22, m_23, m_24, m_25, m_26, m_27, m_28, m_29, m_30, m_31, m_32, m_33, .int v_4901, .ref e0, m_36, .ref q0, .int v_4902, .long v_4903, .long v_4904, m_41, .ref le, .ref tf, .ref i3, m_45, m_46, m_47, m_48, m_49, m_50, m_51, m_52, m_53, m_54, m_55, m_56, m_57, m_58, m_59])), (w0, .inl (K 0, 5500, .inl (u_4958.2.1 0))), (e0, .inl (K 2, 13, .inr (.inl f_4905))), (q0, .inl (K 2, 400, .inr (.inl f_4906))), (u0, .inl (K 0, 558, .inl (u_4800.2.1 0))), (i3, .inl (K 1, 819, .inl f_4907)), (tf, .inl (K 0, 819, .inl f_4908)), (le, .inl (K 0, 273, .inl f_5862))]) [5, 6, 0, 1, 7, 2, 3, 4] rfl
                    have hD9 := hD.sub (ws' := [(m0, .inr (12, [m_0, m_1, m_2, .ref w0, m_4, m_5, .ref u0, m_7, m_8, m_9, m_10, m_11, m_12, m_13, m_14, m_15, m_16, m_17, m_18, m_19, .int 0, m_21, m_22, m_23, m_24, m_25, m_26, m_27, m_28, m_29, m_30, m_31, m_32, m_33, .int v_4901, .ref e0, m_36, .ref q0, .int v_4902, .long v_4903, .long v_4904, m_41, .ref le, .ref tf, .ref i3, m_45, m_46, m_47, m_48, m_49, m_50, m_51, m_52, m_53, m_54, m_55, m_56, m_57, m_58, m_59])), (w0, .inl (K 0, 5500, .inl (u_4958.2.1 0))), (e0, .inl (K 2, 13, .inr (.inl f_4905))), (q0, .inl (K 2, 400, .inr (.inl f_4906))), (u0, .inl (K 0, 558, .inl (u_4800.2.1 0))), (i3, .inl (K 1, 819, .inl f_4907)), (tf, .inl (K 0, 819, .inl f_4908)), (le, .inl (K 0, 273, .inl f_5862))]) [5, 6, 0, 1, 7, 2, 3, 4] (by decide) rfl
                    exact W.vret hx hb hr (fun t ht hW => ⟨⟨((fun _ => 0, fun i => match i with | 0 => (u_4958.2.1 0) | 1 => (u_4800.2.1 0) | 2 => f_4907 | 3 => f_4908 | _ => f_5862, fun i => match i with | 0 => f_4905 | _ => f_4906, fun i => match i with | 0 => v_4901 | _ => v_4902, fun i => match i with | 0 => v_4903 | _ => v_4904, fun _ => fun _ => none) : Su), rfl, ⟨(show 0 ≤ (v_4902 : Int32).toInt ∧ (v_4902 : Int32).toInt ≤ 1 by omega), k_4959, k_4960, k_4801, hf_4908_0, (show LOK f_4907 f_4908 f_5862 (-1) 0 y.toInt from by have q := hr0_lp_6719; rwa [show v_5861.toInt = -1 by omega] at q), hE.symm, trivial⟩, (⟨by rw [ht]; exact hP9, hD9⟩ : Wd D A _ t)⟩, hS.F ht⟩) hS.2.2 dX12_layLeast_169
                  · have c_6721i := i_nlt (x := v_5861.toInt) (y := 0) rfl rfl c_6721
                    replace hE := hE.trans (if_neg c_6721)
                    refine lv_iconst (v := 0) hx hb dX12_layLeast_84 (by decide) ?_
                    refine lv_istore (lv' := [(5, .int 0), (4, .int v_5861), (0, .ref m0)]) hx hb dX12_layLeast_85 hl (by decide) rfl (fun ls hl => ?_)
                    have lp_7085 : ∀ (nn_ : Nat) (v_6963 : Int32) (f_6964 : Nat → Int32) (hv_6963 : 0 ≤ v_6963.toInt ∧ v_6963.toInt ≤ 21) (hr0_lp_7085 : LOK f_4907 f_4908 f_6964 v_5861.toInt v_6963.toInt y.toInt) (hn : (22 - v_6963.toInt : Int).toNat < nn_) (hE : E_v_layLeast x y z lw bro val sm fw fe frs fu fi ft fl = Lp (α := Int32 → (Nat → Int32) → (Int32 × Int32 × Int64 × Int64 × (Nat → Int32) × (Nat → Int64) × (Nat → Int64) × (Nat → Int32) × (Nat → Int32) × (Nat → Int32) × (Nat → Int32))) (E_v_layLeast_l87 f_4907 f_4908 v_5861 rec_6719) (fun _ _ => ((0, 0, 0, 0, fun _ => 0, fun _ => 0, fun _ => 0, fun _ => 0, fun _ => 0, fun _ => 0, fun _ => 0) : Int32 × Int32 × Int64 × Int64 × (Nat → Int32) × (Nat → Int64) × (Nat → Int64) × (Nat → Int32) × (Nat → Int32) × (Nat → Int32) × (Nat → Int32))) nn_ v_6963 f_6964) (H : Heap) (locs : List Loc) (hP : va_P D vwCl [(e0, .inl (K 2, 13, .inr (.inl f_4905))), (q0, .inl (K 2, 400, .inr (.inl f_4906))), (i3, .inl (K 1, 819, .inl f_4907)), (tf, .inl (K 0, 819, .inl f_4908)), (le, .inl (K 0, 273, .inl f_6964)), (m0, .inr (12, [m_0, m_1, m_2, .ref w0, m_4, m_5, .ref u0, m_7, m_8, m_9, m_10, m_11, m_12, m_13, m_14, m_15, m_16, m_17, m_18, m_19, .int 0, m_21, m_22, m_23, m_24, m_25, m_26, m_27, m_28, m_29, m_30, m_31, m_32, m_33, .int v_4901, .ref e0, m_36, .ref q0, .int v_4902, .long v_4903, .long v_4904, m_41, .ref le, .ref tf, .ref i3, m_45, m_46, m_47, m_48, m_49, m_50, m_51, m_52, m_53, m_54, m_55, m_56, m_57, m_58, m_59])), (w0, .inl (K 0, 5500, .inl (u_4958.2.1 0))), (u0, .inl (K 0, 558, .inl (u_4800.2.1 0)))] H) (hD : va_D A [(e0, .inl (K 2, 13, .inr (.inl f_4905))), (q0, .inl (K 2, 400, .inr (.inl f_4906))), (i3, .inl (K 1, 819, .inl f_4907)), (tf, .inl (K 0, 819, .inl f_4908)), (le, .inl (K 0, 273, .inl f_6964)), (m0, .inr (12, [m_0, m_1, m_2, .ref w0, m_4, m_5, .ref u0, m_7, m_8, m_9, m_10, m_11, m_12, m_13, m_14, m_15, m_16, m_17, m_18, m_19, .int 0, m_21, m_22, m_23, m_24, m_25, m_26, m_27, m_28, m_29, m_30, m_31, m_32, m_33, .int v_4901, .ref e0, m_36, .ref q0, .int v_4902, .long v_4903, .long v_4904, m_41, .ref le, .ref tf, .ref i3, m_45, m_46, m_47, m_48, m_49, m_50, m_51, m_52, m_53, m_54, m_55, m_56, m_57, m_58, m_59])), (w0, .inl (K 0, 5500, .inl (u_4958.2.1 0))), (u0, .inl (K 0, 558, .inl (u_4800.2.1 0)))]) (hS : va_S A s.heap H locs) (ls : Array Slot) (hl : lv_has ls 9 [(5, .int v_6963), (4, .int v_5861), (0, .ref m0)]), W p l e ({ frames := 7, cells := 0, slots := 0, locals := 173 }) s m (([.ref m0, .int x, .int y, .int z] : List Value).toArray) below meth c H locs 0 0 Q (F0 m 87 ls []) := by
                      intro nn_
                      induction nn_ with
                      | zero =>
                        intro v_6963 f_6964 hv_6963 hr0_lp_7085 hn hE H locs hP hD hS ls hl
                        exact absurd hn (Nat.not_lt_zero _)
                      | succ nn_ ih_7086 =>
                        intro v_6963 f_6964 hv_6963 hr0_lp_7085 hn hE H locs hP hD hS ls hl
                        replace hE : E_v_layLeast x y z lw bro val sm fw fe frs fu fi ft fl = E_v_layLeast_l87 f_4907 f_4908 v_5861 rec_6719 (Lp (α := Int32 → (Nat → Int32) → (Int32 × Int32 × Int64 × Int64 × (Nat → Int32) × (Nat → Int64) × (Nat → Int64) × (Nat → Int32) × (Nat → Int32) × (Nat → Int32) × (Nat → Int32))) (E_v_layLeast_l87 f_4907 f_4908 v_5861 rec_6719) (fun _ _ => ((0, 0, 0, 0, fun _ => 0, fun _ => 0, fun _ => 0, fun _ => 0, fun _ => 0, fun _ => 0, fun _ => 0) : Int32 × Int32 × Int64 × Int64 × (Nat → Int32) × (Nat → Int64) × (Nat → Int64) × (Nat → Int32) × (Nat → Int32) × (Nat → Int32) × (Nat → Int32))) nn_) v_6963 f_6964 := hE
                        obtain ⟨rec_7085, hrec_7085⟩ : ∃ z9, z9 = Lp (α := Int32 → (Nat → Int32) → (Int32 × Int32 × Int64 × Int64 × (Nat → Int32) × (Nat → Int64) × (Nat → Int64) × (Nat → Int32) × (Nat → Int32) × (Nat → Int32) × (Nat → Int32))) (E_v_layLeast_l87 f_4907 f_4908 v_5861 rec_6719) (fun _ _ => ((0, 0, 0, 0, fun _ => 0, fun _ => 0, fun _ => 0, fun _ => 0, fun _ => 0, fun _ => 0, fun _ => 0) : Int32 × Int32 × Int64 × Int64 × (Nat → Int32) × (Nat → Int64) × (Nat → Int64) × (Nat → Int32) × (Nat → Int32) × (Nat → Int32) × (Nat → Int32))) nn_ := ⟨_, rfl⟩
                        rw [← hrec_7085] at hE
                        replace hE := hE.trans (E_v_layLeast_l87.eq_def _ _ _ _ _ _ _)
                        refine lv_iload hx hb dX12_layLeast_87 (lv_at hl 0 rfl) ?_
                        refine lv_bipush (v := 20) hx hb dX12_layLeast_89 (by decide) ?_
                        refine lv_icmp_gt (tgt := 163) hx hb dX12_layLeast_91 (by decide) (fun c_7087 => ?_) (fun c_7087 => ?_)
                        · have c_7087i := i_lt (x := 20) (y := v_6963.toInt) rfl rfl c_7087
                          replace hE := hE.trans (if_pos c_7087)
                          obtain ⟨x_7088, ex_7088⟩ : ∃ y : Int32, y = v_5861 + Int32.ofInt (-1) := ⟨_, rfl⟩
                          replace hE := hE.trans (Lt_in ex_7088)
                          have hx_7088 : x_7088.toInt = (v_5861.toInt + (-1)) := by rw [ex_7088]; exact i_add rfl (show (Int32.ofInt (-1)).toInt = (-1) from rfl) (by omega)
                          refine lv_iinc (v := x_7088) (lv' := [(4, .int x_7088), (5, .int v_6963), (0, .ref m0)]) hx hb dX12_layLeast_163 hl (k := 1) rfl (by rw [ex_7088]) (by decide) rfl (fun ls hl => ?_)
                          refine lv_goto (tgt := 79) hx hb dX12_layLeast_166 (by decide) ?_
                          exact ih_6720 x_7088 f_6964 (by rw [hx_7088]; omega) (show LOK f_4907 f_4908 f_6964 (x_7088 : Int32).toInt 0 y.toInt by rw [hx_7088]; exact LOK.down hr0_lp_7085 (by omega)) (by omega) (hE.trans (by rw [hrec_6719])) _ _ hP hD hS ls (lv_sub hl [0, 2] rfl)
                        · have c_7087i := i_nlt (x := 20) (y := v_6963.toInt) rfl rfl c_7087
                          replace hE := hE.trans (if_neg c_7087)
                          refine lv_ldcw (v := 100000000) hx hb hown (hts (.constant RX12 476 (100000000)) (List.mem_cons_of_mem _ (List.mem_append_left _ (List.mem_append_left _ (List.mem_of_getElem? (i := 1) rfl))))) dX12_layLeast_94 ?_
                          refine lv_istore (lv' := [(6, .int 100000000), (5, .int v_6963), (4, .int v_5861), (0, .ref m0)]) hx hb dX12_layLeast_97 hl (by decide) rfl (fun ls hl => ?_)
                          refine lv_iconst (v := 0) hx hb dX12_layLeast_99 (by decide) ?_
                          refine lv_istore (lv' := [(7, .int 0), (6, .int 100000000), (5, .int v_6963), (4, .int v_5861), (0, .ref m0)]) hx hb dX12_layLeast_100 hl (by decide) rfl (fun ls hl => ?_)
                          have lp_7133 : ∀ (nn_ : Nat) (v_7117 : Int32) (v_7118 : Int32) (hv_7117 : 0 ≤ v_7117.toInt ∧ v_7117.toInt ≤ 3) (hv_7118 : 0 ≤ v_7118.toInt ∧ v_7118.toInt ≤ 100000000) (hr0_lp_7133 : Mn f_4907 f_4908 f_6964 v_5861.toInt v_6963.toInt v_7117.toInt v_7118.toInt) (hn : (4 - v_7117.toInt : Int).toNat < nn_) (hE : E_v_layLeast x y z lw bro val sm fw fe frs fu fi ft fl = Lp (α := Int32 → Int32 → (Int32 × Int32 × Int64 × Int64 × (Nat → Int32) × (Nat → Int64) × (Nat → Int64) × (Nat → Int32) × (Nat → Int32) × (Nat → Int32) × (Nat → Int32))) (E_v_layLeast_l102 f_4907 f_4908 v_5861 v_6963 f_6964 rec_7085) (fun _ _ => ((0, 0, 0, 0, fun _ => 0, fun _ => 0, fun _ => 0, fun _ => 0, fun _ => 0, fun _ => 0, fun _ => 0) : Int32 × Int32 × Int64 × Int64 × (Nat → Int32) × (Nat → Int64) × (Nat → Int64) × (Nat → Int32) × (Nat → Int32) × (Nat → Int32) × (Nat → Int32))) nn_ v_7117 v_7118) (H : Heap) (locs : List Loc) (hP : va_P D vwCl [(e0, .inl (K 2, 13, .inr (.inl f_4905))), (q0, .inl (K 2, 400, .inr (.inl f_4906))), (i3, .inl (K 1, 819, .inl f_4907)), (tf, .inl (K 0, 819, .inl f_4908)), (le, .inl (K 0, 273, .inl f_6964)), (m0, .inr (12, [m_0, m_1, m_2, .ref w0, m_4, m_5, .ref u0, m_7, m_8, m_9, m_10, m_11, m_12, m_13, m_14, m_15, m_16, m_17, m_18, m_19, .int 0, m_21, m_22, m_23, m_24, m_25, m_26, m_27, m_28, m_29, m_30, m_31, m_32, m_33, .int v_4901, .ref e0, m_36, .ref q0, .int v_4902, .long v_4903, .long v_4904, m_41, .ref le, .ref tf, .ref i3, m_45, m_46, m_47, m_48, m_49, m_50, m_51, m_52, m_53, m_54, m_55, m_56, m_57, m_58, m_59])), (w0, .inl (K 0, 5500, .inl (u_4958.2.1 0))), (u0, .inl (K 0, 558, .inl (u_4800.2.1 0)))] H) (hD : va_D A [(e0, .inl (K 2, 13, .inr (.inl f_4905))), (q0, .inl (K 2, 400, .inr (.inl f_4906))), (i3, .inl (K 1, 819, .inl f_4907)), (tf, .inl (K 0, 819, .inl f_4908)), (le, .inl (K 0, 273, .inl f_6964)), (m0, .inr (12, [m_0, m_1, m_2, .ref w0, m_4, m_5, .ref u0, m_7, m_8, m_9, m_10, m_11, m_12, m_13, m_14, m_15, m_16, m_17, m_18, m_19, .int 0, m_21, m_22, m_23, m_24, m_25, m_26, m_27, m_28, m_29, m_30, m_31, m_32, m_33, .int v_4901, .ref e0, m_36, .ref q0, .int v_4902, .long v_4903, .long v_4904, m_41, .ref le, .ref tf, .ref i3, m_45, m_46, m_47, m_48, m_49, m_50, m_51, m_52, m_53, m_54, m_55, m_56, m_57, m_58, m_59])), (w0, .inl (K 0, 5500, .inl (u_4958.2.1 0))), (u0, .inl (K 0, 558, .inl (u_4800.2.1 0)))]) (hS : va_S A s.heap H locs) (ls : Array Slot) (hl : lv_has ls 9 [(7, .int v_7117), (6, .int v_7118), (5, .int v_6963), (4, .int v_5861), (0, .ref m0)]), W p l e ({ frames := 7, cells := 0, slots := 0, locals := 173 }) s m (([.ref m0, .int x, .int y, .int z] : List Value).toArray) below meth c H locs 0 0 Q (F0 m 102 ls []) := by
                            intro nn_
                            induction nn_ with
                            | zero =>
                              intro v_7117 v_7118 hv_7117 hv_7118 hr0_lp_7133 hn hE H locs hP hD hS ls hl
                              exact absurd hn (Nat.not_lt_zero _)
                            | succ nn_ ih_7134 =>
                              intro v_7117 v_7118 hv_7117 hv_7118 hr0_lp_7133 hn hE H locs hP hD hS ls hl
                              replace hE : E_v_layLeast x y z lw bro val sm fw fe frs fu fi ft fl = E_v_layLeast_l102 f_4907 f_4908 v_5861 v_6963 f_6964 rec_7085 (Lp (α := Int32 → Int32 → (Int32 × Int32 × Int64 × Int64 × (Nat → Int32) × (Nat → Int64) × (Nat → Int64) × (Nat → Int32) × (Nat → Int32) × (Nat → Int32) × (Nat → Int32))) (E_v_layLeast_l102 f_4907 f_4908 v_5861 v_6963 f_6964 rec_7085) (fun _ _ => ((0, 0, 0, 0, fun _ => 0, fun _ => 0, fun _ => 0, fun _ => 0, fun _ => 0, fun _ => 0, fun _ => 0) : Int32 × Int32 × Int64 × Int64 × (Nat → Int32) × (Nat → Int64) × (Nat → Int64) × (Nat → Int32) × (Nat → Int32) × (Nat → Int32) × (Nat → Int32))) nn_) v_7117 v_7118 := hE
                              obtain ⟨rec_7133, hrec_7133⟩ : ∃ z9, z9 = Lp (α := Int32 → Int32 → (Int32 × Int32 × Int64 × Int64 × (Nat → Int32) × (Nat → Int64) × (Nat → Int64) × (Nat → Int32) × (Nat → Int32) × (Nat → Int32) × (Nat → Int32))) (E_v_layLeast_l102 f_4907 f_4908 v_5861 v_6963 f_6964 rec_7085) (fun _ _ => ((0, 0, 0, 0, fun _ => 0, fun _ => 0, fun _ => 0, fun _ => 0, fun _ => 0, fun _ => 0, fun _ => 0) : Int32 × Int32 × Int64 × Int64 × (Nat → Int32) × (Nat → Int64) × (Nat → Int64) × (Nat → Int32) × (Nat → Int32) × (Nat → Int32) × (Nat → Int32))) nn_ := ⟨_, rfl⟩
                              rw [← hrec_7133] at hE
                              replace hE := hE.trans (E_v_layLeast_l102.eq_def _ _ _ _ _ _ _ _ _)
                              refine lv_iload hx hb dX12_layLeast_102 (lv_at hl 0 rfl) ?_
                              refine lv_iconst (v := 3) hx hb dX12_layLeast_104 (by decide) ?_
                              refine lv_icmp_ge (tgt := 142) hx hb dX12_layLeast_105 (by decide) (fun c_7135 => ?_) (fun c_7135 => ?_)
                              · have c_7135i := i_le (x := 3) (y := v_7117.toInt) rfl rfl c_7135
                                replace hE := hE.trans (if_pos c_7135)
                                have hmf := Mn.fin (by have q := hr0_lp_7133; rwa [show v_7117.toInt = 3 by omega] at q)
                                refine lv_aload_n hx hb dX12_layLeast_142 rfl (lv_at hl 4 rfl) ?_
                                refine va_get (ci := 12) (v := .ref le) (C := RX12) (T := TX12) (N := 60) hx hb hts hw12 hown hK hP 5 rfl rfl 42 (by decide) (hts (.fieldLink RX12 111 "SmokeTuneModel" "least" "[I") (List.mem_cons_of_mem _ (List.mem_append_left _ (List.mem_append_left _ (List.mem_of_getElem? (i := 0) rfl))))) (fun _ h9 => h9) rfl dX12_layLeast_143 ?_
                                refine lv_bipush (v := 21) hx hb dX12_layLeast_146 (by decide) ?_
                                refine lv_iload hx hb dX12_layLeast_148 (lv_at hl 3 rfl) ?_
                                refine lv_imul hx hb dX12_layLeast_150 ?_
                                refine lv_topi (fun x_7136 ex_7136 => ?_)
                                replace hE := hE.trans (Lt_in ex_7136)
                                have hx_7136 : x_7136.toInt = (21 * v_5861.toInt) := by rw [ex_7136]; exact i_mul (show (21 : Int32).toInt = 21 from rfl) rfl (by omega)
                                refine lv_iload hx hb dX12_layLeast_151 (lv_at hl 2 rfl) ?_
                                refine lv_iadd hx hb dX12_layLeast_153 ?_
                                refine lv_topi (fun x_7137 ex_7137 => ?_)
                                replace hE := hE.trans (Lt_in ex_7137)
                                have hx_7137 : x_7137.toInt = ((21 * v_5861.toInt) + v_6963.toInt) := by rw [ex_7137]; exact i_add hx_7136 rfl (by omega)
                                refine lv_iload hx hb dX12_layLeast_154 (lv_at hl 1 rfl) ?_
                                refine va_iast hx hb hK hP hD hS 4 0 rfl rfl (i_in hx_7137 (by omega)) dX12_layLeast_156 (fun H locs hP hD hS => ?_)
                                generalize hf_7138 : (upd f_6964 (x_7137 : Int32).toNatClampNeg v_7118) = f_7138 at hP hD
                                replace hE := hE.trans (Lt_in hf_7138.symm)
                                have hP : va_P D vwCl [(e0, .inl (K 2, 13, .inr (.inl f_4905))), (q0, .inl (K 2, 400, .inr (.inl f_4906))), (i3, .inl (K 1, 819, .inl f_4907)), (tf, .inl (K 0, 819, .inl f_4908)), (le, .inl (K 0, 273, .inl f_7138)), (m0, .inr (12, [m_0, m_1, m_2, .ref w0, m_4, m_5, .ref u0, m_7, m_8, m_9, m_10, m_11, m_12, m_13, m_14, m_15, m_16, m_17, m_18, m_19, .int 0, m_21, m_22, m_23, m_24, m_25, m_26, m_27, m_28, m_29, m_30, m_31, m_32, m_33, .int v_4901, .ref e0, m_36, .ref q0, .int v_4902, .long v_4903, .long v_4904, m_41, .ref le, .ref tf, .ref i3, m_45, m_46, m_47, m_48, m_49, m_50, m_51, m_52, m_53, m_54, m_55, m_56, m_57, m_58, m_59])), (w0, .inl (K 0, 5500, .inl (u_4958.2.1 0))), (u0, .inl (K 0, 558, .inl (u_4800.2.1 0)))] H := hP
                                have hD : va_D A [(e0, .inl (K 2, 13, .inr (.inl f_4905))), (q0, .inl (K 2, 400, .inr (.inl f_4906))), (i3, .inl (K 1, 819, .inl f_4907)), (tf, .inl (K 0, 819, .inl f_4908)), (le, .inl (K 0, 273, .inl f_7138)), (m0, .inr (12, [m_0, m_1, m_2, .ref w0, m_4, m_5, .ref u0, m_7, m_8, m_9, m_10, m_11, m_12, m_13, m_14, m_15, m_16, m_17, m_18, m_19, .int 0, m_21, m_22, m_23, m_24, m_25, m_26, m_27, m_28, m_29, m_30, m_31, m_32, m_33, .int v_4901, .ref e0, m_36, .ref q0, .int v_4902, .long v_4903, .long v_4904, m_41, .ref le, .ref tf, .ref i3, m_45, m_46, m_47, m_48, m_49, m_50, m_51, m_52, m_53, m_54, m_55, m_56, m_57, m_58, m_59])), (w0, .inl (K 0, 5500, .inl (u_4958.2.1 0))), (u0, .inl (K 0, 558, .inl (u_4800.2.1 0)))] := hD
                                obtain ⟨x_7139, ex_7139⟩ : ∃ y : Int32, y = v_6963 + Int32.ofInt 1 := ⟨_, rfl⟩
                                replace hE := hE.trans (Lt_in ex_7139)
                                have hx_7139 : x_7139.toInt = (v_6963.toInt + 1) := by rw [ex_7139]; exact i_add rfl (show (Int32.ofInt 1).toInt = 1 from rfl) (by omega)
                                refine lv_iinc (v := x_7139) (lv' := [(5, .int x_7139), (7, .int v_7117), (6, .int v_7118), (4, .int v_5861), (0, .ref m0)]) hx hb dX12_layLeast_157 hl (k := 2) rfl (by rw [ex_7139]) (by decide) rfl (fun ls hl => ?_)
                                refine lv_goto (tgt := 87) hx hb dX12_layLeast_160 (by decide) ?_
                                exact ih_7086 x_7139 f_7138 (by rw [hx_7139]; omega) (show LOK f_4907 f_4908 f_7138 v_5861.toInt (x_7139 : Int32).toInt y.toInt by rw [← hf_7138, i_clamp (x := x_7137) (z := ((21 * v_5861.toInt) + v_6963.toInt)) hx_7137, hx_7139]; exact LOK.put hr0_lp_7085 (by omega) (by omega) hf_4908_0 hmf) (by omega) (hE.trans (by rw [hrec_7085])) _ _ hP hD hS ls (lv_sub hl [0, 3, 4] rfl)
                              · have c_7135i := i_nle (x := 3) (y := v_7117.toInt) rfl rfl c_7135
                                replace hE := hE.trans (if_neg c_7135)
                                refine lv_aload_n hx hb dX12_layLeast_108 rfl (lv_at hl 4 rfl) ?_
                                refine lv_iload hx hb dX12_layLeast_109 (lv_at hl 3 rfl) ?_
                                refine lv_iload hx hb dX12_layLeast_111 (lv_at hl 2 rfl) ?_
                                refine lv_iload hx hb dX12_layLeast_113 (lv_at hl 0 rfl) ?_
                                refine pci (va_runV (As := [.int v_5861, .int v_6963, .int v_7117]) (rest := []) ⟨hx, hb, hml, hown, hts⟩ (v_coalBy l D K m0 v_5861 v_6963 v_7117 m_0 m_1 m_2 (.ref w0) m_4 m_5 (.ref u0) m_7 m_8 m_9 m_10 m_11 m_12 m_13 m_14 m_15 m_16 m_17 m_18 m_19 (.int 0) m_21 m_22 m_23 m_24 m_25 m_26 m_27 m_28 m_29 m_30 m_31 m_32 m_33 (.int v_4901) (.ref e0) m_36 (.ref q0) (.int v_4902) (.long v_4903) (.long v_4904) m_41 le tf i3 m_45 m_46 m_47 m_48 m_49 m_50 m_51 m_52 m_53 m_54 m_55 m_56 m_57 m_58 m_59 f_4907 f_4908 f_6964 H.size (by first | omega | decide) (by first | omega | decide) (by first | omega | decide) hf_4908_0) (cwV 3 hts gX12_layLeast_X12_coalBy rfl rfl rfl (by decide +kernel) ⟨Nat.le_of_ble_eq_true rfl, Nat.le_of_ble_eq_true rfl⟩) (mkV hK hN (hP.sub [5, 2, 3, 4] rfl) (hD.sub [5, 2, 3, 4] (by decide) rfl) (ci := 12) (q0 := 0) rfl rfl) rfl rfl hl.1 rfl (lv_room (Nat.le_of_ble_eq_true rfl)) dX12_layLeast_115 ⟨Nat.le_of_ble_eq_true rfl, Nat.le_of_ble_eq_true rfl⟩) (fun r_7140 hw => ?_)
                                obtain ⟨hw, k_7141⟩ := hw
                                replace hE := hE.trans (Lt_in k_7141)
                                obtain ⟨⟨hcb_r_7140, hcr_r_7140⟩, -⟩ := hw
                                refine lv_istore (lv' := [(8, .int r_7140), (7, .int v_7117), (6, .int v_7118), (5, .int v_6963), (4, .int v_5861), (0, .ref m0)]) hx hb dX12_layLeast_118 hl (by decide) rfl (fun ls hl => ?_)
                                refine lv_iload hx hb dX12_layLeast_120 (lv_at hl 0 rfl) ?_
                                refine lv_iload hx hb dX12_layLeast_122 (lv_at hl 2 rfl) ?_
                                refine lv_icmp_ge (tgt := 132) hx hb dX12_layLeast_124 (by decide) (fun c_7142 => ?_) (fun c_7142 => ?_)
                                · have c_7142i := i_le (x := v_7118.toInt) (y := r_7140.toInt) rfl rfl c_7142
                                  replace hE := hE.trans (if_pos c_7142)
                                  refine lv_iload hx hb dX12_layLeast_132 (lv_at hl 2 rfl) ?_
                                  refine lv_istore (lv' := [(6, .int v_7118), (8, .int r_7140), (7, .int v_7117), (5, .int v_6963), (4, .int v_5861), (0, .ref m0)]) hx hb dX12_layLeast_134 hl (by decide) rfl (fun ls hl => ?_)
                                  obtain ⟨x_7143, ex_7143⟩ : ∃ y : Int32, y = v_7117 + Int32.ofInt 1 := ⟨_, rfl⟩
                                  replace hE := hE.trans (Lt_in ex_7143)
                                  have hx_7143 : x_7143.toInt = (v_7117.toInt + 1) := by rw [ex_7143]; exact i_add rfl (show (Int32.ofInt 1).toInt = 1 from rfl) (by omega)
                                  refine lv_iinc (v := x_7143) (lv' := [(7, .int x_7143), (6, .int v_7118), (8, .int r_7140), (5, .int v_6963), (4, .int v_5861), (0, .ref m0)]) hx hb dX12_layLeast_136 hl (k := 2) rfl (by rw [ex_7143]) (by decide) rfl (fun ls hl => ?_)
                                  refine lv_goto (tgt := 102) hx hb dX12_layLeast_139 (by decide) ?_
                                  exact ih_7134 x_7143 v_7118 (by rw [hx_7143]; omega) (by omega) (show Mn f_4907 f_4908 f_6964 v_5861.toInt v_6963.toInt (x_7143 : Int32).toInt (v_7118 : Int32).toInt by rw [hx_7143]; exact Mn.ge hr0_lp_7133 hcb_r_7140 (by omega)) (by omega) (hE.trans (by rw [hrec_7133])) _ _ hP hD hS ls (lv_sub hl [0, 1, 3, 4, 5] rfl)
                                · have c_7142i := i_nle (x := v_7118.toInt) (y := r_7140.toInt) rfl rfl c_7142
                                  replace hE := hE.trans (if_neg c_7142)
                                  refine lv_iload hx hb dX12_layLeast_127 (lv_at hl 0 rfl) ?_
                                  refine lv_goto (tgt := 134) hx hb dX12_layLeast_129 (by decide) ?_
                                  refine lv_istore (lv' := [(6, .int r_7140), (8, .int r_7140), (7, .int v_7117), (5, .int v_6963), (4, .int v_5861), (0, .ref m0)]) hx hb dX12_layLeast_134 hl (by decide) rfl (fun ls hl => ?_)
                                  obtain ⟨x_7144, ex_7144⟩ : ∃ y : Int32, y = v_7117 + Int32.ofInt 1 := ⟨_, rfl⟩
                                  replace hE := hE.trans (Lt_in ex_7144)
                                  have hx_7144 : x_7144.toInt = (v_7117.toInt + 1) := by rw [ex_7144]; exact i_add rfl (show (Int32.ofInt 1).toInt = 1 from rfl) (by omega)
                                  refine lv_iinc (v := x_7144) (lv' := [(7, .int x_7144), (6, .int r_7140), (8, .int r_7140), (5, .int v_6963), (4, .int v_5861), (0, .ref m0)]) hx hb dX12_layLeast_136 hl (k := 2) rfl (by rw [ex_7144]) (by decide) rfl (fun ls hl => ?_)
                                  refine lv_goto (tgt := 102) hx hb dX12_layLeast_139 (by decide) ?_
                                  exact ih_7134 x_7144 r_7140 (by rw [hx_7144]; omega) (by omega) (show Mn f_4907 f_4908 f_6964 v_5861.toInt v_6963.toInt (x_7144 : Int32).toInt (r_7140 : Int32).toInt by rw [hx_7144]; exact Mn.lt hr0_lp_7133 (by omega) hcb_r_7140 (by omega)) (by omega) (hE.trans (by rw [hrec_7133])) _ _ hP hD hS ls (lv_sub hl [0, 1, 3, 4, 5] rfl)
                          have hz_7145 : (0 : Int32).toInt = 0 := rfl
                          have hz_7146 : (100000000 : Int32).toInt = 100000000 := rfl
                          exact lp_7133 ((4 - (0 : Int32).toInt : Int).toNat + 1) 0 100000000 (by decide) (by decide) (show Mn f_4907 f_4908 f_6964 v_5861.toInt v_6963.toInt (0 : Int32).toInt (100000000 : Int32).toInt by exact Mn.base) (Nat.lt_succ_self _) hE _ _ hP hD hS ls (lv_sub hl [0, 1, 2, 3, 4] rfl)
                    have hz_7147 : (0 : Int32).toInt = 0 := rfl
                    exact lp_7085 ((22 - (0 : Int32).toInt : Int).toNat + 1) 0 f_5862 (by decide) (show LOK f_4907 f_4908 f_5862 v_5861.toInt (0 : Int32).toInt y.toInt by exact hr0_lp_6719) (Nat.lt_succ_self _) hE _ _ hP hD hS ls (lv_sub hl [0, 1, 2] rfl)
              exact lp_6719 (((x_5004 : Int32).toInt - (-2) : Int).toNat + 1) x_5004 f_4988 (by rw [hx_5004]; omega) (show LOK f_4907 f_4908 f_4988 (x_5004 : Int32).toInt 0 y.toInt by exact LOK.base (by omega)) (Nat.lt_succ_self _) hE _ _ hP hD hS ls (lv_sub hl [0, 1] rfl)
            · have c_5003i := i_nlt (x := 20) (y := v_4987.toInt) rfl rfl c_5003
              replace hE := hE.trans (if_neg c_5003)
              refine lv_aload_n hx hb dX12_layLeast_55 rfl (lv_at hl 1 rfl) ?_
              refine va_get (ci := 12) (v := .ref le) (C := RX12) (T := TX12) (N := 60) hx hb hts hw12 hown hK hP 5 rfl rfl 42 (by decide) (hts (.fieldLink RX12 111 "SmokeTuneModel" "least" "[I") (List.mem_cons_of_mem _ (List.mem_append_left _ (List.mem_append_left _ (List.mem_of_getElem? (i := 0) rfl))))) (fun _ h9 => h9) rfl dX12_layLeast_56 ?_
              refine lv_bipush (v := 21) hx hb dX12_layLeast_59 (by decide) ?_
              refine lv_iload_n hx hb dX12_layLeast_61 rfl (lv_at hl 2 rfl) ?_
              refine lv_imul hx hb dX12_layLeast_62 ?_
              refine lv_topi (fun x_7148 ex_7148 => ?_)
              replace hE := hE.trans (Lt_in ex_7148)
              have hx_7148 : x_7148.toInt = (21 * y.toInt) := by rw [ex_7148]; exact i_mul (show (21 : Int32).toInt = 21 from rfl) rfl (by omega)
              refine lv_iload hx hb dX12_layLeast_63 (lv_at hl 0 rfl) ?_
              refine lv_iadd hx hb dX12_layLeast_65 ?_
              refine lv_topi (fun x_7149 ex_7149 => ?_)
              replace hE := hE.trans (Lt_in ex_7149)
              have hx_7149 : x_7149.toInt = ((21 * y.toInt) + v_4987.toInt) := by rw [ex_7149]; exact i_add hx_7148 rfl (by omega)
              refine lv_iconst (v := 0) hx hb dX12_layLeast_66 (by decide) ?_
              refine va_iast hx hb hK hP hD hS 4 0 rfl rfl (i_in hx_7149 (by omega)) dX12_layLeast_67 (fun H locs hP hD hS => ?_)
              generalize hf_7150 : (upd f_4988 (x_7149 : Int32).toNatClampNeg 0) = f_7150 at hP hD
              replace hE := hE.trans (Lt_in hf_7150.symm)
              have hP : va_P D vwCl [(e0, .inl (K 2, 13, .inr (.inl f_4905))), (q0, .inl (K 2, 400, .inr (.inl f_4906))), (i3, .inl (K 1, 819, .inl f_4907)), (tf, .inl (K 0, 819, .inl f_4908)), (le, .inl (K 0, 273, .inl f_7150)), (m0, .inr (12, [m_0, m_1, m_2, .ref w0, m_4, m_5, .ref u0, m_7, m_8, m_9, m_10, m_11, m_12, m_13, m_14, m_15, m_16, m_17, m_18, m_19, .int 0, m_21, m_22, m_23, m_24, m_25, m_26, m_27, m_28, m_29, m_30, m_31, m_32, m_33, .int v_4901, .ref e0, m_36, .ref q0, .int v_4902, .long v_4903, .long v_4904, m_41, .ref le, .ref tf, .ref i3, m_45, m_46, m_47, m_48, m_49, m_50, m_51, m_52, m_53, m_54, m_55, m_56, m_57, m_58, m_59])), (w0, .inl (K 0, 5500, .inl (u_4958.2.1 0))), (u0, .inl (K 0, 558, .inl (u_4800.2.1 0)))] H := hP
              have hD : va_D A [(e0, .inl (K 2, 13, .inr (.inl f_4905))), (q0, .inl (K 2, 400, .inr (.inl f_4906))), (i3, .inl (K 1, 819, .inl f_4907)), (tf, .inl (K 0, 819, .inl f_4908)), (le, .inl (K 0, 273, .inl f_7150)), (m0, .inr (12, [m_0, m_1, m_2, .ref w0, m_4, m_5, .ref u0, m_7, m_8, m_9, m_10, m_11, m_12, m_13, m_14, m_15, m_16, m_17, m_18, m_19, .int 0, m_21, m_22, m_23, m_24, m_25, m_26, m_27, m_28, m_29, m_30, m_31, m_32, m_33, .int v_4901, .ref e0, m_36, .ref q0, .int v_4902, .long v_4903, .long v_4904, m_41, .ref le, .ref tf, .ref i3, m_45, m_46, m_47, m_48, m_49, m_50, m_51, m_52, m_53, m_54, m_55, m_56, m_57, m_58, m_59])), (w0, .inl (K 0, 5500, .inl (u_4958.2.1 0))), (u0, .inl (K 0, 558, .inl (u_4800.2.1 0)))] := hD
              obtain ⟨x_7151, ex_7151⟩ : ∃ y : Int32, y = v_4987 + Int32.ofInt 1 := ⟨_, rfl⟩
              replace hE := hE.trans (Lt_in ex_7151)
              have hx_7151 : x_7151.toInt = (v_4987.toInt + 1) := by rw [ex_7151]; exact i_add rfl (show (Int32.ofInt 1).toInt = 1 from rfl) (by omega)
              refine lv_iinc (v := x_7151) (lv' := [(4, .int x_7151), (0, .ref m0), (2, .int y)]) hx hb dX12_layLeast_68 hl (k := 0) rfl (by rw [ex_7151]) (by decide) rfl (fun ls hl => ?_)
              refine lv_goto (tgt := 48) hx hb dX12_layLeast_71 (by decide) ?_
              exact ih_5002 x_7151 f_7150 (by rw [hx_7151]; omega) (by omega) (hE.trans (by rw [hrec_5001])) _ _ hP hD hS ls (lv_sub hl [0, 1, 2] rfl)
        exact lp_5001 ((22 - (0 : Int32).toInt : Int).toNat + 1) 0 fl (by decide) (Nat.lt_succ_self _) hE _ _ hP hD hS ls (lv_sub hl [0, 1, 3] rfl)
      · have c_4956i := i_nle (x := y.toInt) (y := v_4900.toInt) rfl rfl c_4956
        replace hE := hE.trans (if_neg c_4956)
        refine lv_aload_n hx hb dX12_layLeast_15 rfl (lv_at hl 1 rfl) ?_
        refine lv_iload_n hx hb dX12_layLeast_16 rfl (lv_at hl 2 rfl) ?_
        refine lv_iload hx hb dX12_layLeast_17 (lv_at hl 0 rfl) ?_
        refine lv_iload_n hx hb dX12_layLeast_19 rfl (lv_at hl 4 rfl) ?_
        refine lv_iload hx hb dX12_layLeast_20 (lv_at hl 0 rfl) ?_
        refine pci (va_runS (As := [.int z, .int v_4900]) (rest := [.int v_4900, .int x, .ref m0]) ⟨hx, hb, hml, hown, hts⟩ (v_is l D K z v_4900 H.size) (va_cwS 2 hts gX12_layLeast_X12_is rfl rfl rfl (by decide +kernel) ⟨Nat.le_of_ble_eq_true rfl, Nat.le_of_ble_eq_true rfl⟩) (mkS hK hN (va_P.nil) (va_D.nil (A := fun _ => True))) rfl rfl hl.1 rfl (lv_room (Nat.le_of_ble_eq_true rfl)) dX12_layLeast_22 ⟨Nat.le_of_ble_eq_true rfl, Nat.le_of_ble_eq_true rfl⟩) (fun r_7152 hw => ?_)
        obtain ⟨h_7154, k_7153, -⟩ := hw
        replace hE := hE.trans (Lt_in k_7153)
        refine kcv (S := Su) (wr := [(le, .inl (K 0, 273, .inl fl)), (u0, .inl (K 0, 558, .inl (u_4800.2.1 0)))]) (va_runV (As := [.int x, .int v_4900, .int r_7152]) (rest := []) ⟨hx, hb, hml, hown, hts⟩ (v_layHour l D K m0 x v_4900 r_7152 m_0 m_1 m_2 w0 m_4 m_5 (.ref u0) m_7 m_8 m_9 m_10 m_11 m_12 m_13 m_14 m_15 m_16 m_17 m_18 m_19 m_21 m_22 m_23 m_24 m_25 m_26 m_27 m_28 m_29 m_30 m_31 m_32 m_33 v_4901 e0 m_36 q0 v_4902 v_4903 v_4904 m_41 (.ref le) tf i3 m_45 m_46 m_47 m_48 m_49 m_50 m_51 m_52 m_53 m_54 m_55 m_56 m_57 m_58 m_59 f_4909 gr f_4905 f_4906 f_4907 f_4908 H.size (by first | omega | decide) (by first | omega | decide) (by first | omega | decide) (by first | omega | decide) hf_4909_0 hf_4909_1 hf_4908_0) (cwV 3 hts gX12_layLeast_X12_layHour rfl rfl rfl (by decide +kernel) ⟨Nat.le_of_ble_eq_true rfl, Nat.le_of_ble_eq_true rfl⟩) (mkV hK hN (hP.sub [5, 6, 0, 1, 2, 3] rfl) (hD.sub [5, 6, 0, 1, 2, 3] (by decide) rfl) (ci := 12) (q0 := 0) rfl rfl) rfl rfl hl.1 rfl (lv_room (Nat.le_of_ble_eq_true rfl)) dX12_layLeast_25 ⟨Nat.le_of_ble_eq_true rfl, Nat.le_of_ble_eq_true rfl⟩) hP hD hS hA [5, 6, 0, 1, 2, 3] [4, 7] rfl rfl (by decide) (by decide) (fun u_7156 H locs hw hP hD hS => ?_)
        have hP : va_P D vwCl [(le, .inl (K 0, 273, .inl fl)), (u0, .inl (K 0, 558, .inl (u_4800.2.1 0))), (m0, .inr (12, [m_0, m_1, m_2, .ref w0, m_4, m_5, .ref u0, m_7, m_8, m_9, m_10, m_11, m_12, m_13, m_14, m_15, m_16, m_17, m_18, m_19, .int 0, m_21, m_22, m_23, m_24, m_25, m_26, m_27, m_28, m_29, m_30, m_31, m_32, m_33, .int (u_7156.2.2.2.1 0), .ref e0, m_36, .ref q0, .int (u_7156.2.2.2.1 1), .long (u_7156.2.2.2.2.1 0), .long (u_7156.2.2.2.2.1 1), m_41, .ref le, .ref tf, .ref i3, m_45, m_46, m_47, m_48, m_49, m_50, m_51, m_52, m_53, m_54, m_55, m_56, m_57, m_58, m_59])), (w0, .inl (K 0, 5500, .inl (u_7156.2.1 0))), (e0, .inl (K 2, 13, .inr (.inl (u_7156.2.2.1 0)))), (q0, .inl (K 2, 400, .inr (.inl (u_7156.2.2.1 1)))), (i3, .inl (K 1, 819, .inl (u_7156.2.1 1))), (tf, .inl (K 0, 819, .inl (u_7156.2.1 2)))] H := hP
        have hD : va_D A [(le, .inl (K 0, 273, .inl fl)), (u0, .inl (K 0, 558, .inl (u_4800.2.1 0))), (m0, .inr (12, [m_0, m_1, m_2, .ref w0, m_4, m_5, .ref u0, m_7, m_8, m_9, m_10, m_11, m_12, m_13, m_14, m_15, m_16, m_17, m_18, m_19, .int 0, m_21, m_22, m_23, m_24, m_25, m_26, m_27, m_28, m_29, m_30, m_31, m_32, m_33, .int (u_7156.2.2.2.1 0), .ref e0, m_36, .ref q0, .int (u_7156.2.2.2.1 1), .long (u_7156.2.2.2.2.1 0), .long (u_7156.2.2.2.2.1 1), m_41, .ref le, .ref tf, .ref i3, m_45, m_46, m_47, m_48, m_49, m_50, m_51, m_52, m_53, m_54, m_55, m_56, m_57, m_58, m_59])), (w0, .inl (K 0, 5500, .inl (u_7156.2.1 0))), (e0, .inl (K 2, 13, .inr (.inl (u_7156.2.2.1 0)))), (q0, .inl (K 2, 400, .inr (.inl (u_7156.2.2.1 1)))), (i3, .inl (K 1, 819, .inl (u_7156.2.1 1))), (tf, .inl (K 0, 819, .inl (u_7156.2.1 2)))] := hD
        obtain ⟨k_7157, k_7158, k_7159, k_7160, k_7161, -⟩ := hw
        replace hE := (((((((hE.trans (Lt2_in k_7161)).trans (Lt2_in rfl)).trans (Lt2_in rfl)).trans (Lt2_in rfl)).trans (Lt2_in rfl)).trans (Lt2_in rfl)).trans (Lt2_in rfl)).trans (Lt2_in rfl)
        refine lv_aload_n hx hb dX12_layLeast_28 rfl (lv_at hl 1 rfl) ?_
        refine lv_iconst (v := 1) hx hb dX12_layLeast_29 (by decide) ?_
        refine kcv (S := Su) (wr := [(le, .inl (K 0, 273, .inl fl)), (u0, .inl (K 0, 558, .inl (u_4800.2.1 0))), (e0, .inl (K 2, 13, .inr (.inl (u_7156.2.2.1 0)))), (q0, .inl (K 2, 400, .inr (.inl (u_7156.2.2.1 1)))), (i3, .inl (K 1, 819, .inl (u_7156.2.1 1))), (tf, .inl (K 0, 819, .inl (u_7156.2.1 2)))]) (va_runV (As := [.int 1]) (rest := []) ⟨hx, hb, hml, hown, hts⟩ (v_goOnBy l D K m0 1 m_0 m_1 m_2 w0 m_4 m_5 (.ref u0) m_7 m_8 m_9 m_10 m_11 m_12 m_13 m_14 m_15 m_16 m_17 m_18 m_19 (.int 0) m_21 m_22 m_23 m_24 m_25 m_26 m_27 m_28 m_29 m_30 m_31 m_32 m_33 (.int (u_7156.2.2.2.1 0)) (.ref e0) m_36 (.ref q0) (.int (u_7156.2.2.2.1 1)) (.long (u_7156.2.2.2.2.1 0)) (.long (u_7156.2.2.2.2.1 1)) m_41 (.ref le) (.ref tf) (.ref i3) m_45 m_46 m_47 m_48 m_49 m_50 m_51 m_52 m_53 m_54 m_55 m_56 m_57 m_58 m_59 (u_7156.2.1 0) gr H.size (by first | omega | decide) k_7158 k_7159) (cwV 1 hts gX12_layLeast_X12_goOnBy rfl rfl rfl (by decide +kernel) ⟨Nat.le_of_ble_eq_true rfl, Nat.le_of_ble_eq_true rfl⟩) (mkV hK hN (hP.sub [2, 3] rfl) (hD.sub [2, 3] (by decide) rfl) (ci := 12) (q0 := 0) rfl rfl) rfl rfl hl.1 rfl (lv_room (Nat.le_of_ble_eq_true rfl)) dX12_layLeast_30 ⟨Nat.le_of_ble_eq_true rfl, Nat.le_of_ble_eq_true rfl⟩) hP hD hS hA [2, 3] [0, 1, 4, 5, 6, 7] rfl rfl (by decide) (by decide) (fun u_7163 H locs hw hP hD hS => ?_)
        have hP : va_P D vwCl [(le, .inl (K 0, 273, .inl fl)), (u0, .inl (K 0, 558, .inl (u_4800.2.1 0))), (e0, .inl (K 2, 13, .inr (.inl (u_7156.2.2.1 0)))), (q0, .inl (K 2, 400, .inr (.inl (u_7156.2.2.1 1)))), (i3, .inl (K 1, 819, .inl (u_7156.2.1 1))), (tf, .inl (K 0, 819, .inl (u_7156.2.1 2))), (m0, .inr (12, [m_0, m_1, m_2, .ref w0, m_4, m_5, .ref u0, m_7, m_8, m_9, m_10, m_11, m_12, m_13, m_14, m_15, m_16, m_17, m_18, m_19, .int 0, m_21, m_22, m_23, m_24, m_25, m_26, m_27, m_28, m_29, m_30, m_31, m_32, m_33, .int (u_7156.2.2.2.1 0), .ref e0, m_36, .ref q0, .int (u_7156.2.2.2.1 1), .long (u_7156.2.2.2.2.1 0), .long (u_7156.2.2.2.2.1 1), m_41, .ref le, .ref tf, .ref i3, m_45, m_46, m_47, m_48, m_49, m_50, m_51, m_52, m_53, m_54, m_55, m_56, m_57, m_58, m_59])), (w0, .inl (K 0, 5500, .inl (u_7163.2.1 0)))] H := hP
        have hD : va_D A [(le, .inl (K 0, 273, .inl fl)), (u0, .inl (K 0, 558, .inl (u_4800.2.1 0))), (e0, .inl (K 2, 13, .inr (.inl (u_7156.2.2.1 0)))), (q0, .inl (K 2, 400, .inr (.inl (u_7156.2.2.1 1)))), (i3, .inl (K 1, 819, .inl (u_7156.2.1 1))), (tf, .inl (K 0, 819, .inl (u_7156.2.1 2))), (m0, .inr (12, [m_0, m_1, m_2, .ref w0, m_4, m_5, .ref u0, m_7, m_8, m_9, m_10, m_11, m_12, m_13, m_14, m_15, m_16, m_17, m_18, m_19, .int 0, m_21, m_22, m_23, m_24, m_25, m_26, m_27, m_28, m_29, m_30, m_31, m_32, m_33, .int (u_7156.2.2.2.1 0), .ref e0, m_36, .ref q0, .int (u_7156.2.2.2.1 1), .long (u_7156.2.2.2.2.1 0), .long (u_7156.2.2.2.2.1 1), m_41, .ref le, .ref tf, .ref i3, m_45, m_46, m_47, m_48, m_49, m_50, m_51, m_52, m_53, m_54, m_55, m_56, m_57, m_58, m_59])), (w0, .inl (K 0, 5500, .inl (u_7163.2.1 0)))] := hD
        obtain ⟨k_7164, k_7165, k_7166, -⟩ := hw
        replace hE := hE.trans (Lt_in k_7166)
        obtain ⟨x_7167, ex_7167⟩ : ∃ y : Int32, y = v_4900 + Int32.ofInt 1 := ⟨_, rfl⟩
        replace hE := hE.trans (Lt_in ex_7167)
        have hx_7167 : x_7167.toInt = (v_4900.toInt + 1) := by rw [ex_7167]; exact i_add rfl (show (Int32.ofInt 1).toInt = 1 from rfl) (by omega)
        refine lv_iinc (v := x_7167) (lv' := [(4, .int x_7167), (0, .ref m0), (1, .int x), (2, .int y), (3, .int z)]) hx hb dX12_layLeast_33 hl (k := 0) rfl (by rw [ex_7167]) (by decide) rfl (fun ls hl => ?_)
        refine lv_goto (tgt := 9) hx hb dX12_layLeast_36 (by decide) ?_
        exact ih_4955 x_7167 (u_7156.2.2.2.1 0) (u_7156.2.2.2.1 1) (u_7156.2.2.2.2.1 0) (u_7156.2.2.2.2.1 1) (u_7156.2.2.1 0) (u_7156.2.2.1 1) (u_7156.2.1 1) (u_7156.2.1 2) (u_7163.2.1 0) (by rw [hx_7167]; omega) (by omega) k_7160 k_7164 k_7165 (by omega) (hE.trans (by rw [hrec_4954])) _ _ (hP.sub [2, 3, 4, 5, 0, 6, 7, 1] rfl) (hD.sub [2, 3, 4, 5, 0, 6, 7, 1] (by decide) rfl) hS ls (lv_sub hl [0, 1, 2, 3, 4] rfl)
  exact lp_4954 ((13 - (0 : Int32).toInt : Int).toNat + 1) 0 lw bro val sm fe frs fi ft fw (by decide) (by omega) zft zfw zgr (Nat.lt_succ_self _) hE _ _ hP hD hS ls (lv_sub hl [0, 1, 2, 3, 4] rfl)
set_option maxRecDepth 100000 in
noncomputable def E_v_least_j55 (lw : Int32) (bro : Int32) (val : Int64) (sm : Int64) (fw : Nat → Int32) (fe : Nat → Int64) (frs : Nat → Int64) (fu : Nat → Int32) (fi : Nat → Int32) (ft : Nat → Int32) (fl : Nat → Int32) : Int32 × Int32 × Int32 × Int64 × Int64 × (Nat → Int32) × (Nat → Int64) × (Nat → Int64) × (Nat → Int32) × (Nat → Int32) × (Nat → Int32) × (Nat → Int32) :=
  (((-1), lw, bro, val, sm, fw, fe, frs, fu, fi, ft, fl) : Int32 × Int32 × Int32 × Int64 × Int64 × (Nat → Int32) × (Nat → Int64) × (Nat → Int64) × (Nat → Int32) × (Nat → Int32) × (Nat → Int32) × (Nat → Int32))
set_option maxRecDepth 100000 in
noncomputable def E_v_least_j94 (u_3810_2_2_2_1_0 : Int32) (u_3810_2_2_2_1_1 : Int32) (u_3810_2_2_2_2_1_0 : Int64) (u_3810_2_2_2_2_1_1 : Int64) (u_3810_2_1_0 : Nat → Int32) (u_3810_2_2_1_0 : Nat → Int64) (u_3810_2_2_1_1 : Nat → Int64) (u_3810_2_1_1 : Nat → Int32) (u_3810_2_1_2 : Nat → Int32) (u_3810_2_1_3 : Nat → Int32) (u_3810_2_1_4 : Nat → Int32) (x_3819 : Int32) : Int32 × Int32 × Int32 × Int64 × Int64 × (Nat → Int32) × (Nat → Int64) × (Nat → Int64) × (Nat → Int32) × (Nat → Int32) × (Nat → Int32) × (Nat → Int32) :=
  Lt (u_3810_2_1_4 (x_3819 : Int32).toNatClampNeg : Int32) (fun x_4170 => if x_4170 = 100000000 then ((((-1), u_3810_2_2_2_1_0, u_3810_2_2_2_1_1, u_3810_2_2_2_2_1_0, u_3810_2_2_2_2_1_1, u_3810_2_1_0, u_3810_2_2_1_0, u_3810_2_2_1_1, u_3810_2_1_1, u_3810_2_1_2, u_3810_2_1_3, u_3810_2_1_4) : Int32 × Int32 × Int32 × Int64 × Int64 × (Nat → Int32) × (Nat → Int64) × (Nat → Int64) × (Nat → Int32) × (Nat → Int32) × (Nat → Int32) × (Nat → Int32))) else (Lt (u_3810_2_1_4 (x_3819 : Int32).toNatClampNeg : Int32) (fun x_4172 => ((x_4172, u_3810_2_2_2_1_0, u_3810_2_2_2_1_1, u_3810_2_2_2_2_1_0, u_3810_2_2_2_2_1_1, u_3810_2_1_0, u_3810_2_2_1_0, u_3810_2_2_1_1, u_3810_2_1_1, u_3810_2_1_2, u_3810_2_1_3, u_3810_2_1_4) : Int32 × Int32 × Int32 × Int64 × Int64 × (Nat → Int32) × (Nat → Int64) × (Nat → Int64) × (Nat → Int32) × (Nat → Int32) × (Nat → Int32) × (Nat → Int32)))))
set_option maxRecDepth 100000 in
noncomputable def E_v_least_l135 (u_3810_2_1_2 : Nat → Int32) (u_3810_2_1_3 : Nat → Int32) (u_3810_2_1_4 : Nat → Int32) (v_4345 : Int32) (v_4347 : Int32) (rec_4461 : Int32 → Int32 → Int32 → (Int32 × Int32 × Int32 × Int64 × Int64 × (Nat → Int32) × (Nat → Int64) × (Nat → Int64) × (Nat → Int32) × (Nat → Int32) × (Nat → Int32) × (Nat → Int32))) (rec_4502 : Int32 → (Int32 × Int32 × Int32 × Int64 × Int64 × (Nat → Int32) × (Nat → Int64) × (Nat → Int64) × (Nat → Int32) × (Nat → Int32) × (Nat → Int32) × (Nat → Int32))) (v_4486 : Int32) : Int32 × Int32 × Int32 × Int64 × Int64 × (Nat → Int32) × (Nat → Int64) × (Nat → Int64) × (Nat → Int32) × (Nat → Int32) × (Nat → Int32) × (Nat → Int32) :=
  Lt (E_v_coalBy v_4345 v_4347 v_4486 u_3810_2_1_2 u_3810_2_1_3 u_3810_2_1_4) (fun r_4504 => Lt (21 * v_4345 : Int32) (fun x_4506 => Lt (x_4506 + v_4347 : Int32) (fun x_4507 => Lt (u_3810_2_1_4 (x_4507 : Int32).toNatClampNeg : Int32) (fun x_4508 => if r_4504 = x_4508 then (Lt (63 * v_4345 : Int32) (fun x_4510 => Lt (3 * v_4347 : Int32) (fun x_4511 => Lt (x_4510 + x_4511 : Int32) (fun x_4512 => Lt (x_4512 + v_4486 : Int32) (fun x_4513 => Lt (u_3810_2_1_3 (x_4513 : Int32).toNatClampNeg : Int32) (fun x_4514 => Lt (v_4345 + Int32.ofInt 1 : Int32) (fun x_4515 => rec_4461 x_4515 v_4486 x_4514))))))) else (Lt (v_4486 + Int32.ofInt 1 : Int32) (fun x_4516 => rec_4502 x_4516))))))
set_option maxRecDepth 100000 in
noncomputable def E_v_least_l125 (w : Int32) (u_3810_2_2_2_1_0 : Int32) (u_3810_2_2_2_1_1 : Int32) (u_3810_2_2_2_2_1_0 : Int64) (u_3810_2_2_2_2_1_1 : Int64) (u_3810_2_1_0 : Nat → Int32) (u_3810_2_2_1_0 : Nat → Int64) (u_3810_2_2_1_1 : Nat → Int64) (u_3810_2_1_1 : Nat → Int32) (u_3810_2_1_2 : Nat → Int32) (u_3810_2_1_3 : Nat → Int32) (u_3810_2_1_4 : Nat → Int32) (rec_4461 : Int32 → Int32 → Int32 → (Int32 × Int32 × Int32 × Int64 × Int64 × (Nat → Int32) × (Nat → Int64) × (Nat → Int64) × (Nat → Int32) × (Nat → Int32) × (Nat → Int32) × (Nat → Int32))) (v_4345 : Int32) (v_4346 : Int32) (v_4347 : Int32) : Int32 × Int32 × Int32 × Int64 × Int64 × (Nat → Int32) × (Nat → Int64) × (Nat → Int64) × (Nat → Int32) × (Nat → Int32) × (Nat → Int32) × (Nat → Int32) :=
  if w < v_4345 then (((v_4346, u_3810_2_2_2_1_0, u_3810_2_2_2_1_1, u_3810_2_2_2_2_1_0, u_3810_2_2_2_2_1_1, u_3810_2_1_0, u_3810_2_2_1_0, u_3810_2_2_1_1, u_3810_2_1_1, u_3810_2_1_2, u_3810_2_1_3, u_3810_2_1_4) : Int32 × Int32 × Int32 × Int64 × Int64 × (Nat → Int32) × (Nat → Int64) × (Nat → Int64) × (Nat → Int32) × (Nat → Int32) × (Nat → Int32) × (Nat → Int32))) else (Lp (α := Int32 → (Int32 × Int32 × Int32 × Int64 × Int64 × (Nat → Int32) × (Nat → Int64) × (Nat → Int64) × (Nat → Int32) × (Nat → Int32) × (Nat → Int32) × (Nat → Int32))) (E_v_least_l135 u_3810_2_1_2 u_3810_2_1_3 u_3810_2_1_4 v_4345 v_4347 rec_4461) (fun _ => ((0, 0, 0, 0, 0, fun _ => 0, fun _ => 0, fun _ => 0, fun _ => 0, fun _ => 0, fun _ => 0, fun _ => 0) : Int32 × Int32 × Int32 × Int64 × Int64 × (Nat → Int32) × (Nat → Int64) × (Nat → Int64) × (Nat → Int32) × (Nat → Int32) × (Nat → Int32) × (Nat → Int32))) ((3 - (0 : Int32).toInt : Int).toNat + 1) 0)
set_option maxRecDepth 100000 in
noncomputable def E_v_least (x : Int32) (y : Int32) (z : Int32) (w : Int32) (thr : Int32) (lw : Int32) (bro : Int32) (val : Int64) (sm : Int64) (fw : Nat → Int32) (fe : Nat → Int64) (frs : Nat → Int64) (fu : Nat → Int32) (fi : Nat → Int32) (ft : Nat → Int32) (fl : Nat → Int32) : Int32 × Int32 × Int32 × Int64 × Int64 × (Nat → Int32) × (Nat → Int64) × (Nat → Int64) × (Nat → Int32) × (Nat → Int32) × (Nat → Int32) × (Nat → Int32) :=
  Lt (E_v_isHouse x fw) (fun r_3779 => if r_3779 = 1 then (Lt ((y : Int32).toInt64 : Int64) (fun x_3784 => Lt (E_v_in x_3784 1 12) (fun r_3785 => if r_3785 = 1 then (Lt ((z : Int32).toInt64 : Int64) (fun x_3791 => Lt (1 <<< ((y : Int32).toInt64 &&& 63) : Int64) (fun x_3792 => Lt (x_3792 - 1 : Int64) (fun x_3793 => Lt (E_v_in x_3791 0 x_3793) (fun r_3794 => if r_3794 = 1 then (Lt ((w : Int32).toInt64 : Int64) (fun x_3800 => Lt ((y : Int32).toInt64 : Int64) (fun x_3801 => Lt (x_3801 - 1 : Int64) (fun x_3802 => Lt (E_v_in x_3800 (-1) x_3802) (fun r_3803 => if r_3803 = 1 then (Lt2 (E_v_layLeast x y z lw bro val sm fw fe frs fu fi ft fl) (fun u_3810_2_2_2_1_0 q0_u_3810_2_2_2_1_0 => Lt2 q0_u_3810_2_2_2_1_0 (fun u_3810_2_2_2_1_1 q1_u_3810_2_2_2_1_1 => Lt2 q1_u_3810_2_2_2_1_1 (fun u_3810_2_2_2_2_1_0 q2_u_3810_2_2_2_2_1_0 => Lt2 q2_u_3810_2_2_2_2_1_0 (fun u_3810_2_2_2_2_1_1 q3_u_3810_2_2_2_2_1_1 => Lt2 q3_u_3810_2_2_2_2_1_1 (fun u_3810_2_1_0 q4_u_3810_2_1_0 => Lt2 q4_u_3810_2_1_0 (fun u_3810_2_2_1_0 q5_u_3810_2_2_1_0 => Lt2 q5_u_3810_2_2_1_0 (fun u_3810_2_2_1_1 q6_u_3810_2_2_1_1 => Lt2 q6_u_3810_2_2_1_1 (fun u_3810_2_1_1 q7_u_3810_2_1_1 => Lt2 q7_u_3810_2_1_1 (fun u_3810_2_1_2 q8_u_3810_2_1_2 => Lt2 q8_u_3810_2_1_2 (fun u_3810_2_1_3 u_3810_2_1_4 => Lt (11 + x : Int32) (fun x_3818 => Lt (u_3810_2_1_0 (x_3818 : Int32).toNatClampNeg : Int32) (fun x_3819 => Lt (u_3810_2_1_4 (x_3819 : Int32).toNatClampNeg : Int32) (fun x_3820 => if x_3820 = 100000000 then (E_v_least_j94 u_3810_2_2_2_1_0 u_3810_2_2_2_1_1 u_3810_2_2_2_2_1_0 u_3810_2_2_2_2_1_1 u_3810_2_1_0 u_3810_2_2_1_0 u_3810_2_2_1_1 u_3810_2_1_1 u_3810_2_1_2 u_3810_2_1_3 u_3810_2_1_4 x_3819) else (if w = (-1) then (E_v_least_j94 u_3810_2_2_2_1_0 u_3810_2_2_2_1_1 u_3810_2_2_2_2_1_0 u_3810_2_2_2_2_1_1 u_3810_2_1_0 u_3810_2_2_1_0 u_3810_2_2_1_1 u_3810_2_1_1 u_3810_2_1_2 u_3810_2_1_3 u_3810_2_1_4 x_3819) else (Lp (α := Int32 → Int32 → Int32 → (Int32 × Int32 × Int32 × Int64 × Int64 × (Nat → Int32) × (Nat → Int64) × (Nat → Int64) × (Nat → Int32) × (Nat → Int32) × (Nat → Int32) × (Nat → Int32))) (E_v_least_l125 w u_3810_2_2_2_1_0 u_3810_2_2_2_1_1 u_3810_2_2_2_2_1_0 u_3810_2_2_2_2_1_1 u_3810_2_1_0 u_3810_2_2_1_0 u_3810_2_2_1_1 u_3810_2_1_1 u_3810_2_1_2 u_3810_2_1_3 u_3810_2_1_4) (fun _ _ _ => ((0, 0, 0, 0, 0, fun _ => 0, fun _ => 0, fun _ => 0, fun _ => 0, fun _ => 0, fun _ => 0, fun _ => 0) : Int32 × Int32 × Int32 × Int64 × Int64 × (Nat → Int32) × (Nat → Int64) × (Nat → Int64) × (Nat → Int32) × (Nat → Int32) × (Nat → Int32) × (Nat → Int32))) ((13 - (0 : Int32).toInt : Int).toNat + 1) 0 0 x_3819)))))))))))))))) else (E_v_least_j55 lw bro val sm fw fe frs fu fi ft fl)))))) else (E_v_least_j55 lw bro val sm fw fe frs fu fi ft fl)))))) else (E_v_least_j55 lw bro val sm fw fe frs fu fi ft fl)))) else (E_v_least_j55 lw bro val sm fw fe frs fu fi ft fl))
set_option maxHeartbeats 4000000 in
set_option maxRecDepth 100000 in
theorem v_least (l : Launch) (D : va_G) (K : Nat → ClassId) (m0 : Nat) (x : Int32) (y : Int32) (z : Int32) (w : Int32) (thr : Int32) (m_1 : Value) (m_2 : Value) (w0 : Nat) (m_4 : Value) (m_5 : Value) (u0 : Nat) (m_7 : Value) (m_8 : Value) (m_9 : Value) (m_10 : Value) (m_11 : Value) (m_12 : Value) (m_13 : Value) (m_14 : Value) (m_15 : Value) (m_16 : Value) (m_17 : Value) (m_18 : Value) (m_19 : Value) (m_21 : Value) (m_22 : Value) (m_23 : Value) (m_24 : Value) (m_25 : Value) (m_26 : Value) (m_27 : Value) (m_28 : Value) (m_29 : Value) (m_30 : Value) (m_31 : Value) (m_32 : Value) (m_33 : Value) (lw : Int32) (e0 : Nat) (m_36 : Value) (q0 : Nat) (bro : Int32) (val : Int64) (sm : Int64) (m_41 : Value) (le : Nat) (tf : Nat) (i3 : Nat) (m_45 : Value) (m_46 : Value) (m_47 : Value) (m_48 : Value) (m_49 : Value) (m_50 : Value) (m_51 : Value) (m_52 : Value) (m_53 : Value) (m_54 : Value) (m_55 : Value) (m_56 : Value) (m_57 : Value) (m_58 : Value) (m_59 : Value) (fw : Nat → Int32) (gr : Nat → Int32) (fe : Nat → Int64) (frs : Nat → Int64) (fu : Nat → Int32) (fi : Nat → Int32) (ft : Nat → Int32) (fl : Nat → Int32) (sz : Nat) (zbro : 0 ≤ bro.toInt ∧ bro.toInt ≤ 1) (zfw : RwOK fw) (zgr : FzM gr fw) (zfu : Pu 558 fu) (zft : Rg 819 0 20 ft) : Met l yX12_least wsX12_least ({ frames := 8, cells := 0, slots := 0, locals := 201 }) (va_Pc [.ref m0, .int x, .int y, .int z, .int w] (Pre D K [(m0, .inr (12, [.int thr, m_1, m_2, .ref w0, m_4, m_5, .ref u0, m_7, m_8, m_9, m_10, m_11, m_12, m_13, m_14, m_15, m_16, m_17, m_18, m_19, .int 0, m_21, m_22, m_23, m_24, m_25, m_26, m_27, m_28, m_29, m_30, m_31, m_32, m_33, .int lw, .ref e0, m_36, .ref q0, .int bro, .long val, .long sm, m_41, .ref le, .ref tf, .ref i3, m_45, m_46, m_47, m_48, m_49, m_50, m_51, m_52, m_53, m_54, m_55, m_56, m_57, m_58, m_59])), (w0, .inl (K 0, 5500, .inl fw)), (e0, .inl (K 2, 13, .inr (.inl fe))), (q0, .inl (K 2, 400, .inr (.inl frs))), (u0, .inl (K 0, 558, .inl fu)), (i3, .inl (K 1, 819, .inl fi)), (tf, .inl (K 0, 819, .inl ft)), (le, .inl (K 0, 273, .inl fl))] sz)) (va_Qi (S := Su) (fun (r : Int32) (u : Su) => (0 ≤ (u.2.2.2.1 1).toInt ∧ (u.2.2.2.1 1).toInt ≤ 1) ∧ (RwOK (u.2.1 0)) ∧ (FzM gr (u.2.1 0)) ∧ (Pu 558 (u.2.1 1)) ∧ (Rg 819 0 20 (u.2.1 3)) ∧ ((r, (u.2.2.2.1 0), (u.2.2.2.1 1), (u.2.2.2.2.1 0), (u.2.2.2.2.1 1), (u.2.1 0), (u.2.2.1 0), (u.2.2.1 1), (u.2.1 1), (u.2.1 2), (u.2.1 3), (u.2.1 4)) = E_v_least x y z w thr lw bro val sm fw fe frs fu fi ft fl) ∧ True) (fun u t => Wd D (va_A [(m0, .inr (12, [.int thr, m_1, m_2, .ref w0, m_4, m_5, .ref u0, m_7, m_8, m_9, m_10, m_11, m_12, m_13, m_14, m_15, m_16, m_17, m_18, m_19, .int 0, m_21, m_22, m_23, m_24, m_25, m_26, m_27, m_28, m_29, m_30, m_31, m_32, m_33, .int lw, .ref e0, m_36, .ref q0, .int bro, .long val, .long sm, m_41, .ref le, .ref tf, .ref i3, m_45, m_46, m_47, m_48, m_49, m_50, m_51, m_52, m_53, m_54, m_55, m_56, m_57, m_58, m_59])), (w0, .inl (K 0, 5500, .inl fw)), (e0, .inl (K 2, 13, .inr (.inl fe))), (q0, .inl (K 2, 400, .inr (.inl frs))), (u0, .inl (K 0, 558, .inl fu)), (i3, .inl (K 1, 819, .inl fi)), (tf, .inl (K 0, 819, .inl ft)), (le, .inl (K 0, 273, .inl fl))] sz) ((fun u => [(m0, .inr (12, [.int 0, m_1, m_2, .ref w0, m_4, m_5, .ref u0, m_7, m_8, m_9, m_10, m_11, m_12, m_13, m_14, m_15, m_16, m_17, m_18, m_19, .int 0, m_21, m_22, m_23, m_24, m_25, m_26, m_27, m_28, m_29, m_30, m_31, m_32, m_33, .int (u.2.2.2.1 0), .ref e0, m_36, .ref q0, .int (u.2.2.2.1 1), .long (u.2.2.2.2.1 0), .long (u.2.2.2.2.1 1), m_41, .ref le, .ref tf, .ref i3, m_45, m_46, m_47, m_48, m_49, m_50, m_51, m_52, m_53, m_54, m_55, m_56, m_57, m_58, m_59])), (w0, .inl (K 0, 5500, .inl (u.2.1 0))), (e0, .inl (K 2, 13, .inr (.inl (u.2.2.1 0)))), (q0, .inl (K 2, 400, .inr (.inl (u.2.2.1 1)))), (u0, .inl (K 0, 558, .inl (u.2.1 1))), (i3, .inl (K 1, 819, .inl (u.2.1 2))), (tf, .inl (K 0, 819, .inl (u.2.1 3))), (le, .inl (K 0, 273, .inl (u.2.1 4)))]) u) t) (va_A [(m0, .inr (12, [.int thr, m_1, m_2, .ref w0, m_4, m_5, .ref u0, m_7, m_8, m_9, m_10, m_11, m_12, m_13, m_14, m_15, m_16, m_17, m_18, m_19, .int 0, m_21, m_22, m_23, m_24, m_25, m_26, m_27, m_28, m_29, m_30, m_31, m_32, m_33, .int lw, .ref e0, m_36, .ref q0, .int bro, .long val, .long sm, m_41, .ref le, .ref tf, .ref i3, m_45, m_46, m_47, m_48, m_49, m_50, m_51, m_52, m_53, m_54, m_55, m_56, m_57, m_58, m_59])), (w0, .inl (K 0, 5500, .inl fw)), (e0, .inl (K 2, 13, .inr (.inl fe))), (q0, .inl (K 2, 400, .inr (.inl frs))), (u0, .inl (K 0, 558, .inl fu)), (i3, .inl (K 1, 819, .inl fi)), (tf, .inl (K 0, 819, .inl ft)), (le, .inl (K 0, 273, .inl fl))] sz)) 0 0 (va_A [(m0, .inr (12, [.int thr, m_1, m_2, .ref w0, m_4, m_5, .ref u0, m_7, m_8, m_9, m_10, m_11, m_12, m_13, m_14, m_15, m_16, m_17, m_18, m_19, .int 0, m_21, m_22, m_23, m_24, m_25, m_26, m_27, m_28, m_29, m_30, m_31, m_32, m_33, .int lw, .ref e0, m_36, .ref q0, .int bro, .long val, .long sm, m_41, .ref le, .ref tf, .ref i3, m_45, m_46, m_47, m_48, m_49, m_50, m_51, m_52, m_53, m_54, m_55, m_56, m_57, m_58, m_59])), (w0, .inl (K 0, 5500, .inl fw)), (e0, .inl (K 2, 13, .inr (.inl fe))), (q0, .inl (K 2, 400, .inr (.inl frs))), (u0, .inl (K 0, 558, .inl fu)), (i3, .inl (K 1, 819, .inl fi)), (tf, .inl (K 0, 819, .inl ft)), (le, .inl (K 0, 273, .inl fl))] sz) := by
  refine Met.ofW (cc := cX12_least) (maxL := 8) (ret := (some .int)) (by decide) rfl ?_
  intro p e s m args below meth c s₁ B hml hv
  obtain ⟨rfl, hsz, hP, hK, hD0, hN⟩ := hv
  have hx := B.exec
  have hb := B.bytes
  have hr := B.returns
  have hts := atoms_spec (ws := wsX12_least) B.pre
  have hown : s.vm.findClass RX12 = some m.cls := findClass_of_methodNamed B.named
  have hlocks := B.notSynchronized
  subst hsz
  have hD := hD0.self (sz := s.heap.size)
  generalize hAe : va_A [(m0, .inr (12, [.int thr, m_1, m_2, .ref w0, m_4, m_5, .ref u0, m_7, m_8, m_9, m_10, m_11, m_12, m_13, m_14, m_15, m_16, m_17, m_18, m_19, .int 0, m_21, m_22, m_23, m_24, m_25, m_26, m_27, m_28, m_29, m_30, m_31, m_32, m_33, .int lw, .ref e0, m_36, .ref q0, .int bro, .long val, .long sm, m_41, .ref le, .ref tf, .ref i3, m_45, m_46, m_47, m_48, m_49, m_50, m_51, m_52, m_53, m_54, m_55, m_56, m_57, m_58, m_59])), (w0, .inl (K 0, 5500, .inl fw)), (e0, .inl (K 2, 13, .inr (.inl fe))), (q0, .inl (K 2, 400, .inr (.inl frs))), (u0, .inl (K 0, 558, .inl fu)), (i3, .inl (K 1, 819, .inl fi)), (tf, .inl (K 0, 819, .inl ft)), (le, .inl (K 0, 273, .inl fl))] s.heap.size = A at hD ⊢
  have hA : ∀ q : Nat, s.heap.size ≤ q → A q := fun q h => by rw [← hAe]; exact Or.inr h
  have hS : va_S A s.heap s.heap [] := va_S.rf
  have hP : va_P D vwCl [(m0, .inr (12, [.int thr, m_1, m_2, .ref w0, m_4, m_5, .ref u0, m_7, m_8, m_9, m_10, m_11, m_12, m_13, m_14, m_15, m_16, m_17, m_18, m_19, .int 0, m_21, m_22, m_23, m_24, m_25, m_26, m_27, m_28, m_29, m_30, m_31, m_32, m_33, .int lw, .ref e0, m_36, .ref q0, .int bro, .long val, .long sm, m_41, .ref le, .ref tf, .ref i3, m_45, m_46, m_47, m_48, m_49, m_50, m_51, m_52, m_53, m_54, m_55, m_56, m_57, m_58, m_59])), (w0, .inl (K 0, 5500, .inl fw)), (e0, .inl (K 2, 13, .inr (.inl fe))), (q0, .inl (K 2, 400, .inr (.inl frs))), (u0, .inl (K 0, 558, .inl fu)), (i3, .inl (K 1, 819, .inl fi)), (tf, .inl (K 0, 819, .inl ft)), (le, .inl (K 0, 273, .inl fl))] s.heap := hP
  have hl := lv_entry [.ref m0, .int x, .int y, .int z, .int w] (n := 8) (Nat.le_of_ble_eq_true rfl)
  rw [lg_entry_eq]
  generalize (lg_sl [.ref m0, .int x, .int y, .int z, .int w] ++ List.replicate (8 - (lg_sl [.ref m0, .int x, .int y, .int z, .int w]).length) Slot.unset).toArray = ls at hl ⊢
  have hl : lv_has ls 8 [(0, .ref m0), (1, .int x), (2, .int y), (3, .int z), (4, .int w)] := hl
  have hw12 : ∀ w ∈ wsX120, w ∈ wsX12_least := fun w h => (List.mem_cons_of_mem _ (List.mem_append_right _ h))
  generalize hQ : MQ below _ _ s _ _ _ = Q
  have hE := E_v_least.eq_def x y z w thr lw bro val sm fw fe frs fu fi ft fl
  refine lv_aload_n hx hb dX12_least_0 rfl (lv_at hl 0 rfl) ?_
  refine lv_iconst (v := 0) hx hb dX12_least_1 (by decide) ?_
  refine va_put (ci := 12) (v := .int 0) (ty := .int) (C := RX12) (T := TX12) (N := 60) hx hb hts hw12 tyX12 tyX12_ok nmX12 hown hK hP hD hS 0 rfl rfl 0 (by decide) (hts (.fieldLink RX12 158 "SmokeTuneModel" "thrown" "I") (List.mem_cons_of_mem _ (List.mem_append_left _ (List.mem_append_left _ (List.mem_of_getElem? (i := 0) rfl))))) (fun _ h9 => h9) rfl (by decide +kernel) (by first | rfl | decide) (by first | rfl | decide) (Nat.le_of_ble_eq_true rfl) dX12_least_2 (fun H locs hP hD hS => ?_)
  have hP : va_P D vwCl [(m0, .inr (12, [.int 0, m_1, m_2, .ref w0, m_4, m_5, .ref u0, m_7, m_8, m_9, m_10, m_11, m_12, m_13, m_14, m_15, m_16, m_17, m_18, m_19, .int 0, m_21, m_22, m_23, m_24, m_25, m_26, m_27, m_28, m_29, m_30, m_31, m_32, m_33, .int lw, .ref e0, m_36, .ref q0, .int bro, .long val, .long sm, m_41, .ref le, .ref tf, .ref i3, m_45, m_46, m_47, m_48, m_49, m_50, m_51, m_52, m_53, m_54, m_55, m_56, m_57, m_58, m_59])), (w0, .inl (K 0, 5500, .inl fw)), (e0, .inl (K 2, 13, .inr (.inl fe))), (q0, .inl (K 2, 400, .inr (.inl frs))), (u0, .inl (K 0, 558, .inl fu)), (i3, .inl (K 1, 819, .inl fi)), (tf, .inl (K 0, 819, .inl ft)), (le, .inl (K 0, 273, .inl fl))] H := hP
  have hD : va_D A [(m0, .inr (12, [.int 0, m_1, m_2, .ref w0, m_4, m_5, .ref u0, m_7, m_8, m_9, m_10, m_11, m_12, m_13, m_14, m_15, m_16, m_17, m_18, m_19, .int 0, m_21, m_22, m_23, m_24, m_25, m_26, m_27, m_28, m_29, m_30, m_31, m_32, m_33, .int lw, .ref e0, m_36, .ref q0, .int bro, .long val, .long sm, m_41, .ref le, .ref tf, .ref i3, m_45, m_46, m_47, m_48, m_49, m_50, m_51, m_52, m_53, m_54, m_55, m_56, m_57, m_58, m_59])), (w0, .inl (K 0, 5500, .inl fw)), (e0, .inl (K 2, 13, .inr (.inl fe))), (q0, .inl (K 2, 400, .inr (.inl frs))), (u0, .inl (K 0, 558, .inl fu)), (i3, .inl (K 1, 819, .inl fi)), (tf, .inl (K 0, 819, .inl ft)), (le, .inl (K 0, 273, .inl fl))] := hD
  refine lv_aload_n hx hb dX12_least_5 rfl (lv_at hl 0 rfl) ?_
  refine lv_iload_n hx hb dX12_least_6 rfl (lv_at hl 1 rfl) ?_
  have j_3778 : ∀ (hE : E_v_least x y z w thr lw bro val sm fw fe frs fu fi ft fl = E_v_least_j55 lw bro val sm fw fe frs fu fi ft fl) (H : Heap) (locs : List Loc) (hP : va_P D vwCl [(m0, .inr (12, [.int 0, m_1, m_2, .ref w0, m_4, m_5, .ref u0, m_7, m_8, m_9, m_10, m_11, m_12, m_13, m_14, m_15, m_16, m_17, m_18, m_19, .int 0, m_21, m_22, m_23, m_24, m_25, m_26, m_27, m_28, m_29, m_30, m_31, m_32, m_33, .int lw, .ref e0, m_36, .ref q0, .int bro, .long val, .long sm, m_41, .ref le, .ref tf, .ref i3, m_45, m_46, m_47, m_48, m_49, m_50, m_51, m_52, m_53, m_54, m_55, m_56, m_57, m_58, m_59])), (w0, .inl (K 0, 5500, .inl fw)), (e0, .inl (K 2, 13, .inr (.inl fe))), (q0, .inl (K 2, 400, .inr (.inl frs))), (u0, .inl (K 0, 558, .inl fu)), (i3, .inl (K 1, 819, .inl fi)), (tf, .inl (K 0, 819, .inl ft)), (le, .inl (K 0, 273, .inl fl))] H) (hD : va_D A [(m0, .inr (12, [.int 0, m_1, m_2, .ref w0, m_4, m_5, .ref u0, m_7, m_8, m_9, m_10, m_11, m_12, m_13, m_14, m_15, m_16, m_17, m_18, m_19, .int 0, m_21, m_22, m_23, m_24, m_25, m_26, m_27, m_28, m_29, m_30, m_31, m_32, m_33, .int lw, .ref e0, m_36, .ref q0, .int bro, .long val, .long sm, m_41, .ref le, .ref tf, .ref i3, m_45, m_46, m_47, m_48, m_49, m_50, m_51, m_52, m_53, m_54, m_55, m_56, m_57, m_58, m_59])), (w0, .inl (K 0, 5500, .inl fw)), (e0, .inl (K 2, 13, .inr (.inl fe))), (q0, .inl (K 2, 400, .inr (.inl frs))), (u0, .inl (K 0, 558, .inl fu)), (i3, .inl (K 1, 819, .inl fi)), (tf, .inl (K 0, 819, .inl ft)), (le, .inl (K 0, 273, .inl fl))]) (hS : va_S A s.heap H locs) (ls : Array Slot) (hl : lv_has ls 8 []), W p l e ({ frames := 8, cells := 0, slots := 0, locals := 201 }) s m (([.ref m0, .int x, .int y, .int z, .int w] : List Value).toArray) below meth c H locs 0 0 Q (F0 m 55 ls []) := by
    intro hE H locs hP hD hS ls hl
    replace hE := hE.trans (E_v_least_j55.eq_def _ _ _ _ _ _ _ _ _ _ _)
    refine lv_iconst (v := (-1)) hx hb dX12_least_55 (by decide) ?_
    rw [← hQ]
    have hP9 := hP.sub (ws' := [(m0, .inr (12, [.int 0, m_1, m_2, .ref w0, m_4, m_5, .ref u0, m_7, m_8, m_9, m_10, m_11, m_12, m_13, m_14, m_15, m_16, m_17, m_18, m_19, .int 0, m_21, m_22, m_23, m_24, m_25, m_26, m_27, m_28, m_29, m_30, m_31, m_32, m_33, .int lw, .ref e0, m_36, .ref q0, .int bro, .long val, .long sm, m_41, .ref le, .ref tf, .ref i3, m_45, m_46, m_47, m_48, m_49, m_50, m_51, m_52, m_53, m_54, m_55, m_56, m_57, m_58, m_59])), (w0, .inl (K 0, 5500, .inl fw)), (e0, .inl (K 2, 13, .inr (.inl fe))), (q0, .inl (K 2, 400, .inr (.inl frs))), (u0, .inl (K 0, 558, .inl fu)), (i3, .inl (K 1, 819, .inl fi)), (tf, .inl (K 0, 819, .inl ft)), (le, .inl (K 0, 273, .inl fl))]) [0, 1, 2, 3, 4, 5, 6, 7] rfl
    have hD9 := hD.sub (ws' := [(m0, .inr (12, [.int 0, m_1, m_2, .ref w0, m_4, m_5, .ref u0, m_7, m_8, m_9, m_10, m_11, m_12, m_13, m_14, m_15, m_16, m_17, m_18, m_19, .int 0, m_21, m_22, m_23, m_24, m_25, m_26, m_27, m_28, m_29, m_30, m_31, m_32, m_33, .int lw, .ref e0, m_36, .ref q0, .int bro, .long val, .long sm, m_41, .ref le, .ref tf, .ref i3, m_45, m_46, m_47, m_48, m_49, m_50, m_51, m_52, m_53, m_54, m_55, m_56, m_57, m_58, m_59])), (w0, .inl (K 0, 5500, .inl fw)), (e0, .inl (K 2, 13, .inr (.inl fe))), (q0, .inl (K 2, 400, .inr (.inl frs))), (u0, .inl (K 0, 558, .inl fu)), (i3, .inl (K 1, 819, .inl fi)), (tf, .inl (K 0, 819, .inl ft)), (le, .inl (K 0, 273, .inl fl))]) [0, 1, 2, 3, 4, 5, 6, 7] (by decide) rfl
    exact W.iret (v := (-1)) hx hb hr (fun t ht hW => ⟨⟨(-1), ((fun _ => 0, fun i => match i with | 0 => fw | 1 => fu | 2 => fi | 3 => ft | _ => fl, fun i => match i with | 0 => fe | _ => frs, fun i => match i with | 0 => lw | _ => bro, fun i => match i with | 0 => val | _ => sm, fun _ => fun _ => none) : Su), rfl, ⟨(show 0 ≤ (bro : Int32).toInt ∧ (bro : Int32).toInt ≤ 1 by omega), zfw, zgr, zfu, zft, hE.symm, trivial⟩, (⟨by rw [ht]; exact hP9, hD9⟩ : Wd D A _ t)⟩, hS.F ht⟩) hS.2.2 dX12_least_56
  refine pci (va_runV (As := [.int x]) (rest := []) ⟨hx, hb, hml, hown, hts⟩ (v_isHouse l D K x.toInt m0 x (.int 0) m_1 m_2 w0 m_4 m_5 (.ref u0) m_7 m_8 m_9 m_10 m_11 m_12 m_13 m_14 m_15 m_16 m_17 m_18 m_19 (.int 0) m_21 m_22 m_23 m_24 m_25 m_26 m_27 m_28 m_29 m_30 m_31 m_32 m_33 (.int lw) (.ref e0) m_36 (.ref q0) (.int bro) (.long val) (.long sm) m_41 (.ref le) (.ref tf) (.ref i3) m_45 m_46 m_47 m_48 m_49 m_50 m_51 m_52 m_53 m_54 m_55 m_56 m_57 m_58 m_59 fw H.size rfl zfw) (cwV 1 hts gX12_least_X12_isHouse rfl rfl rfl (by decide +kernel) ⟨Nat.le_of_ble_eq_true rfl, Nat.le_of_ble_eq_true rfl⟩) (mkV hK hN (hP.sub [0, 1] rfl) (hD.sub [0, 1] (by decide) rfl) (ci := 12) (q0 := 0) rfl rfl) rfl rfl hl.1 rfl (lv_room (Nat.le_of_ble_eq_true rfl)) dX12_least_7 ⟨Nat.le_of_ble_eq_true rfl, Nat.le_of_ble_eq_true rfl⟩) (fun r_3779 hw => ?_)
  obtain ⟨hw, k_3780, -⟩ := hw
  replace hE := hE.trans (Lt_in k_3780)
  rcases hw with ⟨rfl, h_3781, h_3782⟩ | rfl
  · replace hE := (hE).trans (if_pos rfl)
    refine lv_if_eq (tgt := 55) hx hb dX12_least_10 (by decide) (fun c_3783 => absurd c_3783 (by decide)) (fun c_3783 => ?_)
    refine lv_iload_n hx hb dX12_least_13 rfl (lv_at hl 2 rfl) ?_
    refine lv_i2l hx hb dX12_least_14 rfl ?_
    refine lv_topl (fun x_3784 ex_3784 => ?_)
    replace hE := hE.trans (Lt_in ex_3784)
    have hx_3784 : x_3784.toInt = y.toInt := by rw [ex_3784]; exact i_wide rfl
    have hbx_3784 := i_rng (a := y) rfl
    refine lv_lconst (v := 1) hx hb dX12_least_15 (by decide) ?_
    refine lv_ldc2 (v := 12) hx hb hown (hts (.constantLong RX12 488 (12)) (List.mem_cons_of_mem _ (List.mem_append_left _ (List.mem_append_left _ (List.mem_of_getElem? (i := 1) rfl))))) dX12_least_16 ?_
    refine pci (va_runS (As := [.long x_3784, .long 1, .long 12]) (rest := []) ⟨hx, hb, hml, hown, hts⟩ (v_in l D K y.toInt 1 12 x_3784 1 12 H.size hx_3784 (show (1 : Int64).toInt = 1 from rfl) (show (12 : Int64).toInt = 12 from rfl)) (va_cwS 3 hts gX12_least_X12_in rfl rfl rfl (by decide +kernel) ⟨Nat.le_of_ble_eq_true rfl, Nat.le_of_ble_eq_true rfl⟩) (mkS hK hN (va_P.nil) (va_D.nil (A := fun _ => True))) rfl rfl hl.1 rfl (lv_room (Nat.le_of_ble_eq_true rfl)) dX12_least_19 ⟨Nat.le_of_ble_eq_true rfl, Nat.le_of_ble_eq_true rfl⟩) (fun r_3785 hw => ?_)
    obtain ⟨hw, k_3786, -⟩ := hw
    replace hE := hE.trans (Lt_in k_3786)
    rcases hw with ⟨rfl, h_3787, h_3788⟩ | ⟨rfl, h_3789⟩
    · replace hE := (hE).trans (if_pos rfl)
      refine lv_if_eq (tgt := 55) hx hb dX12_least_22 (by decide) (fun c_3790 => absurd c_3790 (by decide)) (fun c_3790 => ?_)
      refine lv_iload_n hx hb dX12_least_25 rfl (lv_at hl 3 rfl) ?_
      refine lv_i2l hx hb dX12_least_26 rfl ?_
      refine lv_topl (fun x_3791 ex_3791 => ?_)
      replace hE := hE.trans (Lt_in ex_3791)
      have hx_3791 : x_3791.toInt = z.toInt := by rw [ex_3791]; exact i_wide rfl
      have hbx_3791 := i_rng (a := z) rfl
      refine lv_lconst (v := 0) hx hb dX12_least_27 (by decide) ?_
      refine lv_lconst (v := 1) hx hb dX12_least_28 (by decide) ?_
      refine lv_iload_n hx hb dX12_least_29 rfl (lv_at hl 2 rfl) ?_
      refine lv_lshl hx hb dX12_least_30 rfl ?_
      refine lv_topl (fun x_3792 ex_3792 => ?_)
      replace hE := hE.trans (Lt_in ex_3792)
      refine lv_lconst (v := 1) hx hb dX12_least_31 (by decide) ?_
      refine lv_lsub hx hb dX12_least_32 ?_
      refine lv_topl (fun x_3793 ex_3793 => ?_)
      replace hE := hE.trans (Lt_in ex_3793)
      refine pci (va_runS (As := [.long x_3791, .long 0, .long x_3793]) (rest := []) ⟨hx, hb, hml, hown, hts⟩ (v_in l D K z.toInt 0 x_3793.toInt x_3791 0 x_3793 H.size hx_3791 (show (0 : Int64).toInt = 0 from rfl) rfl) (va_cwS 3 hts gX12_least_X12_in rfl rfl rfl (by decide +kernel) ⟨Nat.le_of_ble_eq_true rfl, Nat.le_of_ble_eq_true rfl⟩) (mkS hK hN (va_P.nil) (va_D.nil (A := fun _ => True))) rfl rfl hl.1 rfl (lv_room (Nat.le_of_ble_eq_true rfl)) dX12_least_33 ⟨Nat.le_of_ble_eq_true rfl, Nat.le_of_ble_eq_true rfl⟩) (fun r_3794 hw => ?_)
      obtain ⟨hw, k_3795, -⟩ := hw
      replace hE := hE.trans (Lt_in k_3795)
      rcases hw with ⟨rfl, h_3796, h_3797⟩ | ⟨rfl, h_3798⟩
      · replace hE := (hE).trans (if_pos rfl)
        refine lv_if_eq (tgt := 55) hx hb dX12_least_36 (by decide) (fun c_3799 => absurd c_3799 (by decide)) (fun c_3799 => ?_)
        refine lv_iload hx hb dX12_least_39 (lv_at hl 4 rfl) ?_
        refine lv_i2l hx hb dX12_least_41 rfl ?_
        refine lv_topl (fun x_3800 ex_3800 => ?_)
        replace hE := hE.trans (Lt_in ex_3800)
        have hx_3800 : x_3800.toInt = w.toInt := by rw [ex_3800]; exact i_wide rfl
        have hbx_3800 := i_rng (a := w) rfl
        refine lv_ldc2 (v := (-1)) hx hb hown (hts (.constantLong RX12 266 (-1)) (List.mem_cons_of_mem _ (List.mem_append_left _ (List.mem_append_left _ (List.mem_of_getElem? (i := 2) rfl))))) dX12_least_42 ?_
        refine lv_iload_n hx hb dX12_least_45 rfl (lv_at hl 2 rfl) ?_
        refine lv_i2l hx hb dX12_least_46 rfl ?_
        refine lv_topl (fun x_3801 ex_3801 => ?_)
        replace hE := hE.trans (Lt_in ex_3801)
        have hx_3801 : x_3801.toInt = y.toInt := by rw [ex_3801]; exact i_wide rfl
        refine lv_lconst (v := 1) hx hb dX12_least_47 (by decide) ?_
        refine lv_lsub hx hb dX12_least_48 ?_
        refine lv_topl (fun x_3802 ex_3802 => ?_)
        replace hE := hE.trans (Lt_in ex_3802)
        have hx_3802 : x_3802.toInt = (y.toInt - 1) := by rw [ex_3802]; exact l_sub hx_3801 (show (1 : Int64).toInt = 1 from rfl) (by omega)
        refine pci (va_runS (As := [.long x_3800, .long (-1), .long x_3802]) (rest := []) ⟨hx, hb, hml, hown, hts⟩ (v_in l D K w.toInt (-1) (y.toInt - 1) x_3800 (-1) x_3802 H.size hx_3800 (show ((-1) : Int64).toInt = (-1) from rfl) hx_3802) (va_cwS 3 hts gX12_least_X12_in rfl rfl rfl (by decide +kernel) ⟨Nat.le_of_ble_eq_true rfl, Nat.le_of_ble_eq_true rfl⟩) (mkS hK hN (va_P.nil) (va_D.nil (A := fun _ => True))) rfl rfl hl.1 rfl (lv_room (Nat.le_of_ble_eq_true rfl)) dX12_least_49 ⟨Nat.le_of_ble_eq_true rfl, Nat.le_of_ble_eq_true rfl⟩) (fun r_3803 hw => ?_)
        obtain ⟨hw, k_3804, -⟩ := hw
        replace hE := hE.trans (Lt_in k_3804)
        rcases hw with ⟨rfl, h_3805, h_3806⟩ | ⟨rfl, h_3807⟩
        · replace hE := (hE).trans (if_pos rfl)
          refine lv_if_ne (tgt := 57) hx hb dX12_least_52 (by decide) (fun c_3808 => ?_) (fun c_3808 => absurd c_3808 (by decide))
          refine lv_aload_n hx hb dX12_least_57 rfl (lv_at hl 0 rfl) ?_
          refine lv_iload_n hx hb dX12_least_58 rfl (lv_at hl 1 rfl) ?_
          refine lv_iload_n hx hb dX12_least_59 rfl (lv_at hl 2 rfl) ?_
          refine lv_iload_n hx hb dX12_least_60 rfl (lv_at hl 3 rfl) ?_
          refine kcv (S := Su) (wr := []) (va_runV (As := [.int x, .int y, .int z]) (rest := []) ⟨hx, hb, hml, hown, hts⟩ (v_layLeast l D K m0 x y z (.int 0) m_1 m_2 w0 m_4 m_5 u0 m_7 m_8 m_9 m_10 m_11 m_12 m_13 m_14 m_15 m_16 m_17 m_18 m_19 m_21 m_22 m_23 m_24 m_25 m_26 m_27 m_28 m_29 m_30 m_31 m_32 m_33 lw e0 m_36 q0 bro val sm m_41 le tf i3 m_45 m_46 m_47 m_48 m_49 m_50 m_51 m_52 m_53 m_54 m_55 m_56 m_57 m_58 m_59 fw gr fe frs fu fi ft fl H.size (by first | omega | decide) (by first | omega | decide) (by first | omega | decide) zfw zgr zfu zft) (cwV 3 hts gX12_least_X12_layLeast rfl rfl rfl (by decide +kernel) ⟨Nat.le_of_ble_eq_true rfl, Nat.le_of_ble_eq_true rfl⟩) (mkV hK hN (hP.sub [0, 1, 2, 3, 4, 5, 6, 7] rfl) (hD.sub [0, 1, 2, 3, 4, 5, 6, 7] (by decide) rfl) (ci := 12) (q0 := 0) rfl rfl) rfl rfl hl.1 rfl (lv_room (Nat.le_of_ble_eq_true rfl)) dX12_least_61 ⟨Nat.le_of_ble_eq_true rfl, Nat.le_of_ble_eq_true rfl⟩) hP hD hS hA [0, 1, 2, 3, 4, 5, 6, 7] [] rfl rfl (by decide) (by decide) (fun u_3810 H locs hw hP hD hS => ?_)
          have hP : va_P D vwCl [(m0, .inr (12, [.int 0, m_1, m_2, .ref w0, m_4, m_5, .ref u0, m_7, m_8, m_9, m_10, m_11, m_12, m_13, m_14, m_15, m_16, m_17, m_18, m_19, .int 0, m_21, m_22, m_23, m_24, m_25, m_26, m_27, m_28, m_29, m_30, m_31, m_32, m_33, .int (u_3810.2.2.2.1 0), .ref e0, m_36, .ref q0, .int (u_3810.2.2.2.1 1), .long (u_3810.2.2.2.2.1 0), .long (u_3810.2.2.2.2.1 1), m_41, .ref le, .ref tf, .ref i3, m_45, m_46, m_47, m_48, m_49, m_50, m_51, m_52, m_53, m_54, m_55, m_56, m_57, m_58, m_59])), (w0, .inl (K 0, 5500, .inl (u_3810.2.1 0))), (e0, .inl (K 2, 13, .inr (.inl (u_3810.2.2.1 0)))), (q0, .inl (K 2, 400, .inr (.inl (u_3810.2.2.1 1)))), (u0, .inl (K 0, 558, .inl (u_3810.2.1 1))), (i3, .inl (K 1, 819, .inl (u_3810.2.1 2))), (tf, .inl (K 0, 819, .inl (u_3810.2.1 3))), (le, .inl (K 0, 273, .inl (u_3810.2.1 4)))] H := hP
          have hD : va_D A [(m0, .inr (12, [.int 0, m_1, m_2, .ref w0, m_4, m_5, .ref u0, m_7, m_8, m_9, m_10, m_11, m_12, m_13, m_14, m_15, m_16, m_17, m_18, m_19, .int 0, m_21, m_22, m_23, m_24, m_25, m_26, m_27, m_28, m_29, m_30, m_31, m_32, m_33, .int (u_3810.2.2.2.1 0), .ref e0, m_36, .ref q0, .int (u_3810.2.2.2.1 1), .long (u_3810.2.2.2.2.1 0), .long (u_3810.2.2.2.2.1 1), m_41, .ref le, .ref tf, .ref i3, m_45, m_46, m_47, m_48, m_49, m_50, m_51, m_52, m_53, m_54, m_55, m_56, m_57, m_58, m_59])), (w0, .inl (K 0, 5500, .inl (u_3810.2.1 0))), (e0, .inl (K 2, 13, .inr (.inl (u_3810.2.2.1 0)))), (q0, .inl (K 2, 400, .inr (.inl (u_3810.2.2.1 1)))), (u0, .inl (K 0, 558, .inl (u_3810.2.1 1))), (i3, .inl (K 1, 819, .inl (u_3810.2.1 2))), (tf, .inl (K 0, 819, .inl (u_3810.2.1 3))), (le, .inl (K 0, 273, .inl (u_3810.2.1 4)))] := hD
          obtain ⟨k_3811, k_3812, k_3813, k_3814, k_3815, k_3816, k_3817, -⟩ := hw
          replace hE := (((((((((hE.trans (Lt2_in k_3817)).trans (Lt2_in rfl)).trans (Lt2_in rfl)).trans (Lt2_in rfl)).trans (Lt2_in rfl)).trans (Lt2_in rfl)).trans (Lt2_in rfl)).trans (Lt2_in rfl)).trans (Lt2_in rfl)).trans (Lt2_in rfl)
          refine lv_aload_n hx hb dX12_least_64 rfl (lv_at hl 0 rfl) ?_
          refine va_get (ci := 12) (v := .ref w0) (C := RX12) (T := TX12) (N := 60) hx hb hts hw12 hown hK hP 0 rfl rfl 3 (by decide) (hts (.fieldLink RX12 13 "SmokeTuneModel" "row" "[I") (List.mem_cons_of_mem _ (List.mem_append_left _ (List.mem_append_left _ (List.mem_of_getElem? (i := 3) rfl))))) (fun _ h9 => h9) rfl dX12_least_65 ?_
          refine lv_bipush (v := 11) hx hb dX12_least_68 (by decide) ?_
          refine lv_iload_n hx hb dX12_least_70 rfl (lv_at hl 1 rfl) ?_
          refine lv_iadd hx hb dX12_least_71 ?_
          refine lv_topi (fun x_3818 ex_3818 => ?_)
          replace hE := hE.trans (Lt_in ex_3818)
          have hx_3818 : x_3818.toInt = (11 + x.toInt) := by rw [ex_3818]; exact i_add (show (11 : Int32).toInt = 11 from rfl) rfl (by omega)
          refine va_iald hx hb hK hP 1 0 rfl rfl (i_in hx_3818 (by omega)) dX12_least_72 ?_
          refine lv_topi (fun x_3819 ex_3819 => ?_)
          replace hE := hE.trans (Lt_in ex_3819)
          have px_3819 := RwOK.at k_3812 hx_3818 (show 0 ≤ (11 + x.toInt) ∧ (11 + x.toInt) < 100 by omega)
          rw [← ex_3819] at px_3819
          have hx_3819 := PR.r_11 px_3819 (by omega)
          refine lv_istore (lv' := [(5, .int x_3819), (0, .ref m0), (1, .int x), (2, .int y), (3, .int z), (4, .int w)]) hx hb dX12_least_73 hl (by decide) rfl (fun ls hl => ?_)
          refine lv_aload_n hx hb dX12_least_75 rfl (lv_at hl 1 rfl) ?_
          refine va_get (ci := 12) (v := .ref le) (C := RX12) (T := TX12) (N := 60) hx hb hts hw12 hown hK hP 0 rfl rfl 42 (by decide) (hts (.fieldLink RX12 111 "SmokeTuneModel" "least" "[I") (List.mem_cons_of_mem _ (List.mem_append_left _ (List.mem_append_left _ (List.mem_of_getElem? (i := 4) rfl))))) (fun _ h9 => h9) rfl dX12_least_76 ?_
          refine lv_iload hx hb dX12_least_79 (lv_at hl 0 rfl) ?_
          refine va_iald hx hb hK hP 7 0 rfl rfl (i_in rfl (by omega)) dX12_least_81 ?_
          refine lv_topi (fun x_3820 ex_3820 => ?_)
          replace hE := hE.trans (Lt_in ex_3820)
          refine lv_ldcw (v := 100000000) hx hb hown (hts (.constant RX12 476 (100000000)) (List.mem_cons_of_mem _ (List.mem_append_left _ (List.mem_append_left _ (List.mem_of_getElem? (i := 5) rfl))))) dX12_least_82 ?_
          have j_4169 : ∀ (hE : E_v_least x y z w thr lw bro val sm fw fe frs fu fi ft fl = E_v_least_j94 (u_3810.2.2.2.1 0) (u_3810.2.2.2.1 1) (u_3810.2.2.2.2.1 0) (u_3810.2.2.2.2.1 1) (u_3810.2.1 0) (u_3810.2.2.1 0) (u_3810.2.2.1 1) (u_3810.2.1 1) (u_3810.2.1 2) (u_3810.2.1 3) (u_3810.2.1 4) x_3819) (H : Heap) (locs : List Loc) (hP : va_P D vwCl [(m0, .inr (12, [.int 0, m_1, m_2, .ref w0, m_4, m_5, .ref u0, m_7, m_8, m_9, m_10, m_11, m_12, m_13, m_14, m_15, m_16, m_17, m_18, m_19, .int 0, m_21, m_22, m_23, m_24, m_25, m_26, m_27, m_28, m_29, m_30, m_31, m_32, m_33, .int (u_3810.2.2.2.1 0), .ref e0, m_36, .ref q0, .int (u_3810.2.2.2.1 1), .long (u_3810.2.2.2.2.1 0), .long (u_3810.2.2.2.2.1 1), m_41, .ref le, .ref tf, .ref i3, m_45, m_46, m_47, m_48, m_49, m_50, m_51, m_52, m_53, m_54, m_55, m_56, m_57, m_58, m_59])), (w0, .inl (K 0, 5500, .inl (u_3810.2.1 0))), (e0, .inl (K 2, 13, .inr (.inl (u_3810.2.2.1 0)))), (q0, .inl (K 2, 400, .inr (.inl (u_3810.2.2.1 1)))), (u0, .inl (K 0, 558, .inl (u_3810.2.1 1))), (i3, .inl (K 1, 819, .inl (u_3810.2.1 2))), (tf, .inl (K 0, 819, .inl (u_3810.2.1 3))), (le, .inl (K 0, 273, .inl (u_3810.2.1 4)))] H) (hD : va_D A [(m0, .inr (12, [.int 0, m_1, m_2, .ref w0, m_4, m_5, .ref u0, m_7, m_8, m_9, m_10, m_11, m_12, m_13, m_14, m_15, m_16, m_17, m_18, m_19, .int 0, m_21, m_22, m_23, m_24, m_25, m_26, m_27, m_28, m_29, m_30, m_31, m_32, m_33, .int (u_3810.2.2.2.1 0), .ref e0, m_36, .ref q0, .int (u_3810.2.2.2.1 1), .long (u_3810.2.2.2.2.1 0), .long (u_3810.2.2.2.2.1 1), m_41, .ref le, .ref tf, .ref i3, m_45, m_46, m_47, m_48, m_49, m_50, m_51, m_52, m_53, m_54, m_55, m_56, m_57, m_58, m_59])), (w0, .inl (K 0, 5500, .inl (u_3810.2.1 0))), (e0, .inl (K 2, 13, .inr (.inl (u_3810.2.2.1 0)))), (q0, .inl (K 2, 400, .inr (.inl (u_3810.2.2.1 1)))), (u0, .inl (K 0, 558, .inl (u_3810.2.1 1))), (i3, .inl (K 1, 819, .inl (u_3810.2.1 2))), (tf, .inl (K 0, 819, .inl (u_3810.2.1 3))), (le, .inl (K 0, 273, .inl (u_3810.2.1 4)))]) (hS : va_S A s.heap H locs) (ls : Array Slot) (hl : lv_has ls 8 [(5, .int x_3819), (0, .ref m0)]), W p l e ({ frames := 8, cells := 0, slots := 0, locals := 201 }) s m (([.ref m0, .int x, .int y, .int z, .int w] : List Value).toArray) below meth c H locs 0 0 Q (F0 m 94 ls []) := by
            intro hE H locs hP hD hS ls hl
            replace hE := hE.trans (E_v_least_j94.eq_def _ _ _ _ _ _ _ _ _ _ _ _)
            refine lv_aload_n hx hb dX12_least_94 rfl (lv_at hl 1 rfl) ?_
            refine va_get (ci := 12) (v := .ref le) (C := RX12) (T := TX12) (N := 60) hx hb hts hw12 hown hK hP 0 rfl rfl 42 (by decide) (hts (.fieldLink RX12 111 "SmokeTuneModel" "least" "[I") (List.mem_cons_of_mem _ (List.mem_append_left _ (List.mem_append_left _ (List.mem_of_getElem? (i := 4) rfl))))) (fun _ h9 => h9) rfl dX12_least_95 ?_
            refine lv_iload hx hb dX12_least_98 (lv_at hl 0 rfl) ?_
            refine va_iald hx hb hK hP 7 0 rfl rfl (i_in rfl (by omega)) dX12_least_100 ?_
            refine lv_topi (fun x_4170 ex_4170 => ?_)
            replace hE := hE.trans (Lt_in ex_4170)
            refine lv_ldcw (v := 100000000) hx hb hown (hts (.constant RX12 476 (100000000)) (List.mem_cons_of_mem _ (List.mem_append_left _ (List.mem_append_left _ (List.mem_of_getElem? (i := 5) rfl))))) dX12_least_101 ?_
            refine lv_icmp_ne (tgt := 111) hx hb dX12_least_104 (by decide) (fun c_4171 => ?_) (fun c_4171 => ?_)
            · have c_4171i := i_ne (x := x_4170.toInt) (y := 100000000) rfl rfl c_4171
              replace hE := hE.trans (if_neg c_4171)
              refine lv_aload_n hx hb dX12_least_111 rfl (lv_at hl 1 rfl) ?_
              refine va_get (ci := 12) (v := .ref le) (C := RX12) (T := TX12) (N := 60) hx hb hts hw12 hown hK hP 0 rfl rfl 42 (by decide) (hts (.fieldLink RX12 111 "SmokeTuneModel" "least" "[I") (List.mem_cons_of_mem _ (List.mem_append_left _ (List.mem_append_left _ (List.mem_of_getElem? (i := 4) rfl))))) (fun _ h9 => h9) rfl dX12_least_112 ?_
              refine lv_iload hx hb dX12_least_115 (lv_at hl 0 rfl) ?_
              refine va_iald hx hb hK hP 7 0 rfl rfl (i_in rfl (by omega)) dX12_least_117 ?_
              refine lv_topi (fun x_4172 ex_4172 => ?_)
              replace hE := hE.trans (Lt_in ex_4172)
              rw [← hQ]
              have hP9 := hP.sub (ws' := [(m0, .inr (12, [.int 0, m_1, m_2, .ref w0, m_4, m_5, .ref u0, m_7, m_8, m_9, m_10, m_11, m_12, m_13, m_14, m_15, m_16, m_17, m_18, m_19, .int 0, m_21, m_22, m_23, m_24, m_25, m_26, m_27, m_28, m_29, m_30, m_31, m_32, m_33, .int (u_3810.2.2.2.1 0), .ref e0, m_36, .ref q0, .int (u_3810.2.2.2.1 1), .long (u_3810.2.2.2.2.1 0), .long (u_3810.2.2.2.2.1 1), m_41, .ref le, .ref tf, .ref i3, m_45, m_46, m_47, m_48, m_49, m_50, m_51, m_52, m_53, m_54, m_55, m_56, m_57, m_58, m_59])), (w0, .inl (K 0, 5500, .inl (u_3810.2.1 0))), (e0, .inl (K 2, 13, .inr (.inl (u_3810.2.2.1 0)))), (q0, .inl (K 2, 400, .inr (.inl (u_3810.2.2.1 1)))), (u0, .inl (K 0, 558, .inl (u_3810.2.1 1))), (i3, .inl (K 1, 819, .inl (u_3810.2.1 2))), (tf, .inl (K 0, 819, .inl (u_3810.2.1 3))), (le, .inl (K 0, 273, .inl (u_3810.2.1 4)))]) [0, 1, 2, 3, 4, 5, 6, 7] rfl
              have hD9 := hD.sub (ws' := [(m0, .inr (12, [.int 0, m_1, m_2, .ref w0, m_4, m_5, .ref u0, m_7, m_8, m_9, m_10, m_11, m_12, m_13, m_14, m_15, m_16, m_17, m_18, m_19, .int 0, m_21, m_22, m_23, m_24, m_25, m_26, m_27, m_28, m_29, m_30, m_31, m_32, m_33, .int (u_3810.2.2.2.1 0), .ref e0, m_36, .ref q0, .int (u_3810.2.2.2.1 1), .long (u_3810.2.2.2.2.1 0), .long (u_3810.2.2.2.2.1 1), m_41, .ref le, .ref tf, .ref i3, m_45, m_46, m_47, m_48, m_49, m_50, m_51, m_52, m_53, m_54, m_55, m_56, m_57, m_58, m_59])), (w0, .inl (K 0, 5500, .inl (u_3810.2.1 0))), (e0, .inl (K 2, 13, .inr (.inl (u_3810.2.2.1 0)))), (q0, .inl (K 2, 400, .inr (.inl (u_3810.2.2.1 1)))), (u0, .inl (K 0, 558, .inl (u_3810.2.1 1))), (i3, .inl (K 1, 819, .inl (u_3810.2.1 2))), (tf, .inl (K 0, 819, .inl (u_3810.2.1 3))), (le, .inl (K 0, 273, .inl (u_3810.2.1 4)))]) [0, 1, 2, 3, 4, 5, 6, 7] (by decide) rfl
              exact W.iret (v := x_4172) hx hb hr (fun t ht hW => ⟨⟨x_4172, ((fun _ => 0, fun i => match i with | 0 => (u_3810.2.1 0) | 1 => (u_3810.2.1 1) | 2 => (u_3810.2.1 2) | 3 => (u_3810.2.1 3) | _ => (u_3810.2.1 4), fun i => match i with | 0 => (u_3810.2.2.1 0) | _ => (u_3810.2.2.1 1), fun i => match i with | 0 => (u_3810.2.2.2.1 0) | _ => (u_3810.2.2.2.1 1), fun i => match i with | 0 => (u_3810.2.2.2.2.1 0) | _ => (u_3810.2.2.2.2.1 1), fun _ => fun _ => none) : Su), rfl, ⟨(show 0 ≤ ((u_3810.2.2.2.1 1) : Int32).toInt ∧ ((u_3810.2.2.2.1 1) : Int32).toInt ≤ 1 by omega), k_3812, k_3813, k_3814, k_3815, hE.symm, trivial⟩, (⟨by rw [ht]; exact hP9, hD9⟩ : Wd D A _ t)⟩, hS.F ht⟩) hS.2.2 dX12_least_118
            · have c_4171i := i_eq (x := x_4170.toInt) (y := 100000000) rfl rfl c_4171
              replace hE := hE.trans (if_pos c_4171)
              refine lv_iconst (v := (-1)) hx hb dX12_least_107 (by decide) ?_
              refine lv_goto (tgt := 118) hx hb dX12_least_108 (by decide) ?_
              rw [← hQ]
              have hP9 := hP.sub (ws' := [(m0, .inr (12, [.int 0, m_1, m_2, .ref w0, m_4, m_5, .ref u0, m_7, m_8, m_9, m_10, m_11, m_12, m_13, m_14, m_15, m_16, m_17, m_18, m_19, .int 0, m_21, m_22, m_23, m_24, m_25, m_26, m_27, m_28, m_29, m_30, m_31, m_32, m_33, .int (u_3810.2.2.2.1 0), .ref e0, m_36, .ref q0, .int (u_3810.2.2.2.1 1), .long (u_3810.2.2.2.2.1 0), .long (u_3810.2.2.2.2.1 1), m_41, .ref le, .ref tf, .ref i3, m_45, m_46, m_47, m_48, m_49, m_50, m_51, m_52, m_53, m_54, m_55, m_56, m_57, m_58, m_59])), (w0, .inl (K 0, 5500, .inl (u_3810.2.1 0))), (e0, .inl (K 2, 13, .inr (.inl (u_3810.2.2.1 0)))), (q0, .inl (K 2, 400, .inr (.inl (u_3810.2.2.1 1)))), (u0, .inl (K 0, 558, .inl (u_3810.2.1 1))), (i3, .inl (K 1, 819, .inl (u_3810.2.1 2))), (tf, .inl (K 0, 819, .inl (u_3810.2.1 3))), (le, .inl (K 0, 273, .inl (u_3810.2.1 4)))]) [0, 1, 2, 3, 4, 5, 6, 7] rfl
              have hD9 := hD.sub (ws' := [(m0, .inr (12, [.int 0, m_1, m_2, .ref w0, m_4, m_5, .ref u0, m_7, m_8, m_9, m_10, m_11, m_12, m_13, m_14, m_15, m_16, m_17, m_18, m_19, .int 0, m_21, m_22, m_23, m_24, m_25, m_26, m_27, m_28, m_29, m_30, m_31, m_32, m_33, .int (u_3810.2.2.2.1 0), .ref e0, m_36, .ref q0, .int (u_3810.2.2.2.1 1), .long (u_3810.2.2.2.2.1 0), .long (u_3810.2.2.2.2.1 1), m_41, .ref le, .ref tf, .ref i3, m_45, m_46, m_47, m_48, m_49, m_50, m_51, m_52, m_53, m_54, m_55, m_56, m_57, m_58, m_59])), (w0, .inl (K 0, 5500, .inl (u_3810.2.1 0))), (e0, .inl (K 2, 13, .inr (.inl (u_3810.2.2.1 0)))), (q0, .inl (K 2, 400, .inr (.inl (u_3810.2.2.1 1)))), (u0, .inl (K 0, 558, .inl (u_3810.2.1 1))), (i3, .inl (K 1, 819, .inl (u_3810.2.1 2))), (tf, .inl (K 0, 819, .inl (u_3810.2.1 3))), (le, .inl (K 0, 273, .inl (u_3810.2.1 4)))]) [0, 1, 2, 3, 4, 5, 6, 7] (by decide) rfl
              exact W.iret (v := (-1)) hx hb hr (fun t ht hW => ⟨⟨(-1), ((fun _ => 0, fun i => match i with | 0 => (u_3810.2.1 0) | 1 => (u_3810.2.1 1) | 2 => (u_3810.2.1 2) | 3 => (u_3810.2.1 3) | _ => (u_3810.2.1 4), fun i => match i with | 0 => (u_3810.2.2.1 0) | _ => (u_3810.2.2.1 1), fun i => match i with | 0 => (u_3810.2.2.2.1 0) | _ => (u_3810.2.2.2.1 1), fun i => match i with | 0 => (u_3810.2.2.2.2.1 0) | _ => (u_3810.2.2.2.2.1 1), fun _ => fun _ => none) : Su), rfl, ⟨(show 0 ≤ ((u_3810.2.2.2.1 1) : Int32).toInt ∧ ((u_3810.2.2.2.1 1) : Int32).toInt ≤ 1 by omega), k_3812, k_3813, k_3814, k_3815, hE.symm, trivial⟩, (⟨by rw [ht]; exact hP9, hD9⟩ : Wd D A _ t)⟩, hS.F ht⟩) hS.2.2 dX12_least_118
          refine lv_icmp_eq (tgt := 94) hx hb dX12_least_85 (by decide) (fun c_4173 => ?_) (fun c_4173 => ?_)
          · have c_4173i := i_eq (x := x_3820.toInt) (y := 100000000) rfl rfl c_4173
            replace hE := hE.trans (if_pos c_4173)
            exact j_4169   hE _ _ hP hD hS ls (lv_sub hl [0, 1] rfl)
          · have c_4173i := i_ne (x := x_3820.toInt) (y := 100000000) rfl rfl c_4173
            replace hE := hE.trans (if_neg c_4173)
            refine lv_iload hx hb dX12_least_88 (lv_at hl 5 rfl) ?_
            refine lv_iconst (v := (-1)) hx hb dX12_least_90 (by decide) ?_
            refine lv_icmp_ne (tgt := 119) hx hb dX12_least_91 (by decide) (fun c_4174 => ?_) (fun c_4174 => ?_)
            · have c_4174i := i_ne (x := w.toInt) (y := (-1)) rfl rfl c_4174
              replace hE := hE.trans (if_neg c_4174)
              refine lv_iconst (v := 0) hx hb dX12_least_119 (by decide) ?_
              refine lv_istore (lv' := [(6, .int 0), (5, .int x_3819), (0, .ref m0), (1, .int x), (2, .int y), (3, .int z), (4, .int w)]) hx hb dX12_least_120 hl (by decide) rfl (fun ls hl => ?_)
              refine lv_iconst (v := 0) hx hb dX12_least_122 (by decide) ?_
              refine lv_istore (lv' := [(7, .int 0), (6, .int 0), (5, .int x_3819), (0, .ref m0), (1, .int x), (2, .int y), (3, .int z), (4, .int w)]) hx hb dX12_least_123 hl (by decide) rfl (fun ls hl => ?_)
              have lp_4461 : ∀ (nn_ : Nat) (v_4345 : Int32) (v_4346 : Int32) (v_4347 : Int32) (hv_4345 : 0 ≤ v_4345.toInt ∧ v_4345.toInt ≤ 12) (hv_4346 : 0 ≤ v_4346.toInt ∧ v_4346.toInt ≤ 2) (hv_4347 : 0 ≤ v_4347.toInt ∧ v_4347.toInt ≤ 20) (hn : (13 - v_4345.toInt : Int).toNat < nn_) (hE : E_v_least x y z w thr lw bro val sm fw fe frs fu fi ft fl = Lp (α := Int32 → Int32 → Int32 → (Int32 × Int32 × Int32 × Int64 × Int64 × (Nat → Int32) × (Nat → Int64) × (Nat → Int64) × (Nat → Int32) × (Nat → Int32) × (Nat → Int32) × (Nat → Int32))) (E_v_least_l125 w (u_3810.2.2.2.1 0) (u_3810.2.2.2.1 1) (u_3810.2.2.2.2.1 0) (u_3810.2.2.2.2.1 1) (u_3810.2.1 0) (u_3810.2.2.1 0) (u_3810.2.2.1 1) (u_3810.2.1 1) (u_3810.2.1 2) (u_3810.2.1 3) (u_3810.2.1 4)) (fun _ _ _ => ((0, 0, 0, 0, 0, fun _ => 0, fun _ => 0, fun _ => 0, fun _ => 0, fun _ => 0, fun _ => 0, fun _ => 0) : Int32 × Int32 × Int32 × Int64 × Int64 × (Nat → Int32) × (Nat → Int64) × (Nat → Int64) × (Nat → Int32) × (Nat → Int32) × (Nat → Int32) × (Nat → Int32))) nn_ v_4345 v_4346 v_4347) (H : Heap) (locs : List Loc) (hP : va_P D vwCl [(m0, .inr (12, [.int 0, m_1, m_2, .ref w0, m_4, m_5, .ref u0, m_7, m_8, m_9, m_10, m_11, m_12, m_13, m_14, m_15, m_16, m_17, m_18, m_19, .int 0, m_21, m_22, m_23, m_24, m_25, m_26, m_27, m_28, m_29, m_30, m_31, m_32, m_33, .int (u_3810.2.2.2.1 0), .ref e0, m_36, .ref q0, .int (u_3810.2.2.2.1 1), .long (u_3810.2.2.2.2.1 0), .long (u_3810.2.2.2.2.1 1), m_41, .ref le, .ref tf, .ref i3, m_45, m_46, m_47, m_48, m_49, m_50, m_51, m_52, m_53, m_54, m_55, m_56, m_57, m_58, m_59])), (w0, .inl (K 0, 5500, .inl (u_3810.2.1 0))), (e0, .inl (K 2, 13, .inr (.inl (u_3810.2.2.1 0)))), (q0, .inl (K 2, 400, .inr (.inl (u_3810.2.2.1 1)))), (u0, .inl (K 0, 558, .inl (u_3810.2.1 1))), (i3, .inl (K 1, 819, .inl (u_3810.2.1 2))), (tf, .inl (K 0, 819, .inl (u_3810.2.1 3))), (le, .inl (K 0, 273, .inl (u_3810.2.1 4)))] H) (hD : va_D A [(m0, .inr (12, [.int 0, m_1, m_2, .ref w0, m_4, m_5, .ref u0, m_7, m_8, m_9, m_10, m_11, m_12, m_13, m_14, m_15, m_16, m_17, m_18, m_19, .int 0, m_21, m_22, m_23, m_24, m_25, m_26, m_27, m_28, m_29, m_30, m_31, m_32, m_33, .int (u_3810.2.2.2.1 0), .ref e0, m_36, .ref q0, .int (u_3810.2.2.2.1 1), .long (u_3810.2.2.2.2.1 0), .long (u_3810.2.2.2.2.1 1), m_41, .ref le, .ref tf, .ref i3, m_45, m_46, m_47, m_48, m_49, m_50, m_51, m_52, m_53, m_54, m_55, m_56, m_57, m_58, m_59])), (w0, .inl (K 0, 5500, .inl (u_3810.2.1 0))), (e0, .inl (K 2, 13, .inr (.inl (u_3810.2.2.1 0)))), (q0, .inl (K 2, 400, .inr (.inl (u_3810.2.2.1 1)))), (u0, .inl (K 0, 558, .inl (u_3810.2.1 1))), (i3, .inl (K 1, 819, .inl (u_3810.2.1 2))), (tf, .inl (K 0, 819, .inl (u_3810.2.1 3))), (le, .inl (K 0, 273, .inl (u_3810.2.1 4)))]) (hS : va_S A s.heap H locs) (ls : Array Slot) (hl : lv_has ls 8 [(7, .int v_4345), (6, .int v_4346), (5, .int v_4347), (0, .ref m0), (4, .int w)]), W p l e ({ frames := 8, cells := 0, slots := 0, locals := 201 }) s m (([.ref m0, .int x, .int y, .int z, .int w] : List Value).toArray) below meth c H locs 0 0 Q (F0 m 125 ls []) := by
                intro nn_
                induction nn_ with
                | zero =>
                  intro v_4345 v_4346 v_4347 hv_4345 hv_4346 hv_4347 hn hE H locs hP hD hS ls hl
                  exact absurd hn (Nat.not_lt_zero _)
                | succ nn_ ih_4462 =>
                  intro v_4345 v_4346 v_4347 hv_4345 hv_4346 hv_4347 hn hE H locs hP hD hS ls hl
                  replace hE : E_v_least x y z w thr lw bro val sm fw fe frs fu fi ft fl = E_v_least_l125 w (u_3810.2.2.2.1 0) (u_3810.2.2.2.1 1) (u_3810.2.2.2.2.1 0) (u_3810.2.2.2.2.1 1) (u_3810.2.1 0) (u_3810.2.2.1 0) (u_3810.2.2.1 1) (u_3810.2.1 1) (u_3810.2.1 2) (u_3810.2.1 3) (u_3810.2.1 4) (Lp (α := Int32 → Int32 → Int32 → (Int32 × Int32 × Int32 × Int64 × Int64 × (Nat → Int32) × (Nat → Int64) × (Nat → Int64) × (Nat → Int32) × (Nat → Int32) × (Nat → Int32) × (Nat → Int32))) (E_v_least_l125 w (u_3810.2.2.2.1 0) (u_3810.2.2.2.1 1) (u_3810.2.2.2.2.1 0) (u_3810.2.2.2.2.1 1) (u_3810.2.1 0) (u_3810.2.2.1 0) (u_3810.2.2.1 1) (u_3810.2.1 1) (u_3810.2.1 2) (u_3810.2.1 3) (u_3810.2.1 4)) (fun _ _ _ => ((0, 0, 0, 0, 0, fun _ => 0, fun _ => 0, fun _ => 0, fun _ => 0, fun _ => 0, fun _ => 0, fun _ => 0) : Int32 × Int32 × Int32 × Int64 × Int64 × (Nat → Int32) × (Nat → Int64) × (Nat → Int64) × (Nat → Int32) × (Nat → Int32) × (Nat → Int32) × (Nat → Int32))) nn_) v_4345 v_4346 v_4347 := hE
                  obtain ⟨rec_4461, hrec_4461⟩ : ∃ z9, z9 = Lp (α := Int32 → Int32 → Int32 → (Int32 × Int32 × Int32 × Int64 × Int64 × (Nat → Int32) × (Nat → Int64) × (Nat → Int64) × (Nat → Int32) × (Nat → Int32) × (Nat → Int32) × (Nat → Int32))) (E_v_least_l125 w (u_3810.2.2.2.1 0) (u_3810.2.2.2.1 1) (u_3810.2.2.2.2.1 0) (u_3810.2.2.2.2.1 1) (u_3810.2.1 0) (u_3810.2.2.1 0) (u_3810.2.2.1 1) (u_3810.2.1 1) (u_3810.2.1 2) (u_3810.2.1 3) (u_3810.2.1 4)) (fun _ _ _ => ((0, 0, 0, 0, 0, fun _ => 0, fun _ => 0, fun _ => 0, fun _ => 0, fun _ => 0, fun _ => 0, fun _ => 0) : Int32 × Int32 × Int32 × Int64 × Int64 × (Nat → Int32) × (Nat → Int64) × (Nat → Int64) × (Nat → Int32) × (Nat → Int32) × (Nat → Int32) × (Nat → Int32))) nn_ := ⟨_, rfl⟩
                  rw [← hrec_4461] at hE
                  replace hE := hE.trans (E_v_least_l125.eq_def _ _ _ _ _ _ _ _ _ _ _ _ _ _ _ _)
                  refine lv_iload hx hb dX12_least_125 (lv_at hl 0 rfl) ?_
                  refine lv_iload hx hb dX12_least_127 (lv_at hl 4 rfl) ?_
                  refine lv_icmp_gt (tgt := 193) hx hb dX12_least_129 (by decide) (fun c_4463 => ?_) (fun c_4463 => ?_)
                  · have c_4463i := i_lt (x := w.toInt) (y := v_4345.toInt) rfl rfl c_4463
                    replace hE := hE.trans (if_pos c_4463)
                    refine lv_iload hx hb dX12_least_193 (lv_at hl 1 rfl) ?_
                    rw [← hQ]
                    have hP9 := hP.sub (ws' := [(m0, .inr (12, [.int 0, m_1, m_2, .ref w0, m_4, m_5, .ref u0, m_7, m_8, m_9, m_10, m_11, m_12, m_13, m_14, m_15, m_16, m_17, m_18, m_19, .int 0, m_21, m_22, m_23, m_24, m_25, m_26, m_27, m_28, m_29, m_30, m_31, m_32, m_33, .int (u_3810.2.2.2.1 0), .ref e0, m_36, .ref q0, .int (u_3810.2.2.2.1 1), .long (u_3810.2.2.2.2.1 0), .long (u_3810.2.2.2.2.1 1), m_41, .ref le, .ref tf, .ref i3, m_45, m_46, m_47, m_48, m_49, m_50, m_51, m_52, m_53, m_54, m_55, m_56, m_57, m_58, m_59])), (w0, .inl (K 0, 5500, .inl (u_3810.2.1 0))), (e0, .inl (K 2, 13, .inr (.inl (u_3810.2.2.1 0)))), (q0, .inl (K 2, 400, .inr (.inl (u_3810.2.2.1 1)))), (u0, .inl (K 0, 558, .inl (u_3810.2.1 1))), (i3, .inl (K 1, 819, .inl (u_3810.2.1 2))), (tf, .inl (K 0, 819, .inl (u_3810.2.1 3))), (le, .inl (K 0, 273, .inl (u_3810.2.1 4)))]) [0, 1, 2, 3, 4, 5, 6, 7] rfl
                    have hD9 := hD.sub (ws' := [(m0, .inr (12, [.int 0, m_1, m_2, .ref w0, m_4, m_5, .ref u0, m_7, m_8, m_9, m_10, m_11, m_12, m_13, m_14, m_15, m_16, m_17, m_18, m_19, .int 0, m_21, m_22, m_23, m_24, m_25, m_26, m_27, m_28, m_29, m_30, m_31, m_32, m_33, .int (u_3810.2.2.2.1 0), .ref e0, m_36, .ref q0, .int (u_3810.2.2.2.1 1), .long (u_3810.2.2.2.2.1 0), .long (u_3810.2.2.2.2.1 1), m_41, .ref le, .ref tf, .ref i3, m_45, m_46, m_47, m_48, m_49, m_50, m_51, m_52, m_53, m_54, m_55, m_56, m_57, m_58, m_59])), (w0, .inl (K 0, 5500, .inl (u_3810.2.1 0))), (e0, .inl (K 2, 13, .inr (.inl (u_3810.2.2.1 0)))), (q0, .inl (K 2, 400, .inr (.inl (u_3810.2.2.1 1)))), (u0, .inl (K 0, 558, .inl (u_3810.2.1 1))), (i3, .inl (K 1, 819, .inl (u_3810.2.1 2))), (tf, .inl (K 0, 819, .inl (u_3810.2.1 3))), (le, .inl (K 0, 273, .inl (u_3810.2.1 4)))]) [0, 1, 2, 3, 4, 5, 6, 7] (by decide) rfl
                    exact W.iret (v := v_4346) hx hb hr (fun t ht hW => ⟨⟨v_4346, ((fun _ => 0, fun i => match i with | 0 => (u_3810.2.1 0) | 1 => (u_3810.2.1 1) | 2 => (u_3810.2.1 2) | 3 => (u_3810.2.1 3) | _ => (u_3810.2.1 4), fun i => match i with | 0 => (u_3810.2.2.1 0) | _ => (u_3810.2.2.1 1), fun i => match i with | 0 => (u_3810.2.2.2.1 0) | _ => (u_3810.2.2.2.1 1), fun i => match i with | 0 => (u_3810.2.2.2.2.1 0) | _ => (u_3810.2.2.2.2.1 1), fun _ => fun _ => none) : Su), rfl, ⟨(show 0 ≤ ((u_3810.2.2.2.1 1) : Int32).toInt ∧ ((u_3810.2.2.2.1 1) : Int32).toInt ≤ 1 by omega), k_3812, k_3813, k_3814, k_3815, hE.symm, trivial⟩, (⟨by rw [ht]; exact hP9, hD9⟩ : Wd D A _ t)⟩, hS.F ht⟩) hS.2.2 dX12_least_195
                  · have c_4463i := i_nlt (x := w.toInt) (y := v_4345.toInt) rfl rfl c_4463
                    replace hE := hE.trans (if_neg c_4463)
                    refine lv_iconst (v := 0) hx hb dX12_least_132 (by decide) ?_
                    refine lv_istore (lv' := [(6, .int 0), (7, .int v_4345), (5, .int v_4347), (0, .ref m0), (4, .int w)]) hx hb dX12_least_133 hl (by decide) rfl (fun ls hl => ?_)
                    have lp_4502 : ∀ (nn_ : Nat) (v_4486 : Int32) (hv_4486 : 0 ≤ v_4486.toInt ∧ v_4486.toInt ≤ 2) (hr0_lp_4502 : WLe (u_3810.2.1 2) (u_3810.2.1 3) (u_3810.2.1 4) v_4345.toInt v_4347.toInt v_4486.toInt) (hn : (3 - v_4486.toInt : Int).toNat < nn_) (hE : E_v_least x y z w thr lw bro val sm fw fe frs fu fi ft fl = Lp (α := Int32 → (Int32 × Int32 × Int32 × Int64 × Int64 × (Nat → Int32) × (Nat → Int64) × (Nat → Int64) × (Nat → Int32) × (Nat → Int32) × (Nat → Int32) × (Nat → Int32))) (E_v_least_l135 (u_3810.2.1 2) (u_3810.2.1 3) (u_3810.2.1 4) v_4345 v_4347 rec_4461) (fun _ => ((0, 0, 0, 0, 0, fun _ => 0, fun _ => 0, fun _ => 0, fun _ => 0, fun _ => 0, fun _ => 0, fun _ => 0) : Int32 × Int32 × Int32 × Int64 × Int64 × (Nat → Int32) × (Nat → Int64) × (Nat → Int64) × (Nat → Int32) × (Nat → Int32) × (Nat → Int32) × (Nat → Int32))) nn_ v_4486) (H : Heap) (locs : List Loc) (hP : va_P D vwCl [(m0, .inr (12, [.int 0, m_1, m_2, .ref w0, m_4, m_5, .ref u0, m_7, m_8, m_9, m_10, m_11, m_12, m_13, m_14, m_15, m_16, m_17, m_18, m_19, .int 0, m_21, m_22, m_23, m_24, m_25, m_26, m_27, m_28, m_29, m_30, m_31, m_32, m_33, .int (u_3810.2.2.2.1 0), .ref e0, m_36, .ref q0, .int (u_3810.2.2.2.1 1), .long (u_3810.2.2.2.2.1 0), .long (u_3810.2.2.2.2.1 1), m_41, .ref le, .ref tf, .ref i3, m_45, m_46, m_47, m_48, m_49, m_50, m_51, m_52, m_53, m_54, m_55, m_56, m_57, m_58, m_59])), (w0, .inl (K 0, 5500, .inl (u_3810.2.1 0))), (e0, .inl (K 2, 13, .inr (.inl (u_3810.2.2.1 0)))), (q0, .inl (K 2, 400, .inr (.inl (u_3810.2.2.1 1)))), (u0, .inl (K 0, 558, .inl (u_3810.2.1 1))), (i3, .inl (K 1, 819, .inl (u_3810.2.1 2))), (tf, .inl (K 0, 819, .inl (u_3810.2.1 3))), (le, .inl (K 0, 273, .inl (u_3810.2.1 4)))] H) (hD : va_D A [(m0, .inr (12, [.int 0, m_1, m_2, .ref w0, m_4, m_5, .ref u0, m_7, m_8, m_9, m_10, m_11, m_12, m_13, m_14, m_15, m_16, m_17, m_18, m_19, .int 0, m_21, m_22, m_23, m_24, m_25, m_26, m_27, m_28, m_29, m_30, m_31, m_32, m_33, .int (u_3810.2.2.2.1 0), .ref e0, m_36, .ref q0, .int (u_3810.2.2.2.1 1), .long (u_3810.2.2.2.2.1 0), .long (u_3810.2.2.2.2.1 1), m_41, .ref le, .ref tf, .ref i3, m_45, m_46, m_47, m_48, m_49, m_50, m_51, m_52, m_53, m_54, m_55, m_56, m_57, m_58, m_59])), (w0, .inl (K 0, 5500, .inl (u_3810.2.1 0))), (e0, .inl (K 2, 13, .inr (.inl (u_3810.2.2.1 0)))), (q0, .inl (K 2, 400, .inr (.inl (u_3810.2.2.1 1)))), (u0, .inl (K 0, 558, .inl (u_3810.2.1 1))), (i3, .inl (K 1, 819, .inl (u_3810.2.1 2))), (tf, .inl (K 0, 819, .inl (u_3810.2.1 3))), (le, .inl (K 0, 273, .inl (u_3810.2.1 4)))]) (hS : va_S A s.heap H locs) (ls : Array Slot) (hl : lv_has ls 8 [(6, .int v_4486), (7, .int v_4345), (5, .int v_4347), (0, .ref m0), (4, .int w)]), W p l e ({ frames := 8, cells := 0, slots := 0, locals := 201 }) s m (([.ref m0, .int x, .int y, .int z, .int w] : List Value).toArray) below meth c H locs 0 0 Q (F0 m 135 ls []) := by
                      intro nn_
                      induction nn_ with
                      | zero =>
                        intro v_4486 hv_4486 hr0_lp_4502 hn hE H locs hP hD hS ls hl
                        exact absurd hn (Nat.not_lt_zero _)
                      | succ nn_ ih_4503 =>
                        intro v_4486 hv_4486 hr0_lp_4502 hn hE H locs hP hD hS ls hl
                        replace hE : E_v_least x y z w thr lw bro val sm fw fe frs fu fi ft fl = E_v_least_l135 (u_3810.2.1 2) (u_3810.2.1 3) (u_3810.2.1 4) v_4345 v_4347 rec_4461 (Lp (α := Int32 → (Int32 × Int32 × Int32 × Int64 × Int64 × (Nat → Int32) × (Nat → Int64) × (Nat → Int64) × (Nat → Int32) × (Nat → Int32) × (Nat → Int32) × (Nat → Int32))) (E_v_least_l135 (u_3810.2.1 2) (u_3810.2.1 3) (u_3810.2.1 4) v_4345 v_4347 rec_4461) (fun _ => ((0, 0, 0, 0, 0, fun _ => 0, fun _ => 0, fun _ => 0, fun _ => 0, fun _ => 0, fun _ => 0, fun _ => 0) : Int32 × Int32 × Int32 × Int64 × Int64 × (Nat → Int32) × (Nat → Int64) × (Nat → Int64) × (Nat → Int32) × (Nat → Int32) × (Nat → Int32) × (Nat → Int32))) nn_) v_4486 := hE
                        obtain ⟨rec_4502, hrec_4502⟩ : ∃ z9, z9 = Lp (α := Int32 → (Int32 × Int32 × Int32 × Int64 × Int64 × (Nat → Int32) × (Nat → Int64) × (Nat → Int64) × (Nat → Int32) × (Nat → Int32) × (Nat → Int32) × (Nat → Int32))) (E_v_least_l135 (u_3810.2.1 2) (u_3810.2.1 3) (u_3810.2.1 4) v_4345 v_4347 rec_4461) (fun _ => ((0, 0, 0, 0, 0, fun _ => 0, fun _ => 0, fun _ => 0, fun _ => 0, fun _ => 0, fun _ => 0, fun _ => 0) : Int32 × Int32 × Int32 × Int64 × Int64 × (Nat → Int32) × (Nat → Int64) × (Nat → Int64) × (Nat → Int32) × (Nat → Int32) × (Nat → Int32) × (Nat → Int32))) nn_ := ⟨_, rfl⟩
                        rw [← hrec_4502] at hE
                        replace hE := hE.trans (E_v_least_l135.eq_def _ _ _ _ _ _ _ _)
                        refine lv_aload_n hx hb dX12_least_135 rfl (lv_at hl 3 rfl) ?_
                        refine lv_iload hx hb dX12_least_136 (lv_at hl 1 rfl) ?_
                        refine lv_iload hx hb dX12_least_138 (lv_at hl 2 rfl) ?_
                        refine lv_iload hx hb dX12_least_140 (lv_at hl 0 rfl) ?_
                        refine pci (va_runV (As := [.int v_4345, .int v_4347, .int v_4486]) (rest := []) ⟨hx, hb, hml, hown, hts⟩ (v_coalBy l D K m0 v_4345 v_4347 v_4486 (.int 0) m_1 m_2 (.ref w0) m_4 m_5 (.ref u0) m_7 m_8 m_9 m_10 m_11 m_12 m_13 m_14 m_15 m_16 m_17 m_18 m_19 (.int 0) m_21 m_22 m_23 m_24 m_25 m_26 m_27 m_28 m_29 m_30 m_31 m_32 m_33 (.int (u_3810.2.2.2.1 0)) (.ref e0) m_36 (.ref q0) (.int (u_3810.2.2.2.1 1)) (.long (u_3810.2.2.2.2.1 0)) (.long (u_3810.2.2.2.2.1 1)) m_41 le tf i3 m_45 m_46 m_47 m_48 m_49 m_50 m_51 m_52 m_53 m_54 m_55 m_56 m_57 m_58 m_59 (u_3810.2.1 2) (u_3810.2.1 3) (u_3810.2.1 4) H.size (by first | omega | decide) (by first | omega | decide) (by first | omega | decide) k_3815) (cwV 3 hts gX12_least_X12_coalBy rfl rfl rfl (by decide +kernel) ⟨Nat.le_of_ble_eq_true rfl, Nat.le_of_ble_eq_true rfl⟩) (mkV hK hN (hP.sub [0, 5, 6, 7] rfl) (hD.sub [0, 5, 6, 7] (by decide) rfl) (ci := 12) (q0 := 0) rfl rfl) rfl rfl hl.1 rfl (lv_room (Nat.le_of_ble_eq_true rfl)) dX12_least_142 ⟨Nat.le_of_ble_eq_true rfl, Nat.le_of_ble_eq_true rfl⟩) (fun r_4504 hw => ?_)
                        obtain ⟨hw, k_4505⟩ := hw
                        replace hE := hE.trans (Lt_in k_4505)
                        obtain ⟨⟨hcb_r_4504, hcr_r_4504⟩, -⟩ := hw
                        refine lv_aload_n hx hb dX12_least_145 rfl (lv_at hl 3 rfl) ?_
                        refine va_get (ci := 12) (v := .ref le) (C := RX12) (T := TX12) (N := 60) hx hb hts hw12 hown hK hP 0 rfl rfl 42 (by decide) (hts (.fieldLink RX12 111 "SmokeTuneModel" "least" "[I") (List.mem_cons_of_mem _ (List.mem_append_left _ (List.mem_append_left _ (List.mem_of_getElem? (i := 4) rfl))))) (fun _ h9 => h9) rfl dX12_least_146 ?_
                        refine lv_bipush (v := 21) hx hb dX12_least_149 (by decide) ?_
                        refine lv_iload hx hb dX12_least_151 (lv_at hl 1 rfl) ?_
                        refine lv_imul hx hb dX12_least_153 ?_
                        refine lv_topi (fun x_4506 ex_4506 => ?_)
                        replace hE := hE.trans (Lt_in ex_4506)
                        have hx_4506 : x_4506.toInt = (21 * v_4345.toInt) := by rw [ex_4506]; exact i_mul (show (21 : Int32).toInt = 21 from rfl) rfl (by omega)
                        refine lv_iload hx hb dX12_least_154 (lv_at hl 2 rfl) ?_
                        refine lv_iadd hx hb dX12_least_156 ?_
                        refine lv_topi (fun x_4507 ex_4507 => ?_)
                        replace hE := hE.trans (Lt_in ex_4507)
                        have hx_4507 : x_4507.toInt = ((21 * v_4345.toInt) + v_4347.toInt) := by rw [ex_4507]; exact i_add hx_4506 rfl (by omega)
                        refine va_iald hx hb hK hP 7 0 rfl rfl (i_in hx_4507 (by omega)) dX12_least_157 ?_
                        refine lv_topi (fun x_4508 ex_4508 => ?_)
                        replace hE := hE.trans (Lt_in ex_4508)
                        have owx_4508 : x_4508.toInt = ((u_3810.2.1 4) (21 * v_4345.toInt + v_4347.toInt).toNat).toInt := by rw [ex_4508, i_clamp hx_4507]
                        refine lv_icmp_eq (tgt := 167) hx hb dX12_least_158 (by decide) (fun c_4509 => ?_) (fun c_4509 => ?_)
                        · have c_4509i := i_eq (x := r_4504.toInt) (y := x_4508.toInt) rfl rfl c_4509
                          replace hE := hE.trans (if_pos c_4509)
                          refine lv_aload_n hx hb dX12_least_167 rfl (lv_at hl 3 rfl) ?_
                          refine va_get (ci := 12) (v := .ref tf) (C := RX12) (T := TX12) (N := 60) hx hb hts hw12 hown hK hP 0 rfl rfl 43 (by decide) (hts (.fieldLink RX12 114 "SmokeTuneModel" "thenFire" "[I") (List.mem_cons_of_mem _ (List.mem_append_left _ (List.mem_append_left _ (List.mem_of_getElem? (i := 6) rfl))))) (fun _ h9 => h9) rfl dX12_least_168 ?_
                          refine lv_bipush (v := 63) hx hb dX12_least_171 (by decide) ?_
                          refine lv_iload hx hb dX12_least_173 (lv_at hl 1 rfl) ?_
                          refine lv_imul hx hb dX12_least_175 ?_
                          refine lv_topi (fun x_4510 ex_4510 => ?_)
                          replace hE := hE.trans (Lt_in ex_4510)
                          have hx_4510 : x_4510.toInt = (63 * v_4345.toInt) := by rw [ex_4510]; exact i_mul (show (63 : Int32).toInt = 63 from rfl) rfl (by omega)
                          refine lv_iconst (v := 3) hx hb dX12_least_176 (by decide) ?_
                          refine lv_iload hx hb dX12_least_177 (lv_at hl 2 rfl) ?_
                          refine lv_imul hx hb dX12_least_179 ?_
                          refine lv_topi (fun x_4511 ex_4511 => ?_)
                          replace hE := hE.trans (Lt_in ex_4511)
                          have hx_4511 : x_4511.toInt = (3 * v_4347.toInt) := by rw [ex_4511]; exact i_mul (show (3 : Int32).toInt = 3 from rfl) rfl (by omega)
                          refine lv_iadd hx hb dX12_least_180 ?_
                          refine lv_topi (fun x_4512 ex_4512 => ?_)
                          replace hE := hE.trans (Lt_in ex_4512)
                          have hx_4512 : x_4512.toInt = ((63 * v_4345.toInt) + (3 * v_4347.toInt)) := by rw [ex_4512]; exact i_add hx_4510 hx_4511 (by omega)
                          refine lv_iload hx hb dX12_least_181 (lv_at hl 0 rfl) ?_
                          refine lv_iadd hx hb dX12_least_183 ?_
                          refine lv_topi (fun x_4513 ex_4513 => ?_)
                          replace hE := hE.trans (Lt_in ex_4513)
                          have hx_4513 : x_4513.toInt = (((63 * v_4345.toInt) + (3 * v_4347.toInt)) + v_4486.toInt) := by rw [ex_4513]; exact i_add hx_4512 rfl (by omega)
                          refine va_iald hx hb hK hP 6 0 rfl rfl (i_in hx_4513 (by omega)) dX12_least_184 ?_
                          refine lv_topi (fun x_4514 ex_4514 => ?_)
                          replace hE := hE.trans (Lt_in ex_4514)
                          have hx_4514 := Rg.at k_3815 hx_4513 (show 0 ≤ (((63 * v_4345.toInt) + (3 * v_4347.toInt)) + v_4486.toInt) ∧ (((63 * v_4345.toInt) + (3 * v_4347.toInt)) + v_4486.toInt) < _ by omega)
                          rw [← ex_4514] at hx_4514
                          refine lv_istore (lv' := [(5, .int x_4514), (6, .int v_4486), (7, .int v_4345), (0, .ref m0), (4, .int w)]) hx hb dX12_least_185 hl (by decide) rfl (fun ls hl => ?_)
                          obtain ⟨x_4515, ex_4515⟩ : ∃ y : Int32, y = v_4345 + Int32.ofInt 1 := ⟨_, rfl⟩
                          replace hE := hE.trans (Lt_in ex_4515)
                          have hx_4515 : x_4515.toInt = (v_4345.toInt + 1) := by rw [ex_4515]; exact i_add rfl (show (Int32.ofInt 1).toInt = 1 from rfl) (by omega)
                          refine lv_iinc (v := x_4515) (lv' := [(7, .int x_4515), (5, .int x_4514), (6, .int v_4486), (0, .ref m0), (4, .int w)]) hx hb dX12_least_187 hl (k := 2) rfl (by rw [ex_4515]) (by decide) rfl (fun ls hl => ?_)
                          refine lv_goto (tgt := 125) hx hb dX12_least_190 (by decide) ?_
                          exact ih_4462 x_4515 v_4486 x_4514 (by rw [hx_4515]; omega) (by omega) (by omega) (by omega) (hE.trans (by rw [hrec_4461])) _ _ hP hD hS ls (lv_sub hl [0, 2, 1, 3, 4] rfl)
                        · have c_4509i := i_ne (x := r_4504.toInt) (y := x_4508.toInt) rfl rfl c_4509
                          replace hE := hE.trans (if_neg c_4509)
                          obtain ⟨hwn1, hwn2⟩ := WLe.next hr0_lp_4502 hcb_r_4504 owx_4508 (by omega)
                          obtain ⟨x_4516, ex_4516⟩ : ∃ y : Int32, y = v_4486 + Int32.ofInt 1 := ⟨_, rfl⟩
                          replace hE := hE.trans (Lt_in ex_4516)
                          have hx_4516 : x_4516.toInt = (v_4486.toInt + 1) := by rw [ex_4516]; exact i_add rfl (show (Int32.ofInt 1).toInt = 1 from rfl) (by omega)
                          refine lv_iinc (v := x_4516) (lv' := [(6, .int x_4516), (7, .int v_4345), (5, .int v_4347), (0, .ref m0), (4, .int w)]) hx hb dX12_least_161 hl (k := 0) rfl (by rw [ex_4516]) (by decide) rfl (fun ls hl => ?_)
                          refine lv_goto (tgt := 135) hx hb dX12_least_164 (by decide) ?_
                          exact ih_4503 x_4516 (by rw [hx_4516]; omega) (show WLe (u_3810.2.1 2) (u_3810.2.1 3) (u_3810.2.1 4) v_4345.toInt v_4347.toInt (x_4516 : Int32).toInt by rw [hx_4516]; exact hwn2) (by omega) (hE.trans (by rw [hrec_4502])) _ _ hP hD hS ls (lv_sub hl [0, 1, 2, 3, 4] rfl)
                    have hz_4517 : (0 : Int32).toInt = 0 := rfl
                    exact lp_4502 ((3 - (0 : Int32).toInt : Int).toNat + 1) 0 (by decide) (show WLe (u_3810.2.1 2) (u_3810.2.1 3) (u_3810.2.1 4) v_4345.toInt v_4347.toInt (0 : Int32).toInt by exact WLe.base (n := y.toInt) k_3816 (by omega) (by omega)) (Nat.lt_succ_self _) hE _ _ hP hD hS ls (lv_sub hl [0, 1, 2, 3, 4] rfl)
              exact lp_4461 ((13 - (0 : Int32).toInt : Int).toNat + 1) 0 0 x_3819 (by decide) (by decide) (by omega) (Nat.lt_succ_self _) hE _ _ hP hD hS ls (lv_sub hl [0, 1, 2, 3, 7] rfl)
            · have c_4174i := i_eq (x := w.toInt) (y := (-1)) rfl rfl c_4174
              replace hE := hE.trans (if_pos c_4174)
              exact j_4169   hE _ _ hP hD hS ls (lv_sub hl [0, 1] rfl)
        · replace hE := (hE).trans (if_neg (by first | decide | (intro h9; have h8 := congrArg Int32.toInt h9; omega)))
          refine lv_if_ne (tgt := 57) hx hb dX12_least_52 (by decide) (fun c_4518 => absurd (by decide) c_4518) (fun c_4518 => ?_)
          exact j_3778   hE _ _ hP hD hS ls (lv_sub hl [] rfl)
      · replace hE := (hE).trans (if_neg (by first | decide | (intro h9; have h8 := congrArg Int32.toInt h9; omega)))
        refine lv_if_eq (tgt := 55) hx hb dX12_least_36 (by decide) (fun c_4519 => ?_) (fun c_4519 => absurd (by decide) c_4519)
        exact j_3778   hE _ _ hP hD hS ls (lv_sub hl [] rfl)
    · replace hE := (hE).trans (if_neg (by first | decide | (intro h9; have h8 := congrArg Int32.toInt h9; omega)))
      refine lv_if_eq (tgt := 55) hx hb dX12_least_22 (by decide) (fun c_4520 => ?_) (fun c_4520 => absurd (by decide) c_4520)
      exact j_3778   hE _ _ hP hD hS ls (lv_sub hl [] rfl)
  · replace hE := (hE).trans (if_neg (by first | decide | (intro h9; have h8 := congrArg Int32.toInt h9; omega)))
    refine lv_if_eq (tgt := 55) hx hb dX12_least_10 (by decide) (fun c_4521 => ?_) (fun c_4521 => absurd (by decide) c_4521)
    exact j_3778   hE _ _ hP hD hS ls (lv_sub hl [] rfl)
