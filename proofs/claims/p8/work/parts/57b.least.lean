theorem dX12_layLeast_0 : decode cX12_layLeast 0 = .ok (.aload_n 0, 1) := by decide +kernel
theorem dX12_layLeast_1 : decode cX12_layLeast 1 = .ok (.bipush 16, 2) := by decide +kernel
theorem dX12_layLeast_3 : decode cX12_layLeast 3 = .ok (.invokevirtual 167, 3) := by decide +kernel
theorem dX12_layLeast_6 : decode cX12_layLeast 6 = .ok (.iconst 0, 1) := by decide +kernel
theorem dX12_layLeast_7 : decode cX12_layLeast 7 = .ok (.istore 4, 2) := by decide +kernel
theorem dX12_layLeast_9 : decode cX12_layLeast 9 = .ok (.iload 4, 2) := by decide +kernel
theorem dX12_layLeast_11 : decode cX12_layLeast 11 = .ok (.iload_n 2, 1) := by decide +kernel
theorem dX12_layLeast_12 : decode cX12_layLeast 12 = .ok (.if_icmp .ge 27, 3) := by decide +kernel
theorem dX12_layLeast_15 : decode cX12_layLeast 15 = .ok (.aload_n 0, 1) := by decide +kernel
theorem dX12_layLeast_16 : decode cX12_layLeast 16 = .ok (.iload_n 1, 1) := by decide +kernel
theorem dX12_layLeast_17 : decode cX12_layLeast 17 = .ok (.iload 4, 2) := by decide +kernel
theorem dX12_layLeast_19 : decode cX12_layLeast 19 = .ok (.iload_n 3, 1) := by decide +kernel
theorem dX12_layLeast_20 : decode cX12_layLeast 20 = .ok (.iload 4, 2) := by decide +kernel
theorem dX12_layLeast_22 : decode cX12_layLeast 22 = .ok (.invokestatic 436, 3) := by decide +kernel
theorem dX12_layLeast_25 : decode cX12_layLeast 25 = .ok (.invokevirtual 477, 3) := by decide +kernel
theorem dX12_layLeast_28 : decode cX12_layLeast 28 = .ok (.aload_n 0, 1) := by decide +kernel
theorem dX12_layLeast_29 : decode cX12_layLeast 29 = .ok (.iconst 1, 1) := by decide +kernel
theorem dX12_layLeast_30 : decode cX12_layLeast 30 = .ok (.invokevirtual 481, 3) := by decide +kernel
theorem dX12_layLeast_33 : decode cX12_layLeast 33 = .ok (.iinc 4 1, 3) := by decide +kernel
theorem dX12_layLeast_36 : decode cX12_layLeast 36 = .ok (.goto (-27), 3) := by decide +kernel
theorem dX12_layLeast_39 : decode cX12_layLeast 39 = .ok (.aload_n 0, 1) := by decide +kernel
theorem dX12_layLeast_40 : decode cX12_layLeast 40 = .ok (.bipush 16, 2) := by decide +kernel
theorem dX12_layLeast_42 : decode cX12_layLeast 42 = .ok (.invokevirtual 175, 3) := by decide +kernel
theorem dX12_layLeast_45 : decode cX12_layLeast 45 = .ok (.iconst 0, 1) := by decide +kernel
theorem dX12_layLeast_46 : decode cX12_layLeast 46 = .ok (.istore 4, 2) := by decide +kernel
theorem dX12_layLeast_48 : decode cX12_layLeast 48 = .ok (.iload 4, 2) := by decide +kernel
theorem dX12_layLeast_50 : decode cX12_layLeast 50 = .ok (.bipush 20, 2) := by decide +kernel
theorem dX12_layLeast_52 : decode cX12_layLeast 52 = .ok (.if_icmp .gt 22, 3) := by decide +kernel
theorem dX12_layLeast_55 : decode cX12_layLeast 55 = .ok (.aload_n 0, 1) := by decide +kernel
theorem dX12_layLeast_56 : decode cX12_layLeast 56 = .ok (.getfield 111, 3) := by decide +kernel
theorem dX12_layLeast_59 : decode cX12_layLeast 59 = .ok (.bipush 21, 2) := by decide +kernel
theorem dX12_layLeast_61 : decode cX12_layLeast 61 = .ok (.iload_n 2, 1) := by decide +kernel
theorem dX12_layLeast_62 : decode cX12_layLeast 62 = .ok (.imul, 1) := by decide +kernel
theorem dX12_layLeast_63 : decode cX12_layLeast 63 = .ok (.iload 4, 2) := by decide +kernel
theorem dX12_layLeast_65 : decode cX12_layLeast 65 = .ok (.iadd, 1) := by decide +kernel
theorem dX12_layLeast_66 : decode cX12_layLeast 66 = .ok (.iconst 0, 1) := by decide +kernel
theorem dX12_layLeast_67 : decode cX12_layLeast 67 = .ok (.iastore, 1) := by decide +kernel
theorem dX12_layLeast_68 : decode cX12_layLeast 68 = .ok (.iinc 4 1, 3) := by decide +kernel
theorem dX12_layLeast_71 : decode cX12_layLeast 71 = .ok (.goto (-23), 3) := by decide +kernel
theorem dX12_layLeast_74 : decode cX12_layLeast 74 = .ok (.iload_n 2, 1) := by decide +kernel
theorem dX12_layLeast_75 : decode cX12_layLeast 75 = .ok (.iconst 1, 1) := by decide +kernel
theorem dX12_layLeast_76 : decode cX12_layLeast 76 = .ok (.isub, 1) := by decide +kernel
theorem dX12_layLeast_77 : decode cX12_layLeast 77 = .ok (.istore 4, 2) := by decide +kernel
theorem dX12_layLeast_79 : decode cX12_layLeast 79 = .ok (.iload 4, 2) := by decide +kernel
theorem dX12_layLeast_81 : decode cX12_layLeast 81 = .ok (.ifCond .lt 88, 3) := by decide +kernel
theorem dX12_layLeast_84 : decode cX12_layLeast 84 = .ok (.iconst 0, 1) := by decide +kernel
theorem dX12_layLeast_85 : decode cX12_layLeast 85 = .ok (.istore 5, 2) := by decide +kernel
theorem dX12_layLeast_87 : decode cX12_layLeast 87 = .ok (.iload 5, 2) := by decide +kernel
theorem dX12_layLeast_89 : decode cX12_layLeast 89 = .ok (.bipush 20, 2) := by decide +kernel
theorem dX12_layLeast_91 : decode cX12_layLeast 91 = .ok (.if_icmp .gt 72, 3) := by decide +kernel
theorem dX12_layLeast_94 : decode cX12_layLeast 94 = .ok (.ldc_w 476, 3) := by decide +kernel
theorem dX12_layLeast_97 : decode cX12_layLeast 97 = .ok (.istore 6, 2) := by decide +kernel
theorem dX12_layLeast_99 : decode cX12_layLeast 99 = .ok (.iconst 0, 1) := by decide +kernel
theorem dX12_layLeast_100 : decode cX12_layLeast 100 = .ok (.istore 7, 2) := by decide +kernel
theorem dX12_layLeast_102 : decode cX12_layLeast 102 = .ok (.iload 7, 2) := by decide +kernel
theorem dX12_layLeast_104 : decode cX12_layLeast 104 = .ok (.iconst 3, 1) := by decide +kernel
theorem dX12_layLeast_105 : decode cX12_layLeast 105 = .ok (.if_icmp .ge 37, 3) := by decide +kernel
theorem dX12_layLeast_108 : decode cX12_layLeast 108 = .ok (.aload_n 0, 1) := by decide +kernel
theorem dX12_layLeast_109 : decode cX12_layLeast 109 = .ok (.iload 4, 2) := by decide +kernel
theorem dX12_layLeast_111 : decode cX12_layLeast 111 = .ok (.iload 5, 2) := by decide +kernel
theorem dX12_layLeast_113 : decode cX12_layLeast 113 = .ok (.iload 7, 2) := by decide +kernel
theorem dX12_layLeast_115 : decode cX12_layLeast 115 = .ok (.invokevirtual 484, 3) := by decide +kernel
theorem dX12_layLeast_118 : decode cX12_layLeast 118 = .ok (.istore 8, 2) := by decide +kernel
theorem dX12_layLeast_120 : decode cX12_layLeast 120 = .ok (.iload 8, 2) := by decide +kernel
theorem dX12_layLeast_122 : decode cX12_layLeast 122 = .ok (.iload 6, 2) := by decide +kernel
theorem dX12_layLeast_124 : decode cX12_layLeast 124 = .ok (.if_icmp .ge 8, 3) := by decide +kernel
theorem dX12_layLeast_132 : decode cX12_layLeast 132 = .ok (.iload 6, 2) := by decide +kernel
theorem dX12_layLeast_134 : decode cX12_layLeast 134 = .ok (.istore 6, 2) := by decide +kernel
theorem dX12_layLeast_136 : decode cX12_layLeast 136 = .ok (.iinc 7 1, 3) := by decide +kernel
theorem dX12_layLeast_139 : decode cX12_layLeast 139 = .ok (.goto (-37), 3) := by decide +kernel
theorem dX12_layLeast_127 : decode cX12_layLeast 127 = .ok (.iload 8, 2) := by decide +kernel
theorem dX12_layLeast_129 : decode cX12_layLeast 129 = .ok (.goto 5, 3) := by decide +kernel
theorem dX12_layLeast_142 : decode cX12_layLeast 142 = .ok (.aload_n 0, 1) := by decide +kernel
theorem dX12_layLeast_143 : decode cX12_layLeast 143 = .ok (.getfield 111, 3) := by decide +kernel
theorem dX12_layLeast_146 : decode cX12_layLeast 146 = .ok (.bipush 21, 2) := by decide +kernel
theorem dX12_layLeast_148 : decode cX12_layLeast 148 = .ok (.iload 4, 2) := by decide +kernel
theorem dX12_layLeast_150 : decode cX12_layLeast 150 = .ok (.imul, 1) := by decide +kernel
theorem dX12_layLeast_151 : decode cX12_layLeast 151 = .ok (.iload 5, 2) := by decide +kernel
theorem dX12_layLeast_153 : decode cX12_layLeast 153 = .ok (.iadd, 1) := by decide +kernel
theorem dX12_layLeast_154 : decode cX12_layLeast 154 = .ok (.iload 6, 2) := by decide +kernel
theorem dX12_layLeast_156 : decode cX12_layLeast 156 = .ok (.iastore, 1) := by decide +kernel
theorem dX12_layLeast_157 : decode cX12_layLeast 157 = .ok (.iinc 5 1, 3) := by decide +kernel
theorem dX12_layLeast_160 : decode cX12_layLeast 160 = .ok (.goto (-73), 3) := by decide +kernel
theorem dX12_layLeast_163 : decode cX12_layLeast 163 = .ok (.iinc 4 (-1), 3) := by decide +kernel
theorem dX12_layLeast_166 : decode cX12_layLeast 166 = .ok (.goto (-87), 3) := by decide +kernel
theorem dX12_layLeast_169 : decode cX12_layLeast 169 = .ok (.return_, 1) := by decide +kernel
theorem dX12_least_0 : decode cX12_least 0 = .ok (.aload_n 0, 1) := by decide +kernel
theorem dX12_least_1 : decode cX12_least 1 = .ok (.iconst 0, 1) := by decide +kernel
theorem dX12_least_2 : decode cX12_least 2 = .ok (.putfield 158, 3) := by decide +kernel
theorem dX12_least_5 : decode cX12_least 5 = .ok (.aload_n 0, 1) := by decide +kernel
theorem dX12_least_6 : decode cX12_least 6 = .ok (.iload_n 1, 1) := by decide +kernel
theorem dX12_least_7 : decode cX12_least 7 = .ok (.invokevirtual 197, 3) := by decide +kernel
theorem dX12_least_10 : decode cX12_least 10 = .ok (.ifCond .eq 45, 3) := by decide +kernel
theorem dX12_least_13 : decode cX12_least 13 = .ok (.iload_n 2, 1) := by decide +kernel
theorem dX12_least_14 : decode cX12_least 14 = .ok (.i2l, 1) := by decide +kernel
theorem dX12_least_15 : decode cX12_least 15 = .ok (.lconst 1, 1) := by decide +kernel
theorem dX12_least_16 : decode cX12_least 16 = .ok (.ldc2_w 488, 3) := by decide +kernel
theorem dX12_least_19 : decode cX12_least 19 = .ok (.invokestatic 178, 3) := by decide +kernel
theorem dX12_least_22 : decode cX12_least 22 = .ok (.ifCond .eq 33, 3) := by decide +kernel
theorem dX12_least_25 : decode cX12_least 25 = .ok (.iload_n 3, 1) := by decide +kernel
theorem dX12_least_26 : decode cX12_least 26 = .ok (.i2l, 1) := by decide +kernel
theorem dX12_least_27 : decode cX12_least 27 = .ok (.lconst 0, 1) := by decide +kernel
theorem dX12_least_28 : decode cX12_least 28 = .ok (.lconst 1, 1) := by decide +kernel
theorem dX12_least_29 : decode cX12_least 29 = .ok (.iload_n 2, 1) := by decide +kernel
theorem dX12_least_30 : decode cX12_least 30 = .ok (.lshl, 1) := by decide +kernel
theorem dX12_least_31 : decode cX12_least 31 = .ok (.lconst 1, 1) := by decide +kernel
theorem dX12_least_32 : decode cX12_least 32 = .ok (.lsub, 1) := by decide +kernel
theorem dX12_least_33 : decode cX12_least 33 = .ok (.invokestatic 178, 3) := by decide +kernel
theorem dX12_least_36 : decode cX12_least 36 = .ok (.ifCond .eq 19, 3) := by decide +kernel
theorem dX12_least_39 : decode cX12_least 39 = .ok (.iload 4, 2) := by decide +kernel
theorem dX12_least_41 : decode cX12_least 41 = .ok (.i2l, 1) := by decide +kernel
theorem dX12_least_42 : decode cX12_least 42 = .ok (.ldc2_w 266, 3) := by decide +kernel
theorem dX12_least_45 : decode cX12_least 45 = .ok (.iload_n 2, 1) := by decide +kernel
theorem dX12_least_46 : decode cX12_least 46 = .ok (.i2l, 1) := by decide +kernel
theorem dX12_least_47 : decode cX12_least 47 = .ok (.lconst 1, 1) := by decide +kernel
theorem dX12_least_48 : decode cX12_least 48 = .ok (.lsub, 1) := by decide +kernel
theorem dX12_least_49 : decode cX12_least 49 = .ok (.invokestatic 178, 3) := by decide +kernel
theorem dX12_least_52 : decode cX12_least 52 = .ok (.ifCond .ne 5, 3) := by decide +kernel
theorem dX12_least_57 : decode cX12_least 57 = .ok (.aload_n 0, 1) := by decide +kernel
theorem dX12_least_58 : decode cX12_least 58 = .ok (.iload_n 1, 1) := by decide +kernel
theorem dX12_least_59 : decode cX12_least 59 = .ok (.iload_n 2, 1) := by decide +kernel
theorem dX12_least_60 : decode cX12_least 60 = .ok (.iload_n 3, 1) := by decide +kernel
theorem dX12_least_61 : decode cX12_least 61 = .ok (.invokevirtual 490, 3) := by decide +kernel
theorem dX12_least_64 : decode cX12_least 64 = .ok (.aload_n 0, 1) := by decide +kernel
theorem dX12_least_65 : decode cX12_least 65 = .ok (.getfield 13, 3) := by decide +kernel
theorem dX12_least_68 : decode cX12_least 68 = .ok (.bipush 11, 2) := by decide +kernel
theorem dX12_least_70 : decode cX12_least 70 = .ok (.iload_n 1, 1) := by decide +kernel
theorem dX12_least_71 : decode cX12_least 71 = .ok (.iadd, 1) := by decide +kernel
theorem dX12_least_72 : decode cX12_least 72 = .ok (.iaload, 1) := by decide +kernel
theorem dX12_least_73 : decode cX12_least 73 = .ok (.istore 5, 2) := by decide +kernel
theorem dX12_least_75 : decode cX12_least 75 = .ok (.aload_n 0, 1) := by decide +kernel
theorem dX12_least_76 : decode cX12_least 76 = .ok (.getfield 111, 3) := by decide +kernel
theorem dX12_least_79 : decode cX12_least 79 = .ok (.iload 5, 2) := by decide +kernel
theorem dX12_least_81 : decode cX12_least 81 = .ok (.iaload, 1) := by decide +kernel
theorem dX12_least_82 : decode cX12_least 82 = .ok (.ldc_w 476, 3) := by decide +kernel
theorem dX12_least_85 : decode cX12_least 85 = .ok (.if_icmp .eq 9, 3) := by decide +kernel
theorem dX12_least_88 : decode cX12_least 88 = .ok (.iload 4, 2) := by decide +kernel
theorem dX12_least_90 : decode cX12_least 90 = .ok (.iconst (-1), 1) := by decide +kernel
theorem dX12_least_91 : decode cX12_least 91 = .ok (.if_icmp .ne 28, 3) := by decide +kernel
theorem dX12_least_119 : decode cX12_least 119 = .ok (.iconst 0, 1) := by decide +kernel
theorem dX12_least_120 : decode cX12_least 120 = .ok (.istore 6, 2) := by decide +kernel
theorem dX12_least_122 : decode cX12_least 122 = .ok (.iconst 0, 1) := by decide +kernel
theorem dX12_least_123 : decode cX12_least 123 = .ok (.istore 7, 2) := by decide +kernel
theorem dX12_least_125 : decode cX12_least 125 = .ok (.iload 7, 2) := by decide +kernel
theorem dX12_least_127 : decode cX12_least 127 = .ok (.iload 4, 2) := by decide +kernel
theorem dX12_least_129 : decode cX12_least 129 = .ok (.if_icmp .gt 64, 3) := by decide +kernel
theorem dX12_least_132 : decode cX12_least 132 = .ok (.iconst 0, 1) := by decide +kernel
theorem dX12_least_133 : decode cX12_least 133 = .ok (.istore 6, 2) := by decide +kernel
theorem dX12_least_135 : decode cX12_least 135 = .ok (.aload_n 0, 1) := by decide +kernel
theorem dX12_least_136 : decode cX12_least 136 = .ok (.iload 7, 2) := by decide +kernel
theorem dX12_least_138 : decode cX12_least 138 = .ok (.iload 5, 2) := by decide +kernel
theorem dX12_least_140 : decode cX12_least 140 = .ok (.iload 6, 2) := by decide +kernel
theorem dX12_least_142 : decode cX12_least 142 = .ok (.invokevirtual 484, 3) := by decide +kernel
theorem dX12_least_145 : decode cX12_least 145 = .ok (.aload_n 0, 1) := by decide +kernel
theorem dX12_least_146 : decode cX12_least 146 = .ok (.getfield 111, 3) := by decide +kernel
theorem dX12_least_149 : decode cX12_least 149 = .ok (.bipush 21, 2) := by decide +kernel
theorem dX12_least_151 : decode cX12_least 151 = .ok (.iload 7, 2) := by decide +kernel
theorem dX12_least_153 : decode cX12_least 153 = .ok (.imul, 1) := by decide +kernel
theorem dX12_least_154 : decode cX12_least 154 = .ok (.iload 5, 2) := by decide +kernel
theorem dX12_least_156 : decode cX12_least 156 = .ok (.iadd, 1) := by decide +kernel
theorem dX12_least_157 : decode cX12_least 157 = .ok (.iaload, 1) := by decide +kernel
theorem dX12_least_158 : decode cX12_least 158 = .ok (.if_icmp .eq 9, 3) := by decide +kernel
theorem dX12_least_161 : decode cX12_least 161 = .ok (.iinc 6 1, 3) := by decide +kernel
theorem dX12_least_164 : decode cX12_least 164 = .ok (.goto (-29), 3) := by decide +kernel
theorem dX12_least_167 : decode cX12_least 167 = .ok (.aload_n 0, 1) := by decide +kernel
theorem dX12_least_168 : decode cX12_least 168 = .ok (.getfield 114, 3) := by decide +kernel
theorem dX12_least_171 : decode cX12_least 171 = .ok (.bipush 63, 2) := by decide +kernel
theorem dX12_least_173 : decode cX12_least 173 = .ok (.iload 7, 2) := by decide +kernel
theorem dX12_least_175 : decode cX12_least 175 = .ok (.imul, 1) := by decide +kernel
theorem dX12_least_176 : decode cX12_least 176 = .ok (.iconst 3, 1) := by decide +kernel
theorem dX12_least_177 : decode cX12_least 177 = .ok (.iload 5, 2) := by decide +kernel
theorem dX12_least_179 : decode cX12_least 179 = .ok (.imul, 1) := by decide +kernel
theorem dX12_least_180 : decode cX12_least 180 = .ok (.iadd, 1) := by decide +kernel
theorem dX12_least_181 : decode cX12_least 181 = .ok (.iload 6, 2) := by decide +kernel
theorem dX12_least_183 : decode cX12_least 183 = .ok (.iadd, 1) := by decide +kernel
theorem dX12_least_184 : decode cX12_least 184 = .ok (.iaload, 1) := by decide +kernel
theorem dX12_least_185 : decode cX12_least 185 = .ok (.istore 5, 2) := by decide +kernel
theorem dX12_least_187 : decode cX12_least 187 = .ok (.iinc 7 1, 3) := by decide +kernel
theorem dX12_least_190 : decode cX12_least 190 = .ok (.goto (-65), 3) := by decide +kernel
theorem dX12_least_193 : decode cX12_least 193 = .ok (.iload 6, 2) := by decide +kernel
theorem dX12_least_195 : decode cX12_least 195 = .ok (.ireturn, 1) := by decide +kernel
theorem dX12_least_94 : decode cX12_least 94 = .ok (.aload_n 0, 1) := by decide +kernel
theorem dX12_least_95 : decode cX12_least 95 = .ok (.getfield 111, 3) := by decide +kernel
theorem dX12_least_98 : decode cX12_least 98 = .ok (.iload 5, 2) := by decide +kernel
theorem dX12_least_100 : decode cX12_least 100 = .ok (.iaload, 1) := by decide +kernel
theorem dX12_least_101 : decode cX12_least 101 = .ok (.ldc_w 476, 3) := by decide +kernel
theorem dX12_least_104 : decode cX12_least 104 = .ok (.if_icmp .ne 7, 3) := by decide +kernel
theorem dX12_least_111 : decode cX12_least 111 = .ok (.aload_n 0, 1) := by decide +kernel
theorem dX12_least_112 : decode cX12_least 112 = .ok (.getfield 111, 3) := by decide +kernel
theorem dX12_least_115 : decode cX12_least 115 = .ok (.iload 5, 2) := by decide +kernel
theorem dX12_least_117 : decode cX12_least 117 = .ok (.iaload, 1) := by decide +kernel
theorem dX12_least_118 : decode cX12_least 118 = .ok (.ireturn, 1) := by decide +kernel
theorem dX12_least_107 : decode cX12_least 107 = .ok (.iconst (-1), 1) := by decide +kernel
theorem dX12_least_108 : decode cX12_least 108 = .ok (.goto 10, 3) := by decide +kernel
theorem dX12_least_55 : decode cX12_least 55 = .ok (.iconst (-1), 1) := by decide +kernel
theorem dX12_least_56 : decode cX12_least 56 = .ok (.ireturn, 1) := by decide +kernel
set_option maxRecDepth 100000 in
set_option maxHeartbeats 4000000 in
theorem ggX12_layLeast_X12_keepAll : GoodIn wsX12_layLeast wsX12_keepAll := goodIn_q _ [7] [8, 9, 103, 104, 105, 106, 107, 108, 109, 110, 111, 112, 113, 114, 115, 116, 117, 118, 119, 120, 121, 122, 123, 124, 125, 126, 127, 128, 129, 130, 131, 132, 133, 134, 135, 136, 137, 138, 139, 140, 141, 142, 143, 144, 145, 146, 147, 148, 149, 150, 151, 152, 153, 154, 155, 156, 157, 158, 159, 160, 161, 162] rfl (by decide +kernel) (by decide +kernel)
set_option maxRecDepth 20000 in
theorem gX12_layLeast_X12_keepAll : GoodIn wsX12_layLeast (wsV RX12 167 RX12 yX12_keepAll wsX12_keepAll) := goodIn_app (goodIn_of _ (by decide +kernel)) ggX12_layLeast_X12_keepAll
set_option maxRecDepth 100000 in
set_option maxHeartbeats 4000000 in
theorem ggX12_layLeast_X12_putBack : GoodIn wsX12_layLeast wsX12_putBack := goodIn_q _ [98] [9, 8, 103, 104, 105, 106, 107, 108, 109, 110, 111, 112, 113, 114, 115, 116, 117, 118, 119, 120, 121, 122, 123, 124, 125, 126, 127, 128, 129, 130, 131, 132, 133, 134, 135, 136, 137, 138, 139, 140, 141, 142, 143, 144, 145, 146, 147, 148, 149, 150, 151, 152, 153, 154, 155, 156, 157, 158, 159, 160, 161, 162] rfl (by decide +kernel) (by decide +kernel)
set_option maxRecDepth 20000 in
theorem gX12_layLeast_X12_putBack : GoodIn wsX12_layLeast (wsV RX12 175 RX12 yX12_putBack wsX12_putBack) := goodIn_app (goodIn_of _ (by decide +kernel)) ggX12_layLeast_X12_putBack
set_option maxRecDepth 100000 in
set_option maxHeartbeats 4000000 in
theorem ggX12_layLeast_X12_coalBy : GoodIn wsX12_layLeast wsX12_coalBy := goodIn_q _ [102, 82] [17, 2, 1, 18, 80, 81, 6, 103, 104, 105, 106, 107, 108, 109, 110, 111, 112, 113, 114, 115, 116, 117, 118, 119, 120, 121, 122, 123, 124, 125, 126, 127, 128, 129, 130, 131, 132, 133, 134, 135, 136, 137, 138, 139, 140, 141, 142, 143, 144, 145, 146, 147, 148, 149, 150, 151, 152, 153, 154, 155, 156, 157, 158, 159, 160, 161, 162] rfl (by decide +kernel) (by decide +kernel)
set_option maxRecDepth 20000 in
theorem gX12_layLeast_X12_coalBy : GoodIn wsX12_layLeast (wsV RX12 484 RX12 yX12_coalBy wsX12_coalBy) := goodIn_app (goodIn_of _ (by decide +kernel)) ggX12_layLeast_X12_coalBy
set_option maxRecDepth 20000 in
theorem ggX12_layLeast_X12_is : GoodIn wsX12_layLeast wsX12_is := goodIn_r _ [12] (by decide +kernel) (by decide +kernel)
set_option maxRecDepth 20000 in
theorem gX12_layLeast_X12_is : GoodIn wsX12_layLeast (va_wsS RX12 436 yX12_is wsX12_is) := goodIn_app (goodIn_of _ (by decide +kernel)) ggX12_layLeast_X12_is
set_option maxRecDepth 100000 in
set_option maxHeartbeats 4000000 in
theorem ggX12_layLeast_X12_layHour : GoodIn wsX12_layLeast wsX12_layHour := goodIn_q _ [16, 22, 26, 33, 37, 43, 55, 59, 62, 66, 70, 74, 78, 82, 86] [9, 17, 18, 19, 20, 21, 6, 23, 24, 25, 27, 28, 29, 30, 31, 32, 34, 35, 36, 38, 39, 40, 41, 42, 44, 45, 46, 47, 48, 49, 50, 51, 52, 53, 54, 56, 57, 58, 60, 61, 63, 64, 65, 67, 68, 69, 71, 72, 73, 75, 76, 77, 79, 80, 81, 83, 84, 85, 103, 104, 105, 106, 107, 108, 109, 110, 111, 112, 113, 114, 115, 116, 117, 118, 119, 120, 121, 122, 123, 124, 125, 126, 127, 128, 129, 130, 131, 132, 133, 134, 135, 136, 137, 138, 139, 140, 141, 142, 143, 144, 145, 146, 147, 148, 149, 150, 151, 152, 153, 154, 155, 156, 157, 158, 159, 160, 161, 162] rfl (by decide +kernel) (by decide +kernel)
set_option maxRecDepth 20000 in
theorem gX12_layLeast_X12_layHour : GoodIn wsX12_layLeast (wsV RX12 477 RX12 yX12_layHour wsX12_layHour) := goodIn_app (goodIn_of _ (by decide +kernel)) ggX12_layLeast_X12_layHour
set_option maxRecDepth 100000 in
set_option maxHeartbeats 4000000 in
theorem ggX12_layLeast_X12_goOnBy : GoodIn wsX12_layLeast wsX12_goOnBy := goodIn_q _ [90, 94, 33] [91, 92, 93, 6, 9, 30, 31, 32, 103, 104, 105, 106, 107, 108, 109, 110, 111, 112, 113, 114, 115, 116, 117, 118, 119, 120, 121, 122, 123, 124, 125, 126, 127, 128, 129, 130, 131, 132, 133, 134, 135, 136, 137, 138, 139, 140, 141, 142, 143, 144, 145, 146, 147, 148, 149, 150, 151, 152, 153, 154, 155, 156, 157, 158, 159, 160, 161, 162] rfl (by decide +kernel) (by decide +kernel)
set_option maxRecDepth 20000 in
theorem gX12_layLeast_X12_goOnBy : GoodIn wsX12_layLeast (wsV RX12 481 RX12 yX12_goOnBy wsX12_goOnBy) := goodIn_app (goodIn_of _ (by decide +kernel)) ggX12_layLeast_X12_goOnBy
set_option maxRecDepth 100000 in
set_option maxHeartbeats 4000000 in
theorem ggX12_least_X12_isHouse : GoodIn wsX12_least wsX12_isHouse := goodIn_q _ [12, 15] [4, 13, 14, 11, 109, 110, 111, 112, 113, 114, 115, 116, 117, 118, 119, 120, 121, 122, 123, 124, 125, 126, 127, 128, 129, 130, 131, 132, 133, 134, 135, 136, 137, 138, 139, 140, 141, 142, 143, 144, 145, 146, 147, 148, 149, 150, 151, 152, 153, 154, 155, 156, 157, 158, 159, 160, 161, 162, 163, 164, 165, 166, 167, 168] rfl (by decide +kernel) (by decide +kernel)
set_option maxRecDepth 20000 in
theorem gX12_least_X12_isHouse : GoodIn wsX12_least (wsV RX12 197 RX12 yX12_isHouse wsX12_isHouse) := goodIn_app (goodIn_of _ (by decide +kernel)) ggX12_least_X12_isHouse
set_option maxRecDepth 20000 in
theorem ggX12_least_X12_in : GoodIn wsX12_least wsX12_in := goodIn_r _ [15] (by decide +kernel) (by decide +kernel)
set_option maxRecDepth 20000 in
theorem gX12_least_X12_in : GoodIn wsX12_least (va_wsS RX12 178 yX12_in wsX12_in) := goodIn_app (goodIn_of _ (by decide +kernel)) ggX12_least_X12_in
set_option maxRecDepth 100000 in
set_option maxHeartbeats 4000000 in
theorem ggX12_least_X12_layLeast : GoodIn wsX12_least wsX12_layLeast := goodIn_q _ [19, 23, 27, 31, 36, 40, 47, 51, 57, 68, 72, 15, 12, 76, 80, 84, 88, 92, 96, 100, 104, 108] [5, 6, 20, 21, 22, 11, 24, 4, 25, 26, 28, 29, 30, 32, 7, 33, 34, 35, 37, 38, 39, 41, 42, 43, 44, 45, 46, 48, 49, 50, 52, 53, 54, 55, 56, 58, 59, 60, 61, 62, 3, 63, 64, 65, 66, 67, 69, 70, 71, 13, 14, 8, 9, 10, 73, 74, 75, 77, 78, 79, 81, 82, 83, 85, 86, 87, 89, 90, 91, 93, 94, 95, 97, 98, 99, 101, 102, 103, 105, 106, 107, 109, 110, 111, 112, 113, 114, 115, 116, 117, 118, 119, 120, 121, 122, 123, 124, 125, 126, 127, 128, 129, 130, 131, 132, 133, 134, 135, 136, 137, 138, 139, 140, 141, 142, 143, 144, 145, 146, 147, 148, 149, 150, 151, 152, 153, 154, 155, 156, 157, 158, 159, 160, 161, 162, 163, 164, 165, 166, 167, 168] rfl (by decide +kernel) (by decide +kernel)
set_option maxRecDepth 20000 in
theorem gX12_least_X12_layLeast : GoodIn wsX12_least (wsV RX12 490 RX12 yX12_layLeast wsX12_layLeast) := goodIn_app (goodIn_of _ (by decide +kernel)) ggX12_least_X12_layLeast
set_option maxRecDepth 100000 in
set_option maxHeartbeats 4000000 in
theorem ggX12_least_X12_coalBy : GoodIn wsX12_least wsX12_coalBy := goodIn_q _ [108, 88] [32, 6, 5, 7, 86, 87, 11, 109, 110, 111, 112, 113, 114, 115, 116, 117, 118, 119, 120, 121, 122, 123, 124, 125, 126, 127, 128, 129, 130, 131, 132, 133, 134, 135, 136, 137, 138, 139, 140, 141, 142, 143, 144, 145, 146, 147, 148, 149, 150, 151, 152, 153, 154, 155, 156, 157, 158, 159, 160, 161, 162, 163, 164, 165, 166, 167, 168] rfl (by decide +kernel) (by decide +kernel)
set_option maxRecDepth 20000 in
theorem gX12_least_X12_coalBy : GoodIn wsX12_least (wsV RX12 484 RX12 yX12_coalBy wsX12_coalBy) := goodIn_app (goodIn_of _ (by decide +kernel)) ggX12_least_X12_coalBy
set_option maxHeartbeats 4000000 in
set_option maxRecDepth 100000 in
theorem v_layLeast (l : Launch) (D : va_G) (K : Nat → ClassId) (m0 : Nat) (x : Int32) (y : Int32) (z : Int32) (m_0 : Value) (m_1 : Value) (m_2 : Value) (w0 : Nat) (m_4 : Value) (m_5 : Value) (u0 : Nat) (m_7 : Value) (m_8 : Value) (m_9 : Value) (m_10 : Value) (m_11 : Value) (m_12 : Value) (m_13 : Value) (m_14 : Value) (m_15 : Value) (m_16 : Value) (m_17 : Value) (m_18 : Value) (m_19 : Value) (m_21 : Value) (m_22 : Value) (m_23 : Value) (m_24 : Value) (m_25 : Value) (m_26 : Value) (m_27 : Value) (m_28 : Value) (m_29 : Value) (m_30 : Value) (m_31 : Value) (m_32 : Value) (m_33 : Value) (lw : Int32) (e0 : Nat) (m_36 : Value) (q0 : Nat) (bro : Int32) (val : Int64) (sm : Int64) (m_41 : Value) (le : Nat) (tf : Nat) (i3 : Nat) (m_45 : Value) (m_46 : Value) (m_47 : Value) (m_48 : Value) (m_49 : Value) (m_50 : Value) (m_51 : Value) (m_52 : Value) (m_53 : Value) (m_54 : Value) (m_55 : Value) (m_56 : Value) (m_57 : Value) (m_58 : Value) (m_59 : Value) (fw : Nat → Int32) (fe : Nat → Int64) (fq : Nat → Int64) (fu : Nat → Int32) (fi : Nat → Int32) (ft : Nat → Int32) (fl : Nat → Int32) (sz : Nat) (zbro : 0 ≤ bro.toInt ∧ bro.toInt ≤ 1) (zx : 0 ≤ x.toInt ∧ x.toInt ≤ 7) (zy : 1 ≤ y.toInt ∧ y.toInt ≤ 12) (zfw : RowOK fw) (zfu : Pu 558 fu) (zft : Rg 819 0 20 ft) : Met l yX12_layLeast wsX12_layLeast ({ frames := 7, cells := 0, slots := 0, locals := 173 }) (va_Pc [.ref m0, .int x, .int y, .int z] (Pre D K [(m0, .inr (12, [m_0, m_1, m_2, .ref w0, m_4, m_5, .ref u0, m_7, m_8, m_9, m_10, m_11, m_12, m_13, m_14, m_15, m_16, m_17, m_18, m_19, .int 0, m_21, m_22, m_23, m_24, m_25, m_26, m_27, m_28, m_29, m_30, m_31, m_32, m_33, .int lw, .ref e0, m_36, .ref q0, .int bro, .long val, .long sm, m_41, .ref le, .ref tf, .ref i3, m_45, m_46, m_47, m_48, m_49, m_50, m_51, m_52, m_53, m_54, m_55, m_56, m_57, m_58, m_59])), (w0, .inl (K 0, 5500, .inl fw)), (e0, .inl (K 2, 13, .inr (.inl fe))), (q0, .inl (K 2, 400, .inr (.inl fq))), (u0, .inl (K 0, 558, .inl fu)), (i3, .inl (K 1, 819, .inl fi)), (tf, .inl (K 0, 819, .inl ft)), (le, .inl (K 0, 273, .inl fl))] sz)) (va_Qv (S := Su) (fun (u : Su) => (0 ≤ (u.2.2.2.1 1).toInt ∧ (u.2.2.2.1 1).toInt ≤ 1) ∧ (RowOK (u.2.1 0)) ∧ (Pu 558 (u.2.1 1)) ∧ (Rg 819 0 20 (u.2.1 3)) ∧ (LOK (u.2.1 4) (u.2.1 5) (u.2.1 6) (-1) 0 y.toInt) ∧ True) (fun u t => Wd D (va_A [(m0, .inr (12, [m_0, m_1, m_2, .ref w0, m_4, m_5, .ref u0, m_7, m_8, m_9, m_10, m_11, m_12, m_13, m_14, m_15, m_16, m_17, m_18, m_19, .int 0, m_21, m_22, m_23, m_24, m_25, m_26, m_27, m_28, m_29, m_30, m_31, m_32, m_33, .int lw, .ref e0, m_36, .ref q0, .int bro, .long val, .long sm, m_41, .ref le, .ref tf, .ref i3, m_45, m_46, m_47, m_48, m_49, m_50, m_51, m_52, m_53, m_54, m_55, m_56, m_57, m_58, m_59])), (w0, .inl (K 0, 5500, .inl fw)), (e0, .inl (K 2, 13, .inr (.inl fe))), (q0, .inl (K 2, 400, .inr (.inl fq))), (u0, .inl (K 0, 558, .inl fu)), (i3, .inl (K 1, 819, .inl fi)), (tf, .inl (K 0, 819, .inl ft)), (le, .inl (K 0, 273, .inl fl))] sz) ((fun u => [(m0, .inr (12, [m_0, m_1, m_2, .ref w0, m_4, m_5, .ref u0, m_7, m_8, m_9, m_10, m_11, m_12, m_13, m_14, m_15, m_16, m_17, m_18, m_19, .int 0, m_21, m_22, m_23, m_24, m_25, m_26, m_27, m_28, m_29, m_30, m_31, m_32, m_33, .int (u.2.2.2.1 0), .ref e0, m_36, .ref q0, .int (u.2.2.2.1 1), .long (u.2.2.2.2.1 0), .long (u.2.2.2.2.1 1), m_41, .ref le, .ref tf, .ref i3, m_45, m_46, m_47, m_48, m_49, m_50, m_51, m_52, m_53, m_54, m_55, m_56, m_57, m_58, m_59])), (w0, .inl (K 0, 5500, .inl (u.2.1 0))), (e0, .inl (K 2, 13, .inr (.inl (u.2.2.1 0)))), (q0, .inl (K 2, 400, .inr (.inl (u.2.2.1 1)))), (u0, .inl (K 0, 558, .inl (u.2.1 1))), (i3, .inl (K 1, 819, .inl (u.2.1 2))), (tf, .inl (K 0, 819, .inl (u.2.1 3))), (le, .inl (K 0, 273, .inl (u.2.1 4)))]) u) t) (va_A [(m0, .inr (12, [m_0, m_1, m_2, .ref w0, m_4, m_5, .ref u0, m_7, m_8, m_9, m_10, m_11, m_12, m_13, m_14, m_15, m_16, m_17, m_18, m_19, .int 0, m_21, m_22, m_23, m_24, m_25, m_26, m_27, m_28, m_29, m_30, m_31, m_32, m_33, .int lw, .ref e0, m_36, .ref q0, .int bro, .long val, .long sm, m_41, .ref le, .ref tf, .ref i3, m_45, m_46, m_47, m_48, m_49, m_50, m_51, m_52, m_53, m_54, m_55, m_56, m_57, m_58, m_59])), (w0, .inl (K 0, 5500, .inl fw)), (e0, .inl (K 2, 13, .inr (.inl fe))), (q0, .inl (K 2, 400, .inr (.inl fq))), (u0, .inl (K 0, 558, .inl fu)), (i3, .inl (K 1, 819, .inl fi)), (tf, .inl (K 0, 819, .inl ft)), (le, .inl (K 0, 273, .inl fl))] sz)) 0 0 (va_A [(m0, .inr (12, [m_0, m_1, m_2, .ref w0, m_4, m_5, .ref u0, m_7, m_8, m_9, m_10, m_11, m_12, m_13, m_14, m_15, m_16, m_17, m_18, m_19, .int 0, m_21, m_22, m_23, m_24, m_25, m_26, m_27, m_28, m_29, m_30, m_31, m_32, m_33, .int lw, .ref e0, m_36, .ref q0, .int bro, .long val, .long sm, m_41, .ref le, .ref tf, .ref i3, m_45, m_46, m_47, m_48, m_49, m_50, m_51, m_52, m_53, m_54, m_55, m_56, m_57, m_58, m_59])), (w0, .inl (K 0, 5500, .inl fw)), (e0, .inl (K 2, 13, .inr (.inl fe))), (q0, .inl (K 2, 400, .inr (.inl fq))), (u0, .inl (K 0, 558, .inl fu)), (i3, .inl (K 1, 819, .inl fi)), (tf, .inl (K 0, 819, .inl ft)), (le, .inl (K 0, 273, .inl fl))] sz) := by
  refine Met.ofW (cc := cX12_layLeast) (maxL := 9) (ret := none) (by decide) rfl ?_
  intro p e s m args below meth c s₁ B hml hv
  obtain ⟨rfl, hsz, hP, hK, hD0, hN⟩ := hv
  have hx := B.exec
  have hb := B.bytes
  have hr := B.returns
  have hts := atoms_spec (ws := wsX12_layLeast) B.pre
  have hown : s.vm.findClass RX12 = some m.cls := findClass_of_methodNamed B.named
  have hlocks := B.notSynchronized
  subst hsz
  have hD := hD0.self (sz := s.heap.size)
  generalize hAe : va_A [(m0, .inr (12, [m_0, m_1, m_2, .ref w0, m_4, m_5, .ref u0, m_7, m_8, m_9, m_10, m_11, m_12, m_13, m_14, m_15, m_16, m_17, m_18, m_19, .int 0, m_21, m_22, m_23, m_24, m_25, m_26, m_27, m_28, m_29, m_30, m_31, m_32, m_33, .int lw, .ref e0, m_36, .ref q0, .int bro, .long val, .long sm, m_41, .ref le, .ref tf, .ref i3, m_45, m_46, m_47, m_48, m_49, m_50, m_51, m_52, m_53, m_54, m_55, m_56, m_57, m_58, m_59])), (w0, .inl (K 0, 5500, .inl fw)), (e0, .inl (K 2, 13, .inr (.inl fe))), (q0, .inl (K 2, 400, .inr (.inl fq))), (u0, .inl (K 0, 558, .inl fu)), (i3, .inl (K 1, 819, .inl fi)), (tf, .inl (K 0, 819, .inl ft)), (le, .inl (K 0, 273, .inl fl))] s.heap.size = A at hD ⊢
  have hA : ∀ q : Nat, s.heap.size ≤ q → A q := fun q h => by rw [← hAe]; exact Or.inr h
  have hS : va_S A s.heap s.heap [] := va_S.rf
  have hP : va_P D vwCl [(m0, .inr (12, [m_0, m_1, m_2, .ref w0, m_4, m_5, .ref u0, m_7, m_8, m_9, m_10, m_11, m_12, m_13, m_14, m_15, m_16, m_17, m_18, m_19, .int 0, m_21, m_22, m_23, m_24, m_25, m_26, m_27, m_28, m_29, m_30, m_31, m_32, m_33, .int lw, .ref e0, m_36, .ref q0, .int bro, .long val, .long sm, m_41, .ref le, .ref tf, .ref i3, m_45, m_46, m_47, m_48, m_49, m_50, m_51, m_52, m_53, m_54, m_55, m_56, m_57, m_58, m_59])), (w0, .inl (K 0, 5500, .inl fw)), (e0, .inl (K 2, 13, .inr (.inl fe))), (q0, .inl (K 2, 400, .inr (.inl fq))), (u0, .inl (K 0, 558, .inl fu)), (i3, .inl (K 1, 819, .inl fi)), (tf, .inl (K 0, 819, .inl ft)), (le, .inl (K 0, 273, .inl fl))] s.heap := hP
  have hl := lv_entry [.ref m0, .int x, .int y, .int z] (n := 9) (Nat.le_of_ble_eq_true rfl)
  rw [lg_entry_eq]
  generalize (lg_sl [.ref m0, .int x, .int y, .int z] ++ List.replicate (9 - (lg_sl [.ref m0, .int x, .int y, .int z]).length) Slot.unset).toArray = ls at hl ⊢
  have hl : lv_has ls 9 [(0, .ref m0), (1, .int x), (2, .int y), (3, .int z)] := hl
  have hw12 : ∀ w ∈ wsX120, w ∈ wsX12_layLeast := fun w h => (List.mem_cons_of_mem _ (List.mem_append_right _ h))
  generalize hQ : MQ below _ _ s _ _ _ = Q
  refine lv_aload_n hx hb dX12_layLeast_0 rfl (lv_at hl 0 rfl) ?_
  refine lv_bipush (v := 16) hx hb dX12_layLeast_1 (by decide) ?_
  refine kcv (S := Su) (wr := [(e0, .inl (K 2, 13, .inr (.inl fe))), (q0, .inl (K 2, 400, .inr (.inl fq))), (i3, .inl (K 1, 819, .inl fi)), (tf, .inl (K 0, 819, .inl ft)), (le, .inl (K 0, 273, .inl fl))]) (va_runV (As := [.int 16]) (rest := []) ⟨hx, hb, hml, hown, hts⟩ (v_keepAll l D K m0 16 m_0 m_1 m_2 w0 m_4 m_5 u0 m_7 m_8 m_9 m_10 m_11 m_12 m_13 m_14 m_15 m_16 m_17 m_18 m_19 (.int 0) m_21 m_22 m_23 m_24 m_25 m_26 m_27 m_28 m_29 m_30 m_31 m_32 m_33 (.int lw) (.ref e0) m_36 (.ref q0) (.int bro) (.long val) (.long sm) m_41 (.ref le) (.ref tf) (.ref i3) m_45 m_46 m_47 m_48 m_49 m_50 m_51 m_52 m_53 m_54 m_55 m_56 m_57 m_58 m_59 fw fu s.heap.size (by first | omega | decide) zfw zfu) (cwV 1 hts gX12_layLeast_X12_keepAll rfl rfl rfl (by decide +kernel) ⟨Nat.le_of_ble_eq_true rfl, Nat.le_of_ble_eq_true rfl⟩) (mkV hK hN (hP.sub [0, 1, 4] rfl) (hD.sub [0, 1, 4] (by decide) rfl) (ci := 12) (q0 := 0) rfl rfl) rfl rfl hl.1 rfl (lv_room (Nat.le_of_ble_eq_true rfl)) dX12_layLeast_3 ⟨Nat.le_of_ble_eq_true rfl, Nat.le_of_ble_eq_true rfl⟩) hP hD hS hA [0, 1, 4] [2, 3, 5, 6, 7] rfl rfl (by decide) (by decide) (fun u_4174 H locs hw hP hD hS => ?_)
  have hP : va_P D vwCl [(e0, .inl (K 2, 13, .inr (.inl fe))), (q0, .inl (K 2, 400, .inr (.inl fq))), (i3, .inl (K 1, 819, .inl fi)), (tf, .inl (K 0, 819, .inl ft)), (le, .inl (K 0, 273, .inl fl)), (m0, .inr (12, [m_0, m_1, m_2, .ref w0, m_4, m_5, .ref u0, m_7, m_8, m_9, m_10, m_11, m_12, m_13, m_14, m_15, m_16, m_17, m_18, m_19, .int 0, m_21, m_22, m_23, m_24, m_25, m_26, m_27, m_28, m_29, m_30, m_31, m_32, m_33, .int lw, .ref e0, m_36, .ref q0, .int bro, .long val, .long sm, m_41, .ref le, .ref tf, .ref i3, m_45, m_46, m_47, m_48, m_49, m_50, m_51, m_52, m_53, m_54, m_55, m_56, m_57, m_58, m_59])), (w0, .inl (K 0, 5500, .inl fw)), (u0, .inl (K 0, 558, .inl (u_4174.2.1 0)))] H := hP
  have hD : va_D A [(e0, .inl (K 2, 13, .inr (.inl fe))), (q0, .inl (K 2, 400, .inr (.inl fq))), (i3, .inl (K 1, 819, .inl fi)), (tf, .inl (K 0, 819, .inl ft)), (le, .inl (K 0, 273, .inl fl)), (m0, .inr (12, [m_0, m_1, m_2, .ref w0, m_4, m_5, .ref u0, m_7, m_8, m_9, m_10, m_11, m_12, m_13, m_14, m_15, m_16, m_17, m_18, m_19, .int 0, m_21, m_22, m_23, m_24, m_25, m_26, m_27, m_28, m_29, m_30, m_31, m_32, m_33, .int lw, .ref e0, m_36, .ref q0, .int bro, .long val, .long sm, m_41, .ref le, .ref tf, .ref i3, m_45, m_46, m_47, m_48, m_49, m_50, m_51, m_52, m_53, m_54, m_55, m_56, m_57, m_58, m_59])), (w0, .inl (K 0, 5500, .inl fw)), (u0, .inl (K 0, 558, .inl (u_4174.2.1 0)))] := hD
  obtain ⟨k_4175, -⟩ := hw
  refine lv_iconst (v := 0) hx hb dX12_layLeast_6 (by decide) ?_
  refine lv_istore (lv' := [(4, .int 0), (0, .ref m0), (1, .int x), (2, .int y), (3, .int z)]) hx hb dX12_layLeast_7 hl (by decide) rfl (fun ls hl => ?_)
  have lp_4297 : ∀ (nn_ : Nat) (v_4253 : Int32) (v_4254 : Int32) (v_4255 : Int32) (v_4256 : Int64) (v_4257 : Int64) (f_4258 : Nat → Int64) (f_4259 : Nat → Int64) (f_4260 : Nat → Int32) (f_4261 : Nat → Int32) (f_4262 : Nat → Int32) (hv_4253 : 0 ≤ v_4253.toInt ∧ v_4253.toInt ≤ 12) (hv_4255 : 0 ≤ v_4255.toInt ∧ v_4255.toInt ≤ 1) (hf_4261_0 : Rg 819 0 20 f_4261) (hf_4262_0 : RowOK f_4262) (hn : (13 - v_4253.toInt : Int).toNat < nn_) (H : Heap) (locs : List Loc) (hP : va_P D vwCl [(e0, .inl (K 2, 13, .inr (.inl f_4258))), (q0, .inl (K 2, 400, .inr (.inl f_4259))), (i3, .inl (K 1, 819, .inl f_4260)), (tf, .inl (K 0, 819, .inl f_4261)), (le, .inl (K 0, 273, .inl fl)), (m0, .inr (12, [m_0, m_1, m_2, .ref w0, m_4, m_5, .ref u0, m_7, m_8, m_9, m_10, m_11, m_12, m_13, m_14, m_15, m_16, m_17, m_18, m_19, .int 0, m_21, m_22, m_23, m_24, m_25, m_26, m_27, m_28, m_29, m_30, m_31, m_32, m_33, .int v_4254, .ref e0, m_36, .ref q0, .int v_4255, .long v_4256, .long v_4257, m_41, .ref le, .ref tf, .ref i3, m_45, m_46, m_47, m_48, m_49, m_50, m_51, m_52, m_53, m_54, m_55, m_56, m_57, m_58, m_59])), (w0, .inl (K 0, 5500, .inl f_4262)), (u0, .inl (K 0, 558, .inl (u_4174.2.1 0)))] H) (hD : va_D A [(e0, .inl (K 2, 13, .inr (.inl f_4258))), (q0, .inl (K 2, 400, .inr (.inl f_4259))), (i3, .inl (K 1, 819, .inl f_4260)), (tf, .inl (K 0, 819, .inl f_4261)), (le, .inl (K 0, 273, .inl fl)), (m0, .inr (12, [m_0, m_1, m_2, .ref w0, m_4, m_5, .ref u0, m_7, m_8, m_9, m_10, m_11, m_12, m_13, m_14, m_15, m_16, m_17, m_18, m_19, .int 0, m_21, m_22, m_23, m_24, m_25, m_26, m_27, m_28, m_29, m_30, m_31, m_32, m_33, .int v_4254, .ref e0, m_36, .ref q0, .int v_4255, .long v_4256, .long v_4257, m_41, .ref le, .ref tf, .ref i3, m_45, m_46, m_47, m_48, m_49, m_50, m_51, m_52, m_53, m_54, m_55, m_56, m_57, m_58, m_59])), (w0, .inl (K 0, 5500, .inl f_4262)), (u0, .inl (K 0, 558, .inl (u_4174.2.1 0)))]) (hS : va_S A s.heap H locs) (ls : Array Slot) (hl : lv_has ls 9 [(4, .int v_4253), (0, .ref m0), (1, .int x), (2, .int y), (3, .int z)]), W p l e ({ frames := 7, cells := 0, slots := 0, locals := 173 }) s m (([.ref m0, .int x, .int y, .int z] : List Value).toArray) below meth c H locs 0 0 Q (F0 m 9 ls []) := by
    intro nn_
    induction nn_ with
    | zero =>
      intro v_4253 v_4254 v_4255 v_4256 v_4257 f_4258 f_4259 f_4260 f_4261 f_4262 hv_4253 hv_4255 hf_4261_0 hf_4262_0 hn H locs hP hD hS ls hl
      exact absurd hn (Nat.not_lt_zero _)
    | succ nn_ ih_4298 =>
      intro v_4253 v_4254 v_4255 v_4256 v_4257 f_4258 f_4259 f_4260 f_4261 f_4262 hv_4253 hv_4255 hf_4261_0 hf_4262_0 hn H locs hP hD hS ls hl
      refine lv_iload hx hb dX12_layLeast_9 (lv_at hl 0 rfl) ?_
      refine lv_iload_n hx hb dX12_layLeast_11 rfl (lv_at hl 3 rfl) ?_
      refine lv_icmp_ge (tgt := 39) hx hb dX12_layLeast_12 (by decide) (fun c_4299 => ?_) (fun c_4299 => ?_)
      · have c_4299i := i_le (x := y.toInt) (y := v_4253.toInt) rfl rfl c_4299
        refine lv_aload_n hx hb dX12_layLeast_39 rfl (lv_at hl 1 rfl) ?_
        refine lv_bipush (v := 16) hx hb dX12_layLeast_40 (by decide) ?_
        refine kcv (S := Su) (wr := [(e0, .inl (K 2, 13, .inr (.inl f_4258))), (q0, .inl (K 2, 400, .inr (.inl f_4259))), (i3, .inl (K 1, 819, .inl f_4260)), (tf, .inl (K 0, 819, .inl f_4261)), (le, .inl (K 0, 273, .inl fl))]) (va_runV (As := [.int 16]) (rest := []) ⟨hx, hb, hml, hown, hts⟩ (v_putBack l D K m0 16 m_0 m_1 m_2 w0 m_4 m_5 u0 m_7 m_8 m_9 m_10 m_11 m_12 m_13 m_14 m_15 m_16 m_17 m_18 m_19 (.int 0) m_21 m_22 m_23 m_24 m_25 m_26 m_27 m_28 m_29 m_30 m_31 m_32 m_33 (.int v_4254) (.ref e0) m_36 (.ref q0) (.int v_4255) (.long v_4256) (.long v_4257) m_41 (.ref le) (.ref tf) (.ref i3) m_45 m_46 m_47 m_48 m_49 m_50 m_51 m_52 m_53 m_54 m_55 m_56 m_57 m_58 m_59 f_4262 (u_4174.2.1 0) H.size (by first | omega | decide) hf_4262_0 k_4175) (cwV 1 hts gX12_layLeast_X12_putBack rfl rfl rfl (by decide +kernel) ⟨Nat.le_of_ble_eq_true rfl, Nat.le_of_ble_eq_true rfl⟩) (mkV hK hN (hP.sub [5, 6, 7] rfl) (hD.sub [5, 6, 7] (by decide) rfl) (ci := 12) (q0 := 0) rfl rfl) rfl rfl hl.1 rfl (lv_room (Nat.le_of_ble_eq_true rfl)) dX12_layLeast_42 ⟨Nat.le_of_ble_eq_true rfl, Nat.le_of_ble_eq_true rfl⟩) hP hD hS hA [5, 6, 7] [0, 1, 2, 3, 4] rfl rfl (by decide) (by decide) (fun u_4301 H locs hw hP hD hS => ?_)
        have hP : va_P D vwCl [(e0, .inl (K 2, 13, .inr (.inl f_4258))), (q0, .inl (K 2, 400, .inr (.inl f_4259))), (i3, .inl (K 1, 819, .inl f_4260)), (tf, .inl (K 0, 819, .inl f_4261)), (le, .inl (K 0, 273, .inl fl)), (m0, .inr (12, [m_0, m_1, m_2, .ref w0, m_4, m_5, .ref u0, m_7, m_8, m_9, m_10, m_11, m_12, m_13, m_14, m_15, m_16, m_17, m_18, m_19, .int 0, m_21, m_22, m_23, m_24, m_25, m_26, m_27, m_28, m_29, m_30, m_31, m_32, m_33, .int v_4254, .ref e0, m_36, .ref q0, .int v_4255, .long v_4256, .long v_4257, m_41, .ref le, .ref tf, .ref i3, m_45, m_46, m_47, m_48, m_49, m_50, m_51, m_52, m_53, m_54, m_55, m_56, m_57, m_58, m_59])), (w0, .inl (K 0, 5500, .inl (u_4301.2.1 0))), (u0, .inl (K 0, 558, .inl (u_4174.2.1 0)))] H := hP
        have hD : va_D A [(e0, .inl (K 2, 13, .inr (.inl f_4258))), (q0, .inl (K 2, 400, .inr (.inl f_4259))), (i3, .inl (K 1, 819, .inl f_4260)), (tf, .inl (K 0, 819, .inl f_4261)), (le, .inl (K 0, 273, .inl fl)), (m0, .inr (12, [m_0, m_1, m_2, .ref w0, m_4, m_5, .ref u0, m_7, m_8, m_9, m_10, m_11, m_12, m_13, m_14, m_15, m_16, m_17, m_18, m_19, .int 0, m_21, m_22, m_23, m_24, m_25, m_26, m_27, m_28, m_29, m_30, m_31, m_32, m_33, .int v_4254, .ref e0, m_36, .ref q0, .int v_4255, .long v_4256, .long v_4257, m_41, .ref le, .ref tf, .ref i3, m_45, m_46, m_47, m_48, m_49, m_50, m_51, m_52, m_53, m_54, m_55, m_56, m_57, m_58, m_59])), (w0, .inl (K 0, 5500, .inl (u_4301.2.1 0))), (u0, .inl (K 0, 558, .inl (u_4174.2.1 0)))] := hD
        obtain ⟨k_4302, -⟩ := hw
        refine lv_iconst (v := 0) hx hb dX12_layLeast_45 (by decide) ?_
        refine lv_istore (lv' := [(4, .int 0), (0, .ref m0), (1, .int x), (2, .int y), (3, .int z)]) hx hb dX12_layLeast_46 hl (by decide) rfl (fun ls hl => ?_)
        have lp_4342 : ∀ (nn_ : Nat) (v_4328 : Int32) (f_4329 : Nat → Int32) (hv_4328 : 0 ≤ v_4328.toInt ∧ v_4328.toInt ≤ 21) (hn : (22 - v_4328.toInt : Int).toNat < nn_) (H : Heap) (locs : List Loc) (hP : va_P D vwCl [(e0, .inl (K 2, 13, .inr (.inl f_4258))), (q0, .inl (K 2, 400, .inr (.inl f_4259))), (i3, .inl (K 1, 819, .inl f_4260)), (tf, .inl (K 0, 819, .inl f_4261)), (le, .inl (K 0, 273, .inl f_4329)), (m0, .inr (12, [m_0, m_1, m_2, .ref w0, m_4, m_5, .ref u0, m_7, m_8, m_9, m_10, m_11, m_12, m_13, m_14, m_15, m_16, m_17, m_18, m_19, .int 0, m_21, m_22, m_23, m_24, m_25, m_26, m_27, m_28, m_29, m_30, m_31, m_32, m_33, .int v_4254, .ref e0, m_36, .ref q0, .int v_4255, .long v_4256, .long v_4257, m_41, .ref le, .ref tf, .ref i3, m_45, m_46, m_47, m_48, m_49, m_50, m_51, m_52, m_53, m_54, m_55, m_56, m_57, m_58, m_59])), (w0, .inl (K 0, 5500, .inl (u_4301.2.1 0))), (u0, .inl (K 0, 558, .inl (u_4174.2.1 0)))] H) (hD : va_D A [(e0, .inl (K 2, 13, .inr (.inl f_4258))), (q0, .inl (K 2, 400, .inr (.inl f_4259))), (i3, .inl (K 1, 819, .inl f_4260)), (tf, .inl (K 0, 819, .inl f_4261)), (le, .inl (K 0, 273, .inl f_4329)), (m0, .inr (12, [m_0, m_1, m_2, .ref w0, m_4, m_5, .ref u0, m_7, m_8, m_9, m_10, m_11, m_12, m_13, m_14, m_15, m_16, m_17, m_18, m_19, .int 0, m_21, m_22, m_23, m_24, m_25, m_26, m_27, m_28, m_29, m_30, m_31, m_32, m_33, .int v_4254, .ref e0, m_36, .ref q0, .int v_4255, .long v_4256, .long v_4257, m_41, .ref le, .ref tf, .ref i3, m_45, m_46, m_47, m_48, m_49, m_50, m_51, m_52, m_53, m_54, m_55, m_56, m_57, m_58, m_59])), (w0, .inl (K 0, 5500, .inl (u_4301.2.1 0))), (u0, .inl (K 0, 558, .inl (u_4174.2.1 0)))]) (hS : va_S A s.heap H locs) (ls : Array Slot) (hl : lv_has ls 9 [(4, .int v_4328), (0, .ref m0), (2, .int y)]), W p l e ({ frames := 7, cells := 0, slots := 0, locals := 173 }) s m (([.ref m0, .int x, .int y, .int z] : List Value).toArray) below meth c H locs 0 0 Q (F0 m 48 ls []) := by
          intro nn_
          induction nn_ with
          | zero =>
            intro v_4328 f_4329 hv_4328 hn H locs hP hD hS ls hl
            exact absurd hn (Nat.not_lt_zero _)
          | succ nn_ ih_4343 =>
            intro v_4328 f_4329 hv_4328 hn H locs hP hD hS ls hl
            refine lv_iload hx hb dX12_layLeast_48 (lv_at hl 0 rfl) ?_
            refine lv_bipush (v := 20) hx hb dX12_layLeast_50 (by decide) ?_
            refine lv_icmp_gt (tgt := 74) hx hb dX12_layLeast_52 (by decide) (fun c_4344 => ?_) (fun c_4344 => ?_)
            · have c_4344i := i_lt (x := 20) (y := v_4328.toInt) rfl rfl c_4344
              refine lv_iload_n hx hb dX12_layLeast_74 rfl (lv_at hl 2 rfl) ?_
              refine lv_iconst (v := 1) hx hb dX12_layLeast_75 (by decide) ?_
              refine lv_isub hx hb dX12_layLeast_76 ?_
              refine lv_topi (fun x_4345 ex_4345 => ?_)
              have hx_4345 : x_4345.toInt = (y.toInt - 1) := by rw [ex_4345]; exact i_sub rfl (show (1 : Int32).toInt = 1 from rfl) (by omega)
              refine lv_istore (lv' := [(4, .int x_4345), (0, .ref m0), (2, .int y)]) hx hb dX12_layLeast_77 hl (by decide) rfl (fun ls hl => ?_)
              have lp_5864 : ∀ (nn_ : Nat) (v_5104 : Int32) (f_5105 : Nat → Int32) (hv_5104 : (-1) ≤ v_5104.toInt ∧ v_5104.toInt ≤ 11) (hr0_lp_5864 : LOK f_4260 f_4261 f_5105 v_5104.toInt 0 y.toInt) (hn : (v_5104.toInt - (-2) : Int).toNat < nn_) (H : Heap) (locs : List Loc) (hP : va_P D vwCl [(e0, .inl (K 2, 13, .inr (.inl f_4258))), (q0, .inl (K 2, 400, .inr (.inl f_4259))), (i3, .inl (K 1, 819, .inl f_4260)), (tf, .inl (K 0, 819, .inl f_4261)), (le, .inl (K 0, 273, .inl f_5105)), (m0, .inr (12, [m_0, m_1, m_2, .ref w0, m_4, m_5, .ref u0, m_7, m_8, m_9, m_10, m_11, m_12, m_13, m_14, m_15, m_16, m_17, m_18, m_19, .int 0, m_21, m_22, m_23, m_24, m_25, m_26, m_27, m_28, m_29, m_30, m_31, m_32, m_33, .int v_4254, .ref e0, m_36, .ref q0, .int v_4255, .long v_4256, .long v_4257, m_41, .ref le, .ref tf, .ref i3, m_45, m_46, m_47, m_48, m_49, m_50, m_51, m_52, m_53, m_54, m_55, m_56, m_57, m_58, m_59])), (w0, .inl (K 0, 5500, .inl (u_4301.2.1 0))), (u0, .inl (K 0, 558, .inl (u_4174.2.1 0)))] H) (hD : va_D A [(e0, .inl (K 2, 13, .inr (.inl f_4258))), (q0, .inl (K 2, 400, .inr (.inl f_4259))), (i3, .inl (K 1, 819, .inl f_4260)), (tf, .inl (K 0, 819, .inl f_4261)), (le, .inl (K 0, 273, .inl f_5105)), (m0, .inr (12, [m_0, m_1, m_2, .ref w0, m_4, m_5, .ref u0, m_7, m_8, m_9, m_10, m_11, m_12, m_13, m_14, m_15, m_16, m_17, m_18, m_19, .int 0, m_21, m_22, m_23, m_24, m_25, m_26, m_27, m_28, m_29, m_30, m_31, m_32, m_33, .int v_4254, .ref e0, m_36, .ref q0, .int v_4255, .long v_4256, .long v_4257, m_41, .ref le, .ref tf, .ref i3, m_45, m_46, m_47, m_48, m_49, m_50, m_51, m_52, m_53, m_54, m_55, m_56, m_57, m_58, m_59])), (w0, .inl (K 0, 5500, .inl (u_4301.2.1 0))), (u0, .inl (K 0, 558, .inl (u_4174.2.1 0)))]) (hS : va_S A s.heap H locs) (ls : Array Slot) (hl : lv_has ls 9 [(4, .int v_5104), (0, .ref m0)]), W p l e ({ frames := 7, cells := 0, slots := 0, locals := 173 }) s m (([.ref m0, .int x, .int y, .int z] : List Value).toArray) below meth c H locs 0 0 Q (F0 m 79 ls []) := by
                intro nn_
                induction nn_ with
                | zero =>
                  intro v_5104 f_5105 hv_5104 hr0_lp_5864 hn H locs hP hD hS ls hl
                  exact absurd hn (Nat.not_lt_zero _)
                | succ nn_ ih_5865 =>
                  intro v_5104 f_5105 hv_5104 hr0_lp_5864 hn H locs hP hD hS ls hl
                  refine lv_iload hx hb dX12_layLeast_79 (lv_at hl 0 rfl) ?_
                  refine lv_if_lt (tgt := 169) hx hb dX12_layLeast_81 (by decide) (fun c_5866 => ?_) (fun c_5866 => ?_)
                  · have c_5866i := i_lt (x := v_5104.toInt) (y := 0) rfl rfl c_5866
                    subst hQ
                    have hP9 := hP.sub (ws' := [(m0, .inr (12, [m_0, m_1, m_2, .ref w0, m_4, m_5, .ref u0, m_7, m_8, m_9, m_10, m_11, m_12, m_13, m_14, m_15, m_16, m_17, m_18, m_19, .int 0, m_21, m_22, m_23, m_24, m_25, m_26, m_27, m_28, m_29, m_30, m_31, m_32, m_33, .int v_4254, .ref e0, m_36, .ref q0, .int v_4255, .long v_4256, .long v_4257, m_41, .ref le, .ref tf, .ref i3, m_45, m_46, m_47, m_48, m_49, m_50, m_51, m_52, m_53, m_54, m_55, m_56, m_57, m_58, m_59])), (w0, .inl (K 0, 5500, .inl (u_4301.2.1 0))), (e0, .inl (K 2, 13, .inr (.inl f_4258))), (q0, .inl (K 2, 400, .inr (.inl f_4259))), (u0, .inl (K 0, 558, .inl (u_4174.2.1 0))), (i3, .inl (K 1, 819, .inl f_4260)), (tf, .inl (K 0, 819, .inl f_4261)), (le, .inl (K 0, 273, .inl f_5105))]) [5, 6, 0, 1, 7, 2, 3, 4] rfl
                    have hD9 := hD.sub (ws' := [(m0, .inr (12, [m_0, m_1, m_2, .ref w0, m_4, m_5, .ref u0, m_7, m_8, m_9, m_10, m_11, m_12, m_13, m_14, m_15, m_16, m_17, m_18, m_19, .int 0, m_21, m_22, m_23, m_24, m_25, m_26, m_27, m_28, m_29, m_30, m_31, m_32, m_33, .int v_4254, .ref e0, m_36, .ref q0, .int v_4255, .long v_4256, .long v_4257, m_41, .ref le, .ref tf, .ref i3, m_45, m_46, m_47, m_48, m_49, m_50, m_51, m_52, m_53, m_54, m_55, m_56, m_57, m_58, m_59])), (w0, .inl (K 0, 5500, .inl (u_4301.2.1 0))), (e0, .inl (K 2, 13, .inr (.inl f_4258))), (q0, .inl (K 2, 400, .inr (.inl f_4259))), (u0, .inl (K 0, 558, .inl (u_4174.2.1 0))), (i3, .inl (K 1, 819, .inl f_4260)), (tf, .inl (K 0, 819, .inl f_4261)), (le, .inl (K 0, 273, .inl f_5105))]) [5, 6, 0, 1, 7, 2, 3, 4] (by decide) rfl
                    exact W.vret hx hb hr (fun t ht hW => ⟨⟨((fun _ => 0, fun i => match i with | 0 => (u_4301.2.1 0) | 1 => (u_4174.2.1 0) | 2 => f_4260 | 3 => f_4261 | _ => f_5105, fun i => match i with | 0 => f_4258 | _ => f_4259, fun i => match i with | 0 => v_4254 | _ => v_4255, fun i => match i with | 0 => v_4256 | _ => v_4257, fun _ => fun _ => none) : Su), rfl, ⟨(show 0 ≤ (v_4255 : Int32).toInt ∧ (v_4255 : Int32).toInt ≤ 1 by omega), k_4302, k_4175, hf_4261_0, (show LOK f_4260 f_4261 f_5105 (-1) 0 y.toInt from by have q := hr0_lp_5864; rwa [show v_5104.toInt = -1 by omega] at q), trivial⟩, (⟨by rw [ht]; exact hP9, hD9⟩ : Wd D A _ t)⟩, hS.F ht⟩) hS.2.2 dX12_layLeast_169
                  · have c_5866i := i_nlt (x := v_5104.toInt) (y := 0) rfl rfl c_5866
                    refine lv_iconst (v := 0) hx hb dX12_layLeast_84 (by decide) ?_
                    refine lv_istore (lv' := [(5, .int 0), (4, .int v_5104), (0, .ref m0)]) hx hb dX12_layLeast_85 hl (by decide) rfl (fun ls hl => ?_)
                    have lp_6188 : ∀ (nn_ : Nat) (v_6080 : Int32) (f_6081 : Nat → Int32) (hv_6080 : 0 ≤ v_6080.toInt ∧ v_6080.toInt ≤ 21) (hr0_lp_6188 : LOK f_4260 f_4261 f_6081 v_5104.toInt v_6080.toInt y.toInt) (hn : (22 - v_6080.toInt : Int).toNat < nn_) (H : Heap) (locs : List Loc) (hP : va_P D vwCl [(e0, .inl (K 2, 13, .inr (.inl f_4258))), (q0, .inl (K 2, 400, .inr (.inl f_4259))), (i3, .inl (K 1, 819, .inl f_4260)), (tf, .inl (K 0, 819, .inl f_4261)), (le, .inl (K 0, 273, .inl f_6081)), (m0, .inr (12, [m_0, m_1, m_2, .ref w0, m_4, m_5, .ref u0, m_7, m_8, m_9, m_10, m_11, m_12, m_13, m_14, m_15, m_16, m_17, m_18, m_19, .int 0, m_21, m_22, m_23, m_24, m_25, m_26, m_27, m_28, m_29, m_30, m_31, m_32, m_33, .int v_4254, .ref e0, m_36, .ref q0, .int v_4255, .long v_4256, .long v_4257, m_41, .ref le, .ref tf, .ref i3, m_45, m_46, m_47, m_48, m_49, m_50, m_51, m_52, m_53, m_54, m_55, m_56, m_57, m_58, m_59])), (w0, .inl (K 0, 5500, .inl (u_4301.2.1 0))), (u0, .inl (K 0, 558, .inl (u_4174.2.1 0)))] H) (hD : va_D A [(e0, .inl (K 2, 13, .inr (.inl f_4258))), (q0, .inl (K 2, 400, .inr (.inl f_4259))), (i3, .inl (K 1, 819, .inl f_4260)), (tf, .inl (K 0, 819, .inl f_4261)), (le, .inl (K 0, 273, .inl f_6081)), (m0, .inr (12, [m_0, m_1, m_2, .ref w0, m_4, m_5, .ref u0, m_7, m_8, m_9, m_10, m_11, m_12, m_13, m_14, m_15, m_16, m_17, m_18, m_19, .int 0, m_21, m_22, m_23, m_24, m_25, m_26, m_27, m_28, m_29, m_30, m_31, m_32, m_33, .int v_4254, .ref e0, m_36, .ref q0, .int v_4255, .long v_4256, .long v_4257, m_41, .ref le, .ref tf, .ref i3, m_45, m_46, m_47, m_48, m_49, m_50, m_51, m_52, m_53, m_54, m_55, m_56, m_57, m_58, m_59])), (w0, .inl (K 0, 5500, .inl (u_4301.2.1 0))), (u0, .inl (K 0, 558, .inl (u_4174.2.1 0)))]) (hS : va_S A s.heap H locs) (ls : Array Slot) (hl : lv_has ls 9 [(5, .int v_6080), (4, .int v_5104), (0, .ref m0)]), W p l e ({ frames := 7, cells := 0, slots := 0, locals := 173 }) s m (([.ref m0, .int x, .int y, .int z] : List Value).toArray) below meth c H locs 0 0 Q (F0 m 87 ls []) := by
                      intro nn_
                      induction nn_ with
                      | zero =>
                        intro v_6080 f_6081 hv_6080 hr0_lp_6188 hn H locs hP hD hS ls hl
                        exact absurd hn (Nat.not_lt_zero _)
                      | succ nn_ ih_6189 =>
                        intro v_6080 f_6081 hv_6080 hr0_lp_6188 hn H locs hP hD hS ls hl
                        refine lv_iload hx hb dX12_layLeast_87 (lv_at hl 0 rfl) ?_
                        refine lv_bipush (v := 20) hx hb dX12_layLeast_89 (by decide) ?_
                        refine lv_icmp_gt (tgt := 163) hx hb dX12_layLeast_91 (by decide) (fun c_6190 => ?_) (fun c_6190 => ?_)
                        · have c_6190i := i_lt (x := 20) (y := v_6080.toInt) rfl rfl c_6190
                          obtain ⟨x_6191, ex_6191⟩ : ∃ y : Int32, y = v_5104 + Int32.ofInt (-1) := ⟨_, rfl⟩
                          have hx_6191 : x_6191.toInt = (v_5104.toInt + (-1)) := by rw [ex_6191]; exact i_add rfl (show (Int32.ofInt (-1)).toInt = (-1) from rfl) (by omega)
                          refine lv_iinc (v := x_6191) (lv' := [(4, .int x_6191), (5, .int v_6080), (0, .ref m0)]) hx hb dX12_layLeast_163 hl (k := 1) rfl (by rw [ex_6191]) (by decide) rfl (fun ls hl => ?_)
                          refine lv_goto (tgt := 79) hx hb dX12_layLeast_166 (by decide) ?_
                          exact ih_5865 x_6191 f_6081 (by rw [hx_6191]; omega) (show LOK f_4260 f_4261 f_6081 (x_6191 : Int32).toInt 0 y.toInt by rw [hx_6191]; exact LOK.down hr0_lp_6188 (by omega)) (by omega) _ _ hP hD hS ls (lv_sub hl [0, 2] rfl)
                        · have c_6190i := i_nlt (x := 20) (y := v_6080.toInt) rfl rfl c_6190
                          refine lv_ldcw (v := 100000000) hx hb hown (hts (.constant RX12 476 (100000000)) (List.mem_cons_of_mem _ (List.mem_append_left _ (List.mem_append_left _ (List.mem_of_getElem? (i := 1) rfl))))) dX12_layLeast_94 ?_
                          refine lv_istore (lv' := [(6, .int 100000000), (5, .int v_6080), (4, .int v_5104), (0, .ref m0)]) hx hb dX12_layLeast_97 hl (by decide) rfl (fun ls hl => ?_)
                          refine lv_iconst (v := 0) hx hb dX12_layLeast_99 (by decide) ?_
                          refine lv_istore (lv' := [(7, .int 0), (6, .int 100000000), (5, .int v_6080), (4, .int v_5104), (0, .ref m0)]) hx hb dX12_layLeast_100 hl (by decide) rfl (fun ls hl => ?_)
                          have lp_6230 : ∀ (nn_ : Nat) (v_6216 : Int32) (v_6217 : Int32) (hv_6216 : 0 ≤ v_6216.toInt ∧ v_6216.toInt ≤ 3) (hv_6217 : 0 ≤ v_6217.toInt ∧ v_6217.toInt ≤ 100000000) (hr0_lp_6230 : Mn f_4260 f_4261 f_6081 v_5104.toInt v_6080.toInt v_6216.toInt v_6217.toInt) (hn : (4 - v_6216.toInt : Int).toNat < nn_) (H : Heap) (locs : List Loc) (hP : va_P D vwCl [(e0, .inl (K 2, 13, .inr (.inl f_4258))), (q0, .inl (K 2, 400, .inr (.inl f_4259))), (i3, .inl (K 1, 819, .inl f_4260)), (tf, .inl (K 0, 819, .inl f_4261)), (le, .inl (K 0, 273, .inl f_6081)), (m0, .inr (12, [m_0, m_1, m_2, .ref w0, m_4, m_5, .ref u0, m_7, m_8, m_9, m_10, m_11, m_12, m_13, m_14, m_15, m_16, m_17, m_18, m_19, .int 0, m_21, m_22, m_23, m_24, m_25, m_26, m_27, m_28, m_29, m_30, m_31, m_32, m_33, .int v_4254, .ref e0, m_36, .ref q0, .int v_4255, .long v_4256, .long v_4257, m_41, .ref le, .ref tf, .ref i3, m_45, m_46, m_47, m_48, m_49, m_50, m_51, m_52, m_53, m_54, m_55, m_56, m_57, m_58, m_59])), (w0, .inl (K 0, 5500, .inl (u_4301.2.1 0))), (u0, .inl (K 0, 558, .inl (u_4174.2.1 0)))] H) (hD : va_D A [(e0, .inl (K 2, 13, .inr (.inl f_4258))), (q0, .inl (K 2, 400, .inr (.inl f_4259))), (i3, .inl (K 1, 819, .inl f_4260)), (tf, .inl (K 0, 819, .inl f_4261)), (le, .inl (K 0, 273, .inl f_6081)), (m0, .inr (12, [m_0, m_1, m_2, .ref w0, m_4, m_5, .ref u0, m_7, m_8, m_9, m_10, m_11, m_12, m_13, m_14, m_15, m_16, m_17, m_18, m_19, .int 0, m_21, m_22, m_23, m_24, m_25, m_26, m_27, m_28, m_29, m_30, m_31, m_32, m_33, .int v_4254, .ref e0, m_36, .ref q0, .int v_4255, .long v_4256, .long v_4257, m_41, .ref le, .ref tf, .ref i3, m_45, m_46, m_47, m_48, m_49, m_50, m_51, m_52, m_53, m_54, m_55, m_56, m_57, m_58, m_59])), (w0, .inl (K 0, 5500, .inl (u_4301.2.1 0))), (u0, .inl (K 0, 558, .inl (u_4174.2.1 0)))]) (hS : va_S A s.heap H locs) (ls : Array Slot) (hl : lv_has ls 9 [(7, .int v_6216), (6, .int v_6217), (5, .int v_6080), (4, .int v_5104), (0, .ref m0)]), W p l e ({ frames := 7, cells := 0, slots := 0, locals := 173 }) s m (([.ref m0, .int x, .int y, .int z] : List Value).toArray) below meth c H locs 0 0 Q (F0 m 102 ls []) := by
                            intro nn_
                            induction nn_ with
                            | zero =>
                              intro v_6216 v_6217 hv_6216 hv_6217 hr0_lp_6230 hn H locs hP hD hS ls hl
                              exact absurd hn (Nat.not_lt_zero _)
                            | succ nn_ ih_6231 =>
                              intro v_6216 v_6217 hv_6216 hv_6217 hr0_lp_6230 hn H locs hP hD hS ls hl
                              refine lv_iload hx hb dX12_layLeast_102 (lv_at hl 0 rfl) ?_
                              refine lv_iconst (v := 3) hx hb dX12_layLeast_104 (by decide) ?_
                              refine lv_icmp_ge (tgt := 142) hx hb dX12_layLeast_105 (by decide) (fun c_6232 => ?_) (fun c_6232 => ?_)
                              · have c_6232i := i_le (x := 3) (y := v_6216.toInt) rfl rfl c_6232
                                have hmf := Mn.fin (by have q := hr0_lp_6230; rwa [show v_6216.toInt = 3 by omega] at q)
                                refine lv_aload_n hx hb dX12_layLeast_142 rfl (lv_at hl 4 rfl) ?_
                                refine va_get (ci := 12) (v := .ref le) (C := RX12) (T := TX12) (N := 60) hx hb hts hw12 hown hK hP 5 rfl rfl 42 (by decide) (hts (.fieldLink RX12 111 "SmokeTuneModel" "least" "[I") (List.mem_cons_of_mem _ (List.mem_append_left _ (List.mem_append_left _ (List.mem_of_getElem? (i := 0) rfl))))) (fun _ h9 => h9) rfl dX12_layLeast_143 ?_
                                refine lv_bipush (v := 21) hx hb dX12_layLeast_146 (by decide) ?_
                                refine lv_iload hx hb dX12_layLeast_148 (lv_at hl 3 rfl) ?_
                                refine lv_imul hx hb dX12_layLeast_150 ?_
                                refine lv_topi (fun x_6233 ex_6233 => ?_)
                                have hx_6233 : x_6233.toInt = (21 * v_5104.toInt) := by rw [ex_6233]; exact i_mul (show (21 : Int32).toInt = 21 from rfl) rfl (by omega)
                                refine lv_iload hx hb dX12_layLeast_151 (lv_at hl 2 rfl) ?_
                                refine lv_iadd hx hb dX12_layLeast_153 ?_
                                refine lv_topi (fun x_6234 ex_6234 => ?_)
                                have hx_6234 : x_6234.toInt = ((21 * v_5104.toInt) + v_6080.toInt) := by rw [ex_6234]; exact i_add hx_6233 rfl (by omega)
                                refine lv_iload hx hb dX12_layLeast_154 (lv_at hl 1 rfl) ?_
                                refine va_iast hx hb hK hP hD hS 4 0 rfl rfl (i_in hx_6234 (by omega)) dX12_layLeast_156 (fun H locs hP hD hS => ?_)
                                generalize hf_6235 : (upd f_6081 (x_6234 : Int32).toNatClampNeg v_6217) = f_6235 at hP hD
                                have hP : va_P D vwCl [(e0, .inl (K 2, 13, .inr (.inl f_4258))), (q0, .inl (K 2, 400, .inr (.inl f_4259))), (i3, .inl (K 1, 819, .inl f_4260)), (tf, .inl (K 0, 819, .inl f_4261)), (le, .inl (K 0, 273, .inl f_6235)), (m0, .inr (12, [m_0, m_1, m_2, .ref w0, m_4, m_5, .ref u0, m_7, m_8, m_9, m_10, m_11, m_12, m_13, m_14, m_15, m_16, m_17, m_18, m_19, .int 0, m_21, m_22, m_23, m_24, m_25, m_26, m_27, m_28, m_29, m_30, m_31, m_32, m_33, .int v_4254, .ref e0, m_36, .ref q0, .int v_4255, .long v_4256, .long v_4257, m_41, .ref le, .ref tf, .ref i3, m_45, m_46, m_47, m_48, m_49, m_50, m_51, m_52, m_53, m_54, m_55, m_56, m_57, m_58, m_59])), (w0, .inl (K 0, 5500, .inl (u_4301.2.1 0))), (u0, .inl (K 0, 558, .inl (u_4174.2.1 0)))] H := hP
                                have hD : va_D A [(e0, .inl (K 2, 13, .inr (.inl f_4258))), (q0, .inl (K 2, 400, .inr (.inl f_4259))), (i3, .inl (K 1, 819, .inl f_4260)), (tf, .inl (K 0, 819, .inl f_4261)), (le, .inl (K 0, 273, .inl f_6235)), (m0, .inr (12, [m_0, m_1, m_2, .ref w0, m_4, m_5, .ref u0, m_7, m_8, m_9, m_10, m_11, m_12, m_13, m_14, m_15, m_16, m_17, m_18, m_19, .int 0, m_21, m_22, m_23, m_24, m_25, m_26, m_27, m_28, m_29, m_30, m_31, m_32, m_33, .int v_4254, .ref e0, m_36, .ref q0, .int v_4255, .long v_4256, .long v_4257, m_41, .ref le, .ref tf, .ref i3, m_45, m_46, m_47, m_48, m_49, m_50, m_51, m_52, m_53, m_54, m_55, m_56, m_57, m_58, m_59])), (w0, .inl (K 0, 5500, .inl (u_4301.2.1 0))), (u0, .inl (K 0, 558, .inl (u_4174.2.1 0)))] := hD
                                obtain ⟨x_6236, ex_6236⟩ : ∃ y : Int32, y = v_6080 + Int32.ofInt 1 := ⟨_, rfl⟩
                                have hx_6236 : x_6236.toInt = (v_6080.toInt + 1) := by rw [ex_6236]; exact i_add rfl (show (Int32.ofInt 1).toInt = 1 from rfl) (by omega)
                                refine lv_iinc (v := x_6236) (lv' := [(5, .int x_6236), (7, .int v_6216), (6, .int v_6217), (4, .int v_5104), (0, .ref m0)]) hx hb dX12_layLeast_157 hl (k := 2) rfl (by rw [ex_6236]) (by decide) rfl (fun ls hl => ?_)
                                refine lv_goto (tgt := 87) hx hb dX12_layLeast_160 (by decide) ?_
                                exact ih_6189 x_6236 f_6235 (by rw [hx_6236]; omega) (show LOK f_4260 f_4261 f_6235 v_5104.toInt (x_6236 : Int32).toInt y.toInt by rw [← hf_6235, i_clamp (x := x_6234) (z := ((21 * v_5104.toInt) + v_6080.toInt)) hx_6234, hx_6236]; exact LOK.put hr0_lp_6188 (by omega) (by omega) hf_4261_0 hmf) (by omega) _ _ hP hD hS ls (lv_sub hl [0, 3, 4] rfl)
                              · have c_6232i := i_nle (x := 3) (y := v_6216.toInt) rfl rfl c_6232
                                refine lv_aload_n hx hb dX12_layLeast_108 rfl (lv_at hl 4 rfl) ?_
                                refine lv_iload hx hb dX12_layLeast_109 (lv_at hl 3 rfl) ?_
                                refine lv_iload hx hb dX12_layLeast_111 (lv_at hl 2 rfl) ?_
                                refine lv_iload hx hb dX12_layLeast_113 (lv_at hl 0 rfl) ?_
                                refine pci (va_runV (As := [.int v_5104, .int v_6080, .int v_6216]) (rest := []) ⟨hx, hb, hml, hown, hts⟩ (v_coalBy l D K m0 v_5104 v_6080 v_6216 m_0 m_1 m_2 (.ref w0) m_4 m_5 (.ref u0) m_7 m_8 m_9 m_10 m_11 m_12 m_13 m_14 m_15 m_16 m_17 m_18 m_19 (.int 0) m_21 m_22 m_23 m_24 m_25 m_26 m_27 m_28 m_29 m_30 m_31 m_32 m_33 (.int v_4254) (.ref e0) m_36 (.ref q0) (.int v_4255) (.long v_4256) (.long v_4257) m_41 le tf i3 m_45 m_46 m_47 m_48 m_49 m_50 m_51 m_52 m_53 m_54 m_55 m_56 m_57 m_58 m_59 f_4260 f_4261 f_6081 H.size (by first | omega | decide) (by first | omega | decide) (by first | omega | decide) hf_4261_0) (cwV 3 hts gX12_layLeast_X12_coalBy rfl rfl rfl (by decide +kernel) ⟨Nat.le_of_ble_eq_true rfl, Nat.le_of_ble_eq_true rfl⟩) (mkV hK hN (hP.sub [5, 2, 3, 4] rfl) (hD.sub [5, 2, 3, 4] (by decide) rfl) (ci := 12) (q0 := 0) rfl rfl) rfl rfl hl.1 rfl (lv_room (Nat.le_of_ble_eq_true rfl)) dX12_layLeast_115 ⟨Nat.le_of_ble_eq_true rfl, Nat.le_of_ble_eq_true rfl⟩) (fun r_6237 hw => ?_)
                                obtain ⟨⟨hcb_r_6237, hcr_r_6237⟩, -⟩ := hw
                                refine lv_istore (lv' := [(8, .int r_6237), (7, .int v_6216), (6, .int v_6217), (5, .int v_6080), (4, .int v_5104), (0, .ref m0)]) hx hb dX12_layLeast_118 hl (by decide) rfl (fun ls hl => ?_)
                                refine lv_iload hx hb dX12_layLeast_120 (lv_at hl 0 rfl) ?_
                                refine lv_iload hx hb dX12_layLeast_122 (lv_at hl 2 rfl) ?_
                                refine lv_icmp_ge (tgt := 132) hx hb dX12_layLeast_124 (by decide) (fun c_6238 => ?_) (fun c_6238 => ?_)
                                · have c_6238i := i_le (x := v_6217.toInt) (y := r_6237.toInt) rfl rfl c_6238
                                  refine lv_iload hx hb dX12_layLeast_132 (lv_at hl 2 rfl) ?_
                                  refine lv_istore (lv' := [(6, .int v_6217), (8, .int r_6237), (7, .int v_6216), (5, .int v_6080), (4, .int v_5104), (0, .ref m0)]) hx hb dX12_layLeast_134 hl (by decide) rfl (fun ls hl => ?_)
                                  obtain ⟨x_6239, ex_6239⟩ : ∃ y : Int32, y = v_6216 + Int32.ofInt 1 := ⟨_, rfl⟩
                                  have hx_6239 : x_6239.toInt = (v_6216.toInt + 1) := by rw [ex_6239]; exact i_add rfl (show (Int32.ofInt 1).toInt = 1 from rfl) (by omega)
                                  refine lv_iinc (v := x_6239) (lv' := [(7, .int x_6239), (6, .int v_6217), (8, .int r_6237), (5, .int v_6080), (4, .int v_5104), (0, .ref m0)]) hx hb dX12_layLeast_136 hl (k := 2) rfl (by rw [ex_6239]) (by decide) rfl (fun ls hl => ?_)
                                  refine lv_goto (tgt := 102) hx hb dX12_layLeast_139 (by decide) ?_
                                  exact ih_6231 x_6239 v_6217 (by rw [hx_6239]; omega) (by omega) (show Mn f_4260 f_4261 f_6081 v_5104.toInt v_6080.toInt (x_6239 : Int32).toInt (v_6217 : Int32).toInt by rw [hx_6239]; exact Mn.ge hr0_lp_6230 hcb_r_6237 (by omega)) (by omega) _ _ hP hD hS ls (lv_sub hl [0, 1, 3, 4, 5] rfl)
                                · have c_6238i := i_nle (x := v_6217.toInt) (y := r_6237.toInt) rfl rfl c_6238
                                  refine lv_iload hx hb dX12_layLeast_127 (lv_at hl 0 rfl) ?_
                                  refine lv_goto (tgt := 134) hx hb dX12_layLeast_129 (by decide) ?_
                                  refine lv_istore (lv' := [(6, .int r_6237), (8, .int r_6237), (7, .int v_6216), (5, .int v_6080), (4, .int v_5104), (0, .ref m0)]) hx hb dX12_layLeast_134 hl (by decide) rfl (fun ls hl => ?_)
                                  obtain ⟨x_6240, ex_6240⟩ : ∃ y : Int32, y = v_6216 + Int32.ofInt 1 := ⟨_, rfl⟩
                                  have hx_6240 : x_6240.toInt = (v_6216.toInt + 1) := by rw [ex_6240]; exact i_add rfl (show (Int32.ofInt 1).toInt = 1 from rfl) (by omega)
                                  refine lv_iinc (v := x_6240) (lv' := [(7, .int x_6240), (6, .int r_6237), (8, .int r_6237), (5, .int v_6080), (4, .int v_5104), (0, .ref m0)]) hx hb dX12_layLeast_136 hl (k := 2) rfl (by rw [ex_6240]) (by decide) rfl (fun ls hl => ?_)
                                  refine lv_goto (tgt := 102) hx hb dX12_layLeast_139 (by decide) ?_
                                  exact ih_6231 x_6240 r_6237 (by rw [hx_6240]; omega) (by omega) (show Mn f_4260 f_4261 f_6081 v_5104.toInt v_6080.toInt (x_6240 : Int32).toInt (r_6237 : Int32).toInt by rw [hx_6240]; exact Mn.lt hr0_lp_6230 (by omega) hcb_r_6237 (by omega)) (by omega) _ _ hP hD hS ls (lv_sub hl [0, 1, 3, 4, 5] rfl)
                          have hz_6241 : (0 : Int32).toInt = 0 := rfl
                          have hz_6242 : (100000000 : Int32).toInt = 100000000 := rfl
                          exact lp_6230 ((4 - (0 : Int32).toInt : Int).toNat + 1) 0 100000000 (by decide) (by decide) (show Mn f_4260 f_4261 f_6081 v_5104.toInt v_6080.toInt (0 : Int32).toInt (100000000 : Int32).toInt by exact Mn.base) (Nat.lt_succ_self _) _ _ hP hD hS ls (lv_sub hl [0, 1, 2, 3, 4] rfl)
                    have hz_6243 : (0 : Int32).toInt = 0 := rfl
                    exact lp_6188 ((22 - (0 : Int32).toInt : Int).toNat + 1) 0 f_5105 (by decide) (show LOK f_4260 f_4261 f_5105 v_5104.toInt (0 : Int32).toInt y.toInt by exact hr0_lp_5864) (Nat.lt_succ_self _) _ _ hP hD hS ls (lv_sub hl [0, 1, 2] rfl)
              exact lp_5864 (((x_4345 : Int32).toInt - (-2) : Int).toNat + 1) x_4345 f_4329 (by rw [hx_4345]; omega) (show LOK f_4260 f_4261 f_4329 (x_4345 : Int32).toInt 0 y.toInt by exact LOK.base (by omega)) (Nat.lt_succ_self _) _ _ hP hD hS ls (lv_sub hl [0, 1] rfl)
            · have c_4344i := i_nlt (x := 20) (y := v_4328.toInt) rfl rfl c_4344
              refine lv_aload_n hx hb dX12_layLeast_55 rfl (lv_at hl 1 rfl) ?_
              refine va_get (ci := 12) (v := .ref le) (C := RX12) (T := TX12) (N := 60) hx hb hts hw12 hown hK hP 5 rfl rfl 42 (by decide) (hts (.fieldLink RX12 111 "SmokeTuneModel" "least" "[I") (List.mem_cons_of_mem _ (List.mem_append_left _ (List.mem_append_left _ (List.mem_of_getElem? (i := 0) rfl))))) (fun _ h9 => h9) rfl dX12_layLeast_56 ?_
              refine lv_bipush (v := 21) hx hb dX12_layLeast_59 (by decide) ?_
              refine lv_iload_n hx hb dX12_layLeast_61 rfl (lv_at hl 2 rfl) ?_
              refine lv_imul hx hb dX12_layLeast_62 ?_
              refine lv_topi (fun x_6244 ex_6244 => ?_)
              have hx_6244 : x_6244.toInt = (21 * y.toInt) := by rw [ex_6244]; exact i_mul (show (21 : Int32).toInt = 21 from rfl) rfl (by omega)
              refine lv_iload hx hb dX12_layLeast_63 (lv_at hl 0 rfl) ?_
              refine lv_iadd hx hb dX12_layLeast_65 ?_
              refine lv_topi (fun x_6245 ex_6245 => ?_)
              have hx_6245 : x_6245.toInt = ((21 * y.toInt) + v_4328.toInt) := by rw [ex_6245]; exact i_add hx_6244 rfl (by omega)
              refine lv_iconst (v := 0) hx hb dX12_layLeast_66 (by decide) ?_
              refine va_iast hx hb hK hP hD hS 4 0 rfl rfl (i_in hx_6245 (by omega)) dX12_layLeast_67 (fun H locs hP hD hS => ?_)
              generalize hf_6246 : (upd f_4329 (x_6245 : Int32).toNatClampNeg 0) = f_6246 at hP hD
              have hP : va_P D vwCl [(e0, .inl (K 2, 13, .inr (.inl f_4258))), (q0, .inl (K 2, 400, .inr (.inl f_4259))), (i3, .inl (K 1, 819, .inl f_4260)), (tf, .inl (K 0, 819, .inl f_4261)), (le, .inl (K 0, 273, .inl f_6246)), (m0, .inr (12, [m_0, m_1, m_2, .ref w0, m_4, m_5, .ref u0, m_7, m_8, m_9, m_10, m_11, m_12, m_13, m_14, m_15, m_16, m_17, m_18, m_19, .int 0, m_21, m_22, m_23, m_24, m_25, m_26, m_27, m_28, m_29, m_30, m_31, m_32, m_33, .int v_4254, .ref e0, m_36, .ref q0, .int v_4255, .long v_4256, .long v_4257, m_41, .ref le, .ref tf, .ref i3, m_45, m_46, m_47, m_48, m_49, m_50, m_51, m_52, m_53, m_54, m_55, m_56, m_57, m_58, m_59])), (w0, .inl (K 0, 5500, .inl (u_4301.2.1 0))), (u0, .inl (K 0, 558, .inl (u_4174.2.1 0)))] H := hP
              have hD : va_D A [(e0, .inl (K 2, 13, .inr (.inl f_4258))), (q0, .inl (K 2, 400, .inr (.inl f_4259))), (i3, .inl (K 1, 819, .inl f_4260)), (tf, .inl (K 0, 819, .inl f_4261)), (le, .inl (K 0, 273, .inl f_6246)), (m0, .inr (12, [m_0, m_1, m_2, .ref w0, m_4, m_5, .ref u0, m_7, m_8, m_9, m_10, m_11, m_12, m_13, m_14, m_15, m_16, m_17, m_18, m_19, .int 0, m_21, m_22, m_23, m_24, m_25, m_26, m_27, m_28, m_29, m_30, m_31, m_32, m_33, .int v_4254, .ref e0, m_36, .ref q0, .int v_4255, .long v_4256, .long v_4257, m_41, .ref le, .ref tf, .ref i3, m_45, m_46, m_47, m_48, m_49, m_50, m_51, m_52, m_53, m_54, m_55, m_56, m_57, m_58, m_59])), (w0, .inl (K 0, 5500, .inl (u_4301.2.1 0))), (u0, .inl (K 0, 558, .inl (u_4174.2.1 0)))] := hD
              obtain ⟨x_6247, ex_6247⟩ : ∃ y : Int32, y = v_4328 + Int32.ofInt 1 := ⟨_, rfl⟩
              have hx_6247 : x_6247.toInt = (v_4328.toInt + 1) := by rw [ex_6247]; exact i_add rfl (show (Int32.ofInt 1).toInt = 1 from rfl) (by omega)
              refine lv_iinc (v := x_6247) (lv' := [(4, .int x_6247), (0, .ref m0), (2, .int y)]) hx hb dX12_layLeast_68 hl (k := 0) rfl (by rw [ex_6247]) (by decide) rfl (fun ls hl => ?_)
              refine lv_goto (tgt := 48) hx hb dX12_layLeast_71 (by decide) ?_
              exact ih_4343 x_6247 f_6246 (by rw [hx_6247]; omega) (by omega) _ _ hP hD hS ls (lv_sub hl [0, 1, 2] rfl)
        exact lp_4342 ((22 - (0 : Int32).toInt : Int).toNat + 1) 0 fl (by decide) (Nat.lt_succ_self _) _ _ hP hD hS ls (lv_sub hl [0, 1, 3] rfl)
      · have c_4299i := i_nle (x := y.toInt) (y := v_4253.toInt) rfl rfl c_4299
        refine lv_aload_n hx hb dX12_layLeast_15 rfl (lv_at hl 1 rfl) ?_
        refine lv_iload_n hx hb dX12_layLeast_16 rfl (lv_at hl 2 rfl) ?_
        refine lv_iload hx hb dX12_layLeast_17 (lv_at hl 0 rfl) ?_
        refine lv_iload_n hx hb dX12_layLeast_19 rfl (lv_at hl 4 rfl) ?_
        refine lv_iload hx hb dX12_layLeast_20 (lv_at hl 0 rfl) ?_
        refine pci (va_runS (As := [.int z, .int v_4253]) (rest := [.int v_4253, .int x, .ref m0]) ⟨hx, hb, hml, hown, hts⟩ (v_is l D K z v_4253 H.size) (va_cwS 2 hts gX12_layLeast_X12_is rfl rfl rfl (by decide +kernel) ⟨Nat.le_of_ble_eq_true rfl, Nat.le_of_ble_eq_true rfl⟩) (mkS hK hN (va_P.nil) (va_D.nil (A := fun _ => True))) rfl rfl hl.1 rfl (lv_room (Nat.le_of_ble_eq_true rfl)) dX12_layLeast_22 ⟨Nat.le_of_ble_eq_true rfl, Nat.le_of_ble_eq_true rfl⟩) (fun r_6248 hw => ?_)
        obtain ⟨h_6249, -⟩ := hw
        refine kcv (S := Su) (wr := [(le, .inl (K 0, 273, .inl fl)), (u0, .inl (K 0, 558, .inl (u_4174.2.1 0)))]) (va_runV (As := [.int x, .int v_4253, .int r_6248]) (rest := []) ⟨hx, hb, hml, hown, hts⟩ (v_layHour l D K m0 x v_4253 r_6248 m_0 m_1 m_2 w0 m_4 m_5 (.ref u0) m_7 m_8 m_9 m_10 m_11 m_12 m_13 m_14 m_15 m_16 m_17 m_18 m_19 m_21 m_22 m_23 m_24 m_25 m_26 m_27 m_28 m_29 m_30 m_31 m_32 m_33 v_4254 e0 m_36 q0 v_4255 v_4256 v_4257 m_41 (.ref le) tf i3 m_45 m_46 m_47 m_48 m_49 m_50 m_51 m_52 m_53 m_54 m_55 m_56 m_57 m_58 m_59 f_4262 f_4258 f_4259 f_4260 f_4261 H.size (by first | omega | decide) (by first | omega | decide) (by first | omega | decide) (by first | omega | decide) hf_4262_0 hf_4261_0) (cwV 3 hts gX12_layLeast_X12_layHour rfl rfl rfl (by decide +kernel) ⟨Nat.le_of_ble_eq_true rfl, Nat.le_of_ble_eq_true rfl⟩) (mkV hK hN (hP.sub [5, 6, 0, 1, 2, 3] rfl) (hD.sub [5, 6, 0, 1, 2, 3] (by decide) rfl) (ci := 12) (q0 := 0) rfl rfl) rfl rfl hl.1 rfl (lv_room (Nat.le_of_ble_eq_true rfl)) dX12_layLeast_25 ⟨Nat.le_of_ble_eq_true rfl, Nat.le_of_ble_eq_true rfl⟩) hP hD hS hA [5, 6, 0, 1, 2, 3] [4, 7] rfl rfl (by decide) (by decide) (fun u_6251 H locs hw hP hD hS => ?_)
        have hP : va_P D vwCl [(le, .inl (K 0, 273, .inl fl)), (u0, .inl (K 0, 558, .inl (u_4174.2.1 0))), (m0, .inr (12, [m_0, m_1, m_2, .ref w0, m_4, m_5, .ref u0, m_7, m_8, m_9, m_10, m_11, m_12, m_13, m_14, m_15, m_16, m_17, m_18, m_19, .int 0, m_21, m_22, m_23, m_24, m_25, m_26, m_27, m_28, m_29, m_30, m_31, m_32, m_33, .int (u_6251.2.2.2.1 0), .ref e0, m_36, .ref q0, .int (u_6251.2.2.2.1 1), .long (u_6251.2.2.2.2.1 0), .long (u_6251.2.2.2.2.1 1), m_41, .ref le, .ref tf, .ref i3, m_45, m_46, m_47, m_48, m_49, m_50, m_51, m_52, m_53, m_54, m_55, m_56, m_57, m_58, m_59])), (w0, .inl (K 0, 5500, .inl (u_6251.2.1 0))), (e0, .inl (K 2, 13, .inr (.inl (u_6251.2.2.1 0)))), (q0, .inl (K 2, 400, .inr (.inl (u_6251.2.2.1 1)))), (i3, .inl (K 1, 819, .inl (u_6251.2.1 1))), (tf, .inl (K 0, 819, .inl (u_6251.2.1 2)))] H := hP
        have hD : va_D A [(le, .inl (K 0, 273, .inl fl)), (u0, .inl (K 0, 558, .inl (u_4174.2.1 0))), (m0, .inr (12, [m_0, m_1, m_2, .ref w0, m_4, m_5, .ref u0, m_7, m_8, m_9, m_10, m_11, m_12, m_13, m_14, m_15, m_16, m_17, m_18, m_19, .int 0, m_21, m_22, m_23, m_24, m_25, m_26, m_27, m_28, m_29, m_30, m_31, m_32, m_33, .int (u_6251.2.2.2.1 0), .ref e0, m_36, .ref q0, .int (u_6251.2.2.2.1 1), .long (u_6251.2.2.2.2.1 0), .long (u_6251.2.2.2.2.1 1), m_41, .ref le, .ref tf, .ref i3, m_45, m_46, m_47, m_48, m_49, m_50, m_51, m_52, m_53, m_54, m_55, m_56, m_57, m_58, m_59])), (w0, .inl (K 0, 5500, .inl (u_6251.2.1 0))), (e0, .inl (K 2, 13, .inr (.inl (u_6251.2.2.1 0)))), (q0, .inl (K 2, 400, .inr (.inl (u_6251.2.2.1 1)))), (i3, .inl (K 1, 819, .inl (u_6251.2.1 1))), (tf, .inl (K 0, 819, .inl (u_6251.2.1 2)))] := hD
        obtain ⟨k_6252, k_6253, k_6254, -⟩ := hw
        refine lv_aload_n hx hb dX12_layLeast_28 rfl (lv_at hl 1 rfl) ?_
        refine lv_iconst (v := 1) hx hb dX12_layLeast_29 (by decide) ?_
        refine kcv (S := Su) (wr := [(le, .inl (K 0, 273, .inl fl)), (u0, .inl (K 0, 558, .inl (u_4174.2.1 0))), (e0, .inl (K 2, 13, .inr (.inl (u_6251.2.2.1 0)))), (q0, .inl (K 2, 400, .inr (.inl (u_6251.2.2.1 1)))), (i3, .inl (K 1, 819, .inl (u_6251.2.1 1))), (tf, .inl (K 0, 819, .inl (u_6251.2.1 2)))]) (va_runV (As := [.int 1]) (rest := []) ⟨hx, hb, hml, hown, hts⟩ (v_goOnBy l D K m0 1 m_0 m_1 m_2 w0 m_4 m_5 (.ref u0) m_7 m_8 m_9 m_10 m_11 m_12 m_13 m_14 m_15 m_16 m_17 m_18 m_19 (.int 0) m_21 m_22 m_23 m_24 m_25 m_26 m_27 m_28 m_29 m_30 m_31 m_32 m_33 (.int (u_6251.2.2.2.1 0)) (.ref e0) m_36 (.ref q0) (.int (u_6251.2.2.2.1 1)) (.long (u_6251.2.2.2.2.1 0)) (.long (u_6251.2.2.2.2.1 1)) m_41 (.ref le) (.ref tf) (.ref i3) m_45 m_46 m_47 m_48 m_49 m_50 m_51 m_52 m_53 m_54 m_55 m_56 m_57 m_58 m_59 (u_6251.2.1 0) H.size (by first | omega | decide) k_6253) (cwV 1 hts gX12_layLeast_X12_goOnBy rfl rfl rfl (by decide +kernel) ⟨Nat.le_of_ble_eq_true rfl, Nat.le_of_ble_eq_true rfl⟩) (mkV hK hN (hP.sub [2, 3] rfl) (hD.sub [2, 3] (by decide) rfl) (ci := 12) (q0 := 0) rfl rfl) rfl rfl hl.1 rfl (lv_room (Nat.le_of_ble_eq_true rfl)) dX12_layLeast_30 ⟨Nat.le_of_ble_eq_true rfl, Nat.le_of_ble_eq_true rfl⟩) hP hD hS hA [2, 3] [0, 1, 4, 5, 6, 7] rfl rfl (by decide) (by decide) (fun u_6256 H locs hw hP hD hS => ?_)
        have hP : va_P D vwCl [(le, .inl (K 0, 273, .inl fl)), (u0, .inl (K 0, 558, .inl (u_4174.2.1 0))), (e0, .inl (K 2, 13, .inr (.inl (u_6251.2.2.1 0)))), (q0, .inl (K 2, 400, .inr (.inl (u_6251.2.2.1 1)))), (i3, .inl (K 1, 819, .inl (u_6251.2.1 1))), (tf, .inl (K 0, 819, .inl (u_6251.2.1 2))), (m0, .inr (12, [m_0, m_1, m_2, .ref w0, m_4, m_5, .ref u0, m_7, m_8, m_9, m_10, m_11, m_12, m_13, m_14, m_15, m_16, m_17, m_18, m_19, .int 0, m_21, m_22, m_23, m_24, m_25, m_26, m_27, m_28, m_29, m_30, m_31, m_32, m_33, .int (u_6251.2.2.2.1 0), .ref e0, m_36, .ref q0, .int (u_6251.2.2.2.1 1), .long (u_6251.2.2.2.2.1 0), .long (u_6251.2.2.2.2.1 1), m_41, .ref le, .ref tf, .ref i3, m_45, m_46, m_47, m_48, m_49, m_50, m_51, m_52, m_53, m_54, m_55, m_56, m_57, m_58, m_59])), (w0, .inl (K 0, 5500, .inl (u_6256.2.1 0)))] H := hP
        have hD : va_D A [(le, .inl (K 0, 273, .inl fl)), (u0, .inl (K 0, 558, .inl (u_4174.2.1 0))), (e0, .inl (K 2, 13, .inr (.inl (u_6251.2.2.1 0)))), (q0, .inl (K 2, 400, .inr (.inl (u_6251.2.2.1 1)))), (i3, .inl (K 1, 819, .inl (u_6251.2.1 1))), (tf, .inl (K 0, 819, .inl (u_6251.2.1 2))), (m0, .inr (12, [m_0, m_1, m_2, .ref w0, m_4, m_5, .ref u0, m_7, m_8, m_9, m_10, m_11, m_12, m_13, m_14, m_15, m_16, m_17, m_18, m_19, .int 0, m_21, m_22, m_23, m_24, m_25, m_26, m_27, m_28, m_29, m_30, m_31, m_32, m_33, .int (u_6251.2.2.2.1 0), .ref e0, m_36, .ref q0, .int (u_6251.2.2.2.1 1), .long (u_6251.2.2.2.2.1 0), .long (u_6251.2.2.2.2.1 1), m_41, .ref le, .ref tf, .ref i3, m_45, m_46, m_47, m_48, m_49, m_50, m_51, m_52, m_53, m_54, m_55, m_56, m_57, m_58, m_59])), (w0, .inl (K 0, 5500, .inl (u_6256.2.1 0)))] := hD
        obtain ⟨k_6257, -⟩ := hw
        obtain ⟨x_6258, ex_6258⟩ : ∃ y : Int32, y = v_4253 + Int32.ofInt 1 := ⟨_, rfl⟩
        have hx_6258 : x_6258.toInt = (v_4253.toInt + 1) := by rw [ex_6258]; exact i_add rfl (show (Int32.ofInt 1).toInt = 1 from rfl) (by omega)
        refine lv_iinc (v := x_6258) (lv' := [(4, .int x_6258), (0, .ref m0), (1, .int x), (2, .int y), (3, .int z)]) hx hb dX12_layLeast_33 hl (k := 0) rfl (by rw [ex_6258]) (by decide) rfl (fun ls hl => ?_)
        refine lv_goto (tgt := 9) hx hb dX12_layLeast_36 (by decide) ?_
        exact ih_4298 x_6258 (u_6251.2.2.2.1 0) (u_6251.2.2.2.1 1) (u_6251.2.2.2.2.1 0) (u_6251.2.2.2.2.1 1) (u_6251.2.2.1 0) (u_6251.2.2.1 1) (u_6251.2.1 1) (u_6251.2.1 2) (u_6256.2.1 0) (by rw [hx_6258]; omega) (by omega) k_6254 k_6257 (by omega) _ _ (hP.sub [2, 3, 4, 5, 0, 6, 7, 1] rfl) (hD.sub [2, 3, 4, 5, 0, 6, 7, 1] (by decide) rfl) hS ls (lv_sub hl [0, 1, 2, 3, 4] rfl)
  exact lp_4297 ((13 - (0 : Int32).toInt : Int).toNat + 1) 0 lw bro val sm fe fq fi ft fw (by decide) (by omega) zft zfw (Nat.lt_succ_self _) _ _ hP hD hS ls (lv_sub hl [0, 1, 2, 3, 4] rfl)
set_option maxHeartbeats 4000000 in
set_option maxRecDepth 100000 in
theorem v_least (l : Launch) (D : va_G) (K : Nat → ClassId) (m0 : Nat) (x : Int32) (y : Int32) (z : Int32) (w : Int32) (thr : Int32) (m_1 : Value) (m_2 : Value) (w0 : Nat) (m_4 : Value) (m_5 : Value) (u0 : Nat) (m_7 : Value) (m_8 : Value) (m_9 : Value) (m_10 : Value) (m_11 : Value) (m_12 : Value) (m_13 : Value) (m_14 : Value) (m_15 : Value) (m_16 : Value) (m_17 : Value) (m_18 : Value) (m_19 : Value) (m_21 : Value) (m_22 : Value) (m_23 : Value) (m_24 : Value) (m_25 : Value) (m_26 : Value) (m_27 : Value) (m_28 : Value) (m_29 : Value) (m_30 : Value) (m_31 : Value) (m_32 : Value) (m_33 : Value) (lw : Int32) (e0 : Nat) (m_36 : Value) (q0 : Nat) (bro : Int32) (val : Int64) (sm : Int64) (m_41 : Value) (le : Nat) (tf : Nat) (i3 : Nat) (m_45 : Value) (m_46 : Value) (m_47 : Value) (m_48 : Value) (m_49 : Value) (m_50 : Value) (m_51 : Value) (m_52 : Value) (m_53 : Value) (m_54 : Value) (m_55 : Value) (m_56 : Value) (m_57 : Value) (m_58 : Value) (m_59 : Value) (fw : Nat → Int32) (fe : Nat → Int64) (fq : Nat → Int64) (fu : Nat → Int32) (fi : Nat → Int32) (ft : Nat → Int32) (fl : Nat → Int32) (sz : Nat) (zbro : 0 ≤ bro.toInt ∧ bro.toInt ≤ 1) (zfw : RowOK fw) (zfu : Pu 558 fu) (zft : Rg 819 0 20 ft) : Met l yX12_least wsX12_least ({ frames := 8, cells := 0, slots := 0, locals := 201 }) (va_Pc [.ref m0, .int x, .int y, .int z, .int w] (Pre D K [(m0, .inr (12, [.int thr, m_1, m_2, .ref w0, m_4, m_5, .ref u0, m_7, m_8, m_9, m_10, m_11, m_12, m_13, m_14, m_15, m_16, m_17, m_18, m_19, .int 0, m_21, m_22, m_23, m_24, m_25, m_26, m_27, m_28, m_29, m_30, m_31, m_32, m_33, .int lw, .ref e0, m_36, .ref q0, .int bro, .long val, .long sm, m_41, .ref le, .ref tf, .ref i3, m_45, m_46, m_47, m_48, m_49, m_50, m_51, m_52, m_53, m_54, m_55, m_56, m_57, m_58, m_59])), (w0, .inl (K 0, 5500, .inl fw)), (e0, .inl (K 2, 13, .inr (.inl fe))), (q0, .inl (K 2, 400, .inr (.inl fq))), (u0, .inl (K 0, 558, .inl fu)), (i3, .inl (K 1, 819, .inl fi)), (tf, .inl (K 0, 819, .inl ft)), (le, .inl (K 0, 273, .inl fl))] sz)) (va_Qi (S := Su) (fun (r : Int32) (u : Su) => (0 ≤ (u.2.2.2.1 1).toInt ∧ (u.2.2.2.1 1).toInt ≤ 1) ∧ (RowOK (u.2.1 0)) ∧ (Pu 558 (u.2.1 1)) ∧ (Rg 819 0 20 (u.2.1 3)) ∧ True) (fun u t => Wd D (va_A [(m0, .inr (12, [.int thr, m_1, m_2, .ref w0, m_4, m_5, .ref u0, m_7, m_8, m_9, m_10, m_11, m_12, m_13, m_14, m_15, m_16, m_17, m_18, m_19, .int 0, m_21, m_22, m_23, m_24, m_25, m_26, m_27, m_28, m_29, m_30, m_31, m_32, m_33, .int lw, .ref e0, m_36, .ref q0, .int bro, .long val, .long sm, m_41, .ref le, .ref tf, .ref i3, m_45, m_46, m_47, m_48, m_49, m_50, m_51, m_52, m_53, m_54, m_55, m_56, m_57, m_58, m_59])), (w0, .inl (K 0, 5500, .inl fw)), (e0, .inl (K 2, 13, .inr (.inl fe))), (q0, .inl (K 2, 400, .inr (.inl fq))), (u0, .inl (K 0, 558, .inl fu)), (i3, .inl (K 1, 819, .inl fi)), (tf, .inl (K 0, 819, .inl ft)), (le, .inl (K 0, 273, .inl fl))] sz) ((fun u => [(m0, .inr (12, [.int 0, m_1, m_2, .ref w0, m_4, m_5, .ref u0, m_7, m_8, m_9, m_10, m_11, m_12, m_13, m_14, m_15, m_16, m_17, m_18, m_19, .int 0, m_21, m_22, m_23, m_24, m_25, m_26, m_27, m_28, m_29, m_30, m_31, m_32, m_33, .int (u.2.2.2.1 0), .ref e0, m_36, .ref q0, .int (u.2.2.2.1 1), .long (u.2.2.2.2.1 0), .long (u.2.2.2.2.1 1), m_41, .ref le, .ref tf, .ref i3, m_45, m_46, m_47, m_48, m_49, m_50, m_51, m_52, m_53, m_54, m_55, m_56, m_57, m_58, m_59])), (w0, .inl (K 0, 5500, .inl (u.2.1 0))), (e0, .inl (K 2, 13, .inr (.inl (u.2.2.1 0)))), (q0, .inl (K 2, 400, .inr (.inl (u.2.2.1 1)))), (u0, .inl (K 0, 558, .inl (u.2.1 1))), (i3, .inl (K 1, 819, .inl (u.2.1 2))), (tf, .inl (K 0, 819, .inl (u.2.1 3))), (le, .inl (K 0, 273, .inl (u.2.1 4)))]) u) t) (va_A [(m0, .inr (12, [.int thr, m_1, m_2, .ref w0, m_4, m_5, .ref u0, m_7, m_8, m_9, m_10, m_11, m_12, m_13, m_14, m_15, m_16, m_17, m_18, m_19, .int 0, m_21, m_22, m_23, m_24, m_25, m_26, m_27, m_28, m_29, m_30, m_31, m_32, m_33, .int lw, .ref e0, m_36, .ref q0, .int bro, .long val, .long sm, m_41, .ref le, .ref tf, .ref i3, m_45, m_46, m_47, m_48, m_49, m_50, m_51, m_52, m_53, m_54, m_55, m_56, m_57, m_58, m_59])), (w0, .inl (K 0, 5500, .inl fw)), (e0, .inl (K 2, 13, .inr (.inl fe))), (q0, .inl (K 2, 400, .inr (.inl fq))), (u0, .inl (K 0, 558, .inl fu)), (i3, .inl (K 1, 819, .inl fi)), (tf, .inl (K 0, 819, .inl ft)), (le, .inl (K 0, 273, .inl fl))] sz)) 0 0 (va_A [(m0, .inr (12, [.int thr, m_1, m_2, .ref w0, m_4, m_5, .ref u0, m_7, m_8, m_9, m_10, m_11, m_12, m_13, m_14, m_15, m_16, m_17, m_18, m_19, .int 0, m_21, m_22, m_23, m_24, m_25, m_26, m_27, m_28, m_29, m_30, m_31, m_32, m_33, .int lw, .ref e0, m_36, .ref q0, .int bro, .long val, .long sm, m_41, .ref le, .ref tf, .ref i3, m_45, m_46, m_47, m_48, m_49, m_50, m_51, m_52, m_53, m_54, m_55, m_56, m_57, m_58, m_59])), (w0, .inl (K 0, 5500, .inl fw)), (e0, .inl (K 2, 13, .inr (.inl fe))), (q0, .inl (K 2, 400, .inr (.inl fq))), (u0, .inl (K 0, 558, .inl fu)), (i3, .inl (K 1, 819, .inl fi)), (tf, .inl (K 0, 819, .inl ft)), (le, .inl (K 0, 273, .inl fl))] sz) := by
  refine Met.ofW (cc := cX12_least) (maxL := 8) (ret := (some .int)) (by decide) rfl ?_
  intro p e s m args below meth c s₁ B hml hv
  obtain ⟨rfl, hsz, hP, hK, hD0, hN⟩ := hv
  have hx := B.exec
  have hb := B.bytes
  have hr := B.returns
  have hts := atoms_spec (ws := wsX12_least) B.pre
  have hown : s.vm.findClass RX12 = some m.cls := findClass_of_methodNamed B.named
  have hlocks := B.notSynchronized
  subst hsz
  have hD := hD0.self (sz := s.heap.size)
  generalize hAe : va_A [(m0, .inr (12, [.int thr, m_1, m_2, .ref w0, m_4, m_5, .ref u0, m_7, m_8, m_9, m_10, m_11, m_12, m_13, m_14, m_15, m_16, m_17, m_18, m_19, .int 0, m_21, m_22, m_23, m_24, m_25, m_26, m_27, m_28, m_29, m_30, m_31, m_32, m_33, .int lw, .ref e0, m_36, .ref q0, .int bro, .long val, .long sm, m_41, .ref le, .ref tf, .ref i3, m_45, m_46, m_47, m_48, m_49, m_50, m_51, m_52, m_53, m_54, m_55, m_56, m_57, m_58, m_59])), (w0, .inl (K 0, 5500, .inl fw)), (e0, .inl (K 2, 13, .inr (.inl fe))), (q0, .inl (K 2, 400, .inr (.inl fq))), (u0, .inl (K 0, 558, .inl fu)), (i3, .inl (K 1, 819, .inl fi)), (tf, .inl (K 0, 819, .inl ft)), (le, .inl (K 0, 273, .inl fl))] s.heap.size = A at hD ⊢
  have hA : ∀ q : Nat, s.heap.size ≤ q → A q := fun q h => by rw [← hAe]; exact Or.inr h
  have hS : va_S A s.heap s.heap [] := va_S.rf
  have hP : va_P D vwCl [(m0, .inr (12, [.int thr, m_1, m_2, .ref w0, m_4, m_5, .ref u0, m_7, m_8, m_9, m_10, m_11, m_12, m_13, m_14, m_15, m_16, m_17, m_18, m_19, .int 0, m_21, m_22, m_23, m_24, m_25, m_26, m_27, m_28, m_29, m_30, m_31, m_32, m_33, .int lw, .ref e0, m_36, .ref q0, .int bro, .long val, .long sm, m_41, .ref le, .ref tf, .ref i3, m_45, m_46, m_47, m_48, m_49, m_50, m_51, m_52, m_53, m_54, m_55, m_56, m_57, m_58, m_59])), (w0, .inl (K 0, 5500, .inl fw)), (e0, .inl (K 2, 13, .inr (.inl fe))), (q0, .inl (K 2, 400, .inr (.inl fq))), (u0, .inl (K 0, 558, .inl fu)), (i3, .inl (K 1, 819, .inl fi)), (tf, .inl (K 0, 819, .inl ft)), (le, .inl (K 0, 273, .inl fl))] s.heap := hP
  have hl := lv_entry [.ref m0, .int x, .int y, .int z, .int w] (n := 8) (Nat.le_of_ble_eq_true rfl)
  rw [lg_entry_eq]
  generalize (lg_sl [.ref m0, .int x, .int y, .int z, .int w] ++ List.replicate (8 - (lg_sl [.ref m0, .int x, .int y, .int z, .int w]).length) Slot.unset).toArray = ls at hl ⊢
  have hl : lv_has ls 8 [(0, .ref m0), (1, .int x), (2, .int y), (3, .int z), (4, .int w)] := hl
  have hw12 : ∀ w ∈ wsX120, w ∈ wsX12_least := fun w h => (List.mem_cons_of_mem _ (List.mem_append_right _ h))
  generalize hQ : MQ below _ _ s _ _ _ = Q
  refine lv_aload_n hx hb dX12_least_0 rfl (lv_at hl 0 rfl) ?_
  refine lv_iconst (v := 0) hx hb dX12_least_1 (by decide) ?_
  refine va_put (ci := 12) (v := .int 0) (ty := .int) (C := RX12) (T := TX12) (N := 60) hx hb hts hw12 tyX12 tyX12_ok nmX12 hown hK hP hD hS 0 rfl rfl 0 (by decide) (hts (.fieldLink RX12 158 "SmokeTuneModel" "thrown" "I") (List.mem_cons_of_mem _ (List.mem_append_left _ (List.mem_append_left _ (List.mem_of_getElem? (i := 0) rfl))))) (fun _ h9 => h9) rfl (by decide +kernel) (by first | rfl | decide) (by first | rfl | decide) (Nat.le_of_ble_eq_true rfl) dX12_least_2 (fun H locs hP hD hS => ?_)
  have hP : va_P D vwCl [(m0, .inr (12, [.int 0, m_1, m_2, .ref w0, m_4, m_5, .ref u0, m_7, m_8, m_9, m_10, m_11, m_12, m_13, m_14, m_15, m_16, m_17, m_18, m_19, .int 0, m_21, m_22, m_23, m_24, m_25, m_26, m_27, m_28, m_29, m_30, m_31, m_32, m_33, .int lw, .ref e0, m_36, .ref q0, .int bro, .long val, .long sm, m_41, .ref le, .ref tf, .ref i3, m_45, m_46, m_47, m_48, m_49, m_50, m_51, m_52, m_53, m_54, m_55, m_56, m_57, m_58, m_59])), (w0, .inl (K 0, 5500, .inl fw)), (e0, .inl (K 2, 13, .inr (.inl fe))), (q0, .inl (K 2, 400, .inr (.inl fq))), (u0, .inl (K 0, 558, .inl fu)), (i3, .inl (K 1, 819, .inl fi)), (tf, .inl (K 0, 819, .inl ft)), (le, .inl (K 0, 273, .inl fl))] H := hP
  have hD : va_D A [(m0, .inr (12, [.int 0, m_1, m_2, .ref w0, m_4, m_5, .ref u0, m_7, m_8, m_9, m_10, m_11, m_12, m_13, m_14, m_15, m_16, m_17, m_18, m_19, .int 0, m_21, m_22, m_23, m_24, m_25, m_26, m_27, m_28, m_29, m_30, m_31, m_32, m_33, .int lw, .ref e0, m_36, .ref q0, .int bro, .long val, .long sm, m_41, .ref le, .ref tf, .ref i3, m_45, m_46, m_47, m_48, m_49, m_50, m_51, m_52, m_53, m_54, m_55, m_56, m_57, m_58, m_59])), (w0, .inl (K 0, 5500, .inl fw)), (e0, .inl (K 2, 13, .inr (.inl fe))), (q0, .inl (K 2, 400, .inr (.inl fq))), (u0, .inl (K 0, 558, .inl fu)), (i3, .inl (K 1, 819, .inl fi)), (tf, .inl (K 0, 819, .inl ft)), (le, .inl (K 0, 273, .inl fl))] := hD
  refine lv_aload_n hx hb dX12_least_5 rfl (lv_at hl 0 rfl) ?_
  refine lv_iload_n hx hb dX12_least_6 rfl (lv_at hl 1 rfl) ?_
  have j_3328 : ∀ (H : Heap) (locs : List Loc) (hP : va_P D vwCl [(m0, .inr (12, [.int 0, m_1, m_2, .ref w0, m_4, m_5, .ref u0, m_7, m_8, m_9, m_10, m_11, m_12, m_13, m_14, m_15, m_16, m_17, m_18, m_19, .int 0, m_21, m_22, m_23, m_24, m_25, m_26, m_27, m_28, m_29, m_30, m_31, m_32, m_33, .int lw, .ref e0, m_36, .ref q0, .int bro, .long val, .long sm, m_41, .ref le, .ref tf, .ref i3, m_45, m_46, m_47, m_48, m_49, m_50, m_51, m_52, m_53, m_54, m_55, m_56, m_57, m_58, m_59])), (w0, .inl (K 0, 5500, .inl fw)), (e0, .inl (K 2, 13, .inr (.inl fe))), (q0, .inl (K 2, 400, .inr (.inl fq))), (u0, .inl (K 0, 558, .inl fu)), (i3, .inl (K 1, 819, .inl fi)), (tf, .inl (K 0, 819, .inl ft)), (le, .inl (K 0, 273, .inl fl))] H) (hD : va_D A [(m0, .inr (12, [.int 0, m_1, m_2, .ref w0, m_4, m_5, .ref u0, m_7, m_8, m_9, m_10, m_11, m_12, m_13, m_14, m_15, m_16, m_17, m_18, m_19, .int 0, m_21, m_22, m_23, m_24, m_25, m_26, m_27, m_28, m_29, m_30, m_31, m_32, m_33, .int lw, .ref e0, m_36, .ref q0, .int bro, .long val, .long sm, m_41, .ref le, .ref tf, .ref i3, m_45, m_46, m_47, m_48, m_49, m_50, m_51, m_52, m_53, m_54, m_55, m_56, m_57, m_58, m_59])), (w0, .inl (K 0, 5500, .inl fw)), (e0, .inl (K 2, 13, .inr (.inl fe))), (q0, .inl (K 2, 400, .inr (.inl fq))), (u0, .inl (K 0, 558, .inl fu)), (i3, .inl (K 1, 819, .inl fi)), (tf, .inl (K 0, 819, .inl ft)), (le, .inl (K 0, 273, .inl fl))]) (hS : va_S A s.heap H locs) (ls : Array Slot) (hl : lv_has ls 8 []), W p l e ({ frames := 8, cells := 0, slots := 0, locals := 201 }) s m (([.ref m0, .int x, .int y, .int z, .int w] : List Value).toArray) below meth c H locs 0 0 Q (F0 m 55 ls []) := by
    intro H locs hP hD hS ls hl
    refine lv_iconst (v := (-1)) hx hb dX12_least_55 (by decide) ?_
    subst hQ
    have hP9 := hP.sub (ws' := [(m0, .inr (12, [.int 0, m_1, m_2, .ref w0, m_4, m_5, .ref u0, m_7, m_8, m_9, m_10, m_11, m_12, m_13, m_14, m_15, m_16, m_17, m_18, m_19, .int 0, m_21, m_22, m_23, m_24, m_25, m_26, m_27, m_28, m_29, m_30, m_31, m_32, m_33, .int lw, .ref e0, m_36, .ref q0, .int bro, .long val, .long sm, m_41, .ref le, .ref tf, .ref i3, m_45, m_46, m_47, m_48, m_49, m_50, m_51, m_52, m_53, m_54, m_55, m_56, m_57, m_58, m_59])), (w0, .inl (K 0, 5500, .inl fw)), (e0, .inl (K 2, 13, .inr (.inl fe))), (q0, .inl (K 2, 400, .inr (.inl fq))), (u0, .inl (K 0, 558, .inl fu)), (i3, .inl (K 1, 819, .inl fi)), (tf, .inl (K 0, 819, .inl ft)), (le, .inl (K 0, 273, .inl fl))]) [0, 1, 2, 3, 4, 5, 6, 7] rfl
    have hD9 := hD.sub (ws' := [(m0, .inr (12, [.int 0, m_1, m_2, .ref w0, m_4, m_5, .ref u0, m_7, m_8, m_9, m_10, m_11, m_12, m_13, m_14, m_15, m_16, m_17, m_18, m_19, .int 0, m_21, m_22, m_23, m_24, m_25, m_26, m_27, m_28, m_29, m_30, m_31, m_32, m_33, .int lw, .ref e0, m_36, .ref q0, .int bro, .long val, .long sm, m_41, .ref le, .ref tf, .ref i3, m_45, m_46, m_47, m_48, m_49, m_50, m_51, m_52, m_53, m_54, m_55, m_56, m_57, m_58, m_59])), (w0, .inl (K 0, 5500, .inl fw)), (e0, .inl (K 2, 13, .inr (.inl fe))), (q0, .inl (K 2, 400, .inr (.inl fq))), (u0, .inl (K 0, 558, .inl fu)), (i3, .inl (K 1, 819, .inl fi)), (tf, .inl (K 0, 819, .inl ft)), (le, .inl (K 0, 273, .inl fl))]) [0, 1, 2, 3, 4, 5, 6, 7] (by decide) rfl
    exact W.iret (v := (-1)) hx hb hr (fun t ht hW => ⟨⟨(-1), ((fun _ => 0, fun i => match i with | 0 => fw | 1 => fu | 2 => fi | 3 => ft | _ => fl, fun i => match i with | 0 => fe | _ => fq, fun i => match i with | 0 => lw | _ => bro, fun i => match i with | 0 => val | _ => sm, fun _ => fun _ => none) : Su), rfl, ⟨(show 0 ≤ (bro : Int32).toInt ∧ (bro : Int32).toInt ≤ 1 by omega), zfw, zfu, zft, trivial⟩, (⟨by rw [ht]; exact hP9, hD9⟩ : Wd D A _ t)⟩, hS.F ht⟩) hS.2.2 dX12_least_56
  refine pci (va_runV (As := [.int x]) (rest := []) ⟨hx, hb, hml, hown, hts⟩ (v_isHouse l D K x.toInt m0 x (.int 0) m_1 m_2 w0 m_4 m_5 (.ref u0) m_7 m_8 m_9 m_10 m_11 m_12 m_13 m_14 m_15 m_16 m_17 m_18 m_19 (.int 0) m_21 m_22 m_23 m_24 m_25 m_26 m_27 m_28 m_29 m_30 m_31 m_32 m_33 (.int lw) (.ref e0) m_36 (.ref q0) (.int bro) (.long val) (.long sm) m_41 (.ref le) (.ref tf) (.ref i3) m_45 m_46 m_47 m_48 m_49 m_50 m_51 m_52 m_53 m_54 m_55 m_56 m_57 m_58 m_59 fw H.size rfl zfw) (cwV 1 hts gX12_least_X12_isHouse rfl rfl rfl (by decide +kernel) ⟨Nat.le_of_ble_eq_true rfl, Nat.le_of_ble_eq_true rfl⟩) (mkV hK hN (hP.sub [0, 1] rfl) (hD.sub [0, 1] (by decide) rfl) (ci := 12) (q0 := 0) rfl rfl) rfl rfl hl.1 rfl (lv_room (Nat.le_of_ble_eq_true rfl)) dX12_least_7 ⟨Nat.le_of_ble_eq_true rfl, Nat.le_of_ble_eq_true rfl⟩) (fun r_3329 hw => ?_)
  obtain ⟨hw, -⟩ := hw
  rcases hw with ⟨rfl, h_3330, h_3331⟩ | rfl
  · refine lv_if_eq (tgt := 55) hx hb dX12_least_10 (by decide) (fun c_3332 => absurd c_3332 (by decide)) (fun c_3332 => ?_)
    refine lv_iload_n hx hb dX12_least_13 rfl (lv_at hl 2 rfl) ?_
    refine lv_i2l hx hb dX12_least_14 rfl ?_
    refine lv_topl (fun x_3333 ex_3333 => ?_)
    have hx_3333 : x_3333.toInt = y.toInt := by rw [ex_3333]; exact i_wide rfl
    have hbx_3333 := i_rng (a := y) rfl
    refine lv_lconst (v := 1) hx hb dX12_least_15 (by decide) ?_
    refine lv_ldc2 (v := 12) hx hb hown (hts (.constantLong RX12 488 (12)) (List.mem_cons_of_mem _ (List.mem_append_left _ (List.mem_append_left _ (List.mem_of_getElem? (i := 1) rfl))))) dX12_least_16 ?_
    refine pci (va_runS (As := [.long x_3333, .long 1, .long 12]) (rest := []) ⟨hx, hb, hml, hown, hts⟩ (v_in l D K y.toInt 1 12 x_3333 1 12 H.size hx_3333 (show (1 : Int64).toInt = 1 from rfl) (show (12 : Int64).toInt = 12 from rfl)) (va_cwS 3 hts gX12_least_X12_in rfl rfl rfl (by decide +kernel) ⟨Nat.le_of_ble_eq_true rfl, Nat.le_of_ble_eq_true rfl⟩) (mkS hK hN (va_P.nil) (va_D.nil (A := fun _ => True))) rfl rfl hl.1 rfl (lv_room (Nat.le_of_ble_eq_true rfl)) dX12_least_19 ⟨Nat.le_of_ble_eq_true rfl, Nat.le_of_ble_eq_true rfl⟩) (fun r_3334 hw => ?_)
    obtain ⟨hw, -⟩ := hw
    rcases hw with ⟨rfl, h_3335, h_3336⟩ | ⟨rfl, h_3337⟩
    · refine lv_if_eq (tgt := 55) hx hb dX12_least_22 (by decide) (fun c_3338 => absurd c_3338 (by decide)) (fun c_3338 => ?_)
      refine lv_iload_n hx hb dX12_least_25 rfl (lv_at hl 3 rfl) ?_
      refine lv_i2l hx hb dX12_least_26 rfl ?_
      refine lv_topl (fun x_3339 ex_3339 => ?_)
      have hx_3339 : x_3339.toInt = z.toInt := by rw [ex_3339]; exact i_wide rfl
      have hbx_3339 := i_rng (a := z) rfl
      refine lv_lconst (v := 0) hx hb dX12_least_27 (by decide) ?_
      refine lv_lconst (v := 1) hx hb dX12_least_28 (by decide) ?_
      refine lv_iload_n hx hb dX12_least_29 rfl (lv_at hl 2 rfl) ?_
      refine lv_lshl hx hb dX12_least_30 ?_
      refine lv_topl (fun x_3340 ex_3340 => ?_)
      refine lv_lconst (v := 1) hx hb dX12_least_31 (by decide) ?_
      refine lv_lsub hx hb dX12_least_32 ?_
      refine lv_topl (fun x_3341 ex_3341 => ?_)
      refine pci (va_runS (As := [.long x_3339, .long 0, .long x_3341]) (rest := []) ⟨hx, hb, hml, hown, hts⟩ (v_in l D K z.toInt 0 x_3341.toInt x_3339 0 x_3341 H.size hx_3339 (show (0 : Int64).toInt = 0 from rfl) rfl) (va_cwS 3 hts gX12_least_X12_in rfl rfl rfl (by decide +kernel) ⟨Nat.le_of_ble_eq_true rfl, Nat.le_of_ble_eq_true rfl⟩) (mkS hK hN (va_P.nil) (va_D.nil (A := fun _ => True))) rfl rfl hl.1 rfl (lv_room (Nat.le_of_ble_eq_true rfl)) dX12_least_33 ⟨Nat.le_of_ble_eq_true rfl, Nat.le_of_ble_eq_true rfl⟩) (fun r_3342 hw => ?_)
      obtain ⟨hw, -⟩ := hw
      rcases hw with ⟨rfl, h_3343, h_3344⟩ | ⟨rfl, h_3345⟩
      · refine lv_if_eq (tgt := 55) hx hb dX12_least_36 (by decide) (fun c_3346 => absurd c_3346 (by decide)) (fun c_3346 => ?_)
        refine lv_iload hx hb dX12_least_39 (lv_at hl 4 rfl) ?_
        refine lv_i2l hx hb dX12_least_41 rfl ?_
        refine lv_topl (fun x_3347 ex_3347 => ?_)
        have hx_3347 : x_3347.toInt = w.toInt := by rw [ex_3347]; exact i_wide rfl
        have hbx_3347 := i_rng (a := w) rfl
        refine lv_ldc2 (v := (-1)) hx hb hown (hts (.constantLong RX12 266 (-1)) (List.mem_cons_of_mem _ (List.mem_append_left _ (List.mem_append_left _ (List.mem_of_getElem? (i := 2) rfl))))) dX12_least_42 ?_
        refine lv_iload_n hx hb dX12_least_45 rfl (lv_at hl 2 rfl) ?_
        refine lv_i2l hx hb dX12_least_46 rfl ?_
        refine lv_topl (fun x_3348 ex_3348 => ?_)
        have hx_3348 : x_3348.toInt = y.toInt := by rw [ex_3348]; exact i_wide rfl
        refine lv_lconst (v := 1) hx hb dX12_least_47 (by decide) ?_
        refine lv_lsub hx hb dX12_least_48 ?_
        refine lv_topl (fun x_3349 ex_3349 => ?_)
        have hx_3349 : x_3349.toInt = (y.toInt - 1) := by rw [ex_3349]; exact l_sub hx_3348 (show (1 : Int64).toInt = 1 from rfl) (by omega)
        refine pci (va_runS (As := [.long x_3347, .long (-1), .long x_3349]) (rest := []) ⟨hx, hb, hml, hown, hts⟩ (v_in l D K w.toInt (-1) (y.toInt - 1) x_3347 (-1) x_3349 H.size hx_3347 (show ((-1) : Int64).toInt = (-1) from rfl) hx_3349) (va_cwS 3 hts gX12_least_X12_in rfl rfl rfl (by decide +kernel) ⟨Nat.le_of_ble_eq_true rfl, Nat.le_of_ble_eq_true rfl⟩) (mkS hK hN (va_P.nil) (va_D.nil (A := fun _ => True))) rfl rfl hl.1 rfl (lv_room (Nat.le_of_ble_eq_true rfl)) dX12_least_49 ⟨Nat.le_of_ble_eq_true rfl, Nat.le_of_ble_eq_true rfl⟩) (fun r_3350 hw => ?_)
        obtain ⟨hw, -⟩ := hw
        rcases hw with ⟨rfl, h_3351, h_3352⟩ | ⟨rfl, h_3353⟩
        · refine lv_if_ne (tgt := 57) hx hb dX12_least_52 (by decide) (fun c_3354 => ?_) (fun c_3354 => absurd c_3354 (by decide))
          refine lv_aload_n hx hb dX12_least_57 rfl (lv_at hl 0 rfl) ?_
          refine lv_iload_n hx hb dX12_least_58 rfl (lv_at hl 1 rfl) ?_
          refine lv_iload_n hx hb dX12_least_59 rfl (lv_at hl 2 rfl) ?_
          refine lv_iload_n hx hb dX12_least_60 rfl (lv_at hl 3 rfl) ?_
          refine kcv (S := Su) (wr := []) (va_runV (As := [.int x, .int y, .int z]) (rest := []) ⟨hx, hb, hml, hown, hts⟩ (v_layLeast l D K m0 x y z (.int 0) m_1 m_2 w0 m_4 m_5 u0 m_7 m_8 m_9 m_10 m_11 m_12 m_13 m_14 m_15 m_16 m_17 m_18 m_19 m_21 m_22 m_23 m_24 m_25 m_26 m_27 m_28 m_29 m_30 m_31 m_32 m_33 lw e0 m_36 q0 bro val sm m_41 le tf i3 m_45 m_46 m_47 m_48 m_49 m_50 m_51 m_52 m_53 m_54 m_55 m_56 m_57 m_58 m_59 fw fe fq fu fi ft fl H.size (by first | omega | decide) (by first | omega | decide) (by first | omega | decide) zfw zfu zft) (cwV 3 hts gX12_least_X12_layLeast rfl rfl rfl (by decide +kernel) ⟨Nat.le_of_ble_eq_true rfl, Nat.le_of_ble_eq_true rfl⟩) (mkV hK hN (hP.sub [0, 1, 2, 3, 4, 5, 6, 7] rfl) (hD.sub [0, 1, 2, 3, 4, 5, 6, 7] (by decide) rfl) (ci := 12) (q0 := 0) rfl rfl) rfl rfl hl.1 rfl (lv_room (Nat.le_of_ble_eq_true rfl)) dX12_least_61 ⟨Nat.le_of_ble_eq_true rfl, Nat.le_of_ble_eq_true rfl⟩) hP hD hS hA [0, 1, 2, 3, 4, 5, 6, 7] [] rfl rfl (by decide) (by decide) (fun u_3356 H locs hw hP hD hS => ?_)
          have hP : va_P D vwCl [(m0, .inr (12, [.int 0, m_1, m_2, .ref w0, m_4, m_5, .ref u0, m_7, m_8, m_9, m_10, m_11, m_12, m_13, m_14, m_15, m_16, m_17, m_18, m_19, .int 0, m_21, m_22, m_23, m_24, m_25, m_26, m_27, m_28, m_29, m_30, m_31, m_32, m_33, .int (u_3356.2.2.2.1 0), .ref e0, m_36, .ref q0, .int (u_3356.2.2.2.1 1), .long (u_3356.2.2.2.2.1 0), .long (u_3356.2.2.2.2.1 1), m_41, .ref le, .ref tf, .ref i3, m_45, m_46, m_47, m_48, m_49, m_50, m_51, m_52, m_53, m_54, m_55, m_56, m_57, m_58, m_59])), (w0, .inl (K 0, 5500, .inl (u_3356.2.1 0))), (e0, .inl (K 2, 13, .inr (.inl (u_3356.2.2.1 0)))), (q0, .inl (K 2, 400, .inr (.inl (u_3356.2.2.1 1)))), (u0, .inl (K 0, 558, .inl (u_3356.2.1 1))), (i3, .inl (K 1, 819, .inl (u_3356.2.1 2))), (tf, .inl (K 0, 819, .inl (u_3356.2.1 3))), (le, .inl (K 0, 273, .inl (u_3356.2.1 4)))] H := hP
          have hD : va_D A [(m0, .inr (12, [.int 0, m_1, m_2, .ref w0, m_4, m_5, .ref u0, m_7, m_8, m_9, m_10, m_11, m_12, m_13, m_14, m_15, m_16, m_17, m_18, m_19, .int 0, m_21, m_22, m_23, m_24, m_25, m_26, m_27, m_28, m_29, m_30, m_31, m_32, m_33, .int (u_3356.2.2.2.1 0), .ref e0, m_36, .ref q0, .int (u_3356.2.2.2.1 1), .long (u_3356.2.2.2.2.1 0), .long (u_3356.2.2.2.2.1 1), m_41, .ref le, .ref tf, .ref i3, m_45, m_46, m_47, m_48, m_49, m_50, m_51, m_52, m_53, m_54, m_55, m_56, m_57, m_58, m_59])), (w0, .inl (K 0, 5500, .inl (u_3356.2.1 0))), (e0, .inl (K 2, 13, .inr (.inl (u_3356.2.2.1 0)))), (q0, .inl (K 2, 400, .inr (.inl (u_3356.2.2.1 1)))), (u0, .inl (K 0, 558, .inl (u_3356.2.1 1))), (i3, .inl (K 1, 819, .inl (u_3356.2.1 2))), (tf, .inl (K 0, 819, .inl (u_3356.2.1 3))), (le, .inl (K 0, 273, .inl (u_3356.2.1 4)))] := hD
          obtain ⟨k_3357, k_3358, k_3359, k_3360, k_3361, -⟩ := hw
          refine lv_aload_n hx hb dX12_least_64 rfl (lv_at hl 0 rfl) ?_
          refine va_get (ci := 12) (v := .ref w0) (C := RX12) (T := TX12) (N := 60) hx hb hts hw12 hown hK hP 0 rfl rfl 3 (by decide) (hts (.fieldLink RX12 13 "SmokeTuneModel" "row" "[I") (List.mem_cons_of_mem _ (List.mem_append_left _ (List.mem_append_left _ (List.mem_of_getElem? (i := 3) rfl))))) (fun _ h9 => h9) rfl dX12_least_65 ?_
          refine lv_bipush (v := 11) hx hb dX12_least_68 (by decide) ?_
          refine lv_iload_n hx hb dX12_least_70 rfl (lv_at hl 1 rfl) ?_
          refine lv_iadd hx hb dX12_least_71 ?_
          refine lv_topi (fun x_3362 ex_3362 => ?_)
          have hx_3362 : x_3362.toInt = (11 + x.toInt) := by rw [ex_3362]; exact i_add (show (11 : Int32).toInt = 11 from rfl) rfl (by omega)
          refine va_iald hx hb hK hP 1 0 rfl rfl (i_in hx_3362 (by omega)) dX12_least_72 ?_
          refine lv_topi (fun x_3363 ex_3363 => ?_)
          have px_3363 := RowOK.at k_3358 hx_3362 (show 0 ≤ (11 + x.toInt) ∧ (11 + x.toInt) < 100 by omega)
          rw [← ex_3363] at px_3363
          have hx_3363 := PR.r_11 px_3363 (by omega)
          refine lv_istore (lv' := [(5, .int x_3363), (0, .ref m0), (1, .int x), (2, .int y), (3, .int z), (4, .int w)]) hx hb dX12_least_73 hl (by decide) rfl (fun ls hl => ?_)
          refine lv_aload_n hx hb dX12_least_75 rfl (lv_at hl 1 rfl) ?_
          refine va_get (ci := 12) (v := .ref le) (C := RX12) (T := TX12) (N := 60) hx hb hts hw12 hown hK hP 0 rfl rfl 42 (by decide) (hts (.fieldLink RX12 111 "SmokeTuneModel" "least" "[I") (List.mem_cons_of_mem _ (List.mem_append_left _ (List.mem_append_left _ (List.mem_of_getElem? (i := 4) rfl))))) (fun _ h9 => h9) rfl dX12_least_76 ?_
          refine lv_iload hx hb dX12_least_79 (lv_at hl 0 rfl) ?_
          refine va_iald hx hb hK hP 7 0 rfl rfl (i_in rfl (by omega)) dX12_least_81 ?_
          refine lv_topi (fun x_3364 ex_3364 => ?_)
          refine lv_ldcw (v := 100000000) hx hb hown (hts (.constant RX12 476 (100000000)) (List.mem_cons_of_mem _ (List.mem_append_left _ (List.mem_append_left _ (List.mem_of_getElem? (i := 5) rfl))))) dX12_least_82 ?_
          have j_3677 : ∀ (H : Heap) (locs : List Loc) (hP : va_P D vwCl [(m0, .inr (12, [.int 0, m_1, m_2, .ref w0, m_4, m_5, .ref u0, m_7, m_8, m_9, m_10, m_11, m_12, m_13, m_14, m_15, m_16, m_17, m_18, m_19, .int 0, m_21, m_22, m_23, m_24, m_25, m_26, m_27, m_28, m_29, m_30, m_31, m_32, m_33, .int (u_3356.2.2.2.1 0), .ref e0, m_36, .ref q0, .int (u_3356.2.2.2.1 1), .long (u_3356.2.2.2.2.1 0), .long (u_3356.2.2.2.2.1 1), m_41, .ref le, .ref tf, .ref i3, m_45, m_46, m_47, m_48, m_49, m_50, m_51, m_52, m_53, m_54, m_55, m_56, m_57, m_58, m_59])), (w0, .inl (K 0, 5500, .inl (u_3356.2.1 0))), (e0, .inl (K 2, 13, .inr (.inl (u_3356.2.2.1 0)))), (q0, .inl (K 2, 400, .inr (.inl (u_3356.2.2.1 1)))), (u0, .inl (K 0, 558, .inl (u_3356.2.1 1))), (i3, .inl (K 1, 819, .inl (u_3356.2.1 2))), (tf, .inl (K 0, 819, .inl (u_3356.2.1 3))), (le, .inl (K 0, 273, .inl (u_3356.2.1 4)))] H) (hD : va_D A [(m0, .inr (12, [.int 0, m_1, m_2, .ref w0, m_4, m_5, .ref u0, m_7, m_8, m_9, m_10, m_11, m_12, m_13, m_14, m_15, m_16, m_17, m_18, m_19, .int 0, m_21, m_22, m_23, m_24, m_25, m_26, m_27, m_28, m_29, m_30, m_31, m_32, m_33, .int (u_3356.2.2.2.1 0), .ref e0, m_36, .ref q0, .int (u_3356.2.2.2.1 1), .long (u_3356.2.2.2.2.1 0), .long (u_3356.2.2.2.2.1 1), m_41, .ref le, .ref tf, .ref i3, m_45, m_46, m_47, m_48, m_49, m_50, m_51, m_52, m_53, m_54, m_55, m_56, m_57, m_58, m_59])), (w0, .inl (K 0, 5500, .inl (u_3356.2.1 0))), (e0, .inl (K 2, 13, .inr (.inl (u_3356.2.2.1 0)))), (q0, .inl (K 2, 400, .inr (.inl (u_3356.2.2.1 1)))), (u0, .inl (K 0, 558, .inl (u_3356.2.1 1))), (i3, .inl (K 1, 819, .inl (u_3356.2.1 2))), (tf, .inl (K 0, 819, .inl (u_3356.2.1 3))), (le, .inl (K 0, 273, .inl (u_3356.2.1 4)))]) (hS : va_S A s.heap H locs) (ls : Array Slot) (hl : lv_has ls 8 [(5, .int x_3363), (0, .ref m0)]), W p l e ({ frames := 8, cells := 0, slots := 0, locals := 201 }) s m (([.ref m0, .int x, .int y, .int z, .int w] : List Value).toArray) below meth c H locs 0 0 Q (F0 m 94 ls []) := by
            intro H locs hP hD hS ls hl
            refine lv_aload_n hx hb dX12_least_94 rfl (lv_at hl 1 rfl) ?_
            refine va_get (ci := 12) (v := .ref le) (C := RX12) (T := TX12) (N := 60) hx hb hts hw12 hown hK hP 0 rfl rfl 42 (by decide) (hts (.fieldLink RX12 111 "SmokeTuneModel" "least" "[I") (List.mem_cons_of_mem _ (List.mem_append_left _ (List.mem_append_left _ (List.mem_of_getElem? (i := 4) rfl))))) (fun _ h9 => h9) rfl dX12_least_95 ?_
            refine lv_iload hx hb dX12_least_98 (lv_at hl 0 rfl) ?_
            refine va_iald hx hb hK hP 7 0 rfl rfl (i_in rfl (by omega)) dX12_least_100 ?_
            refine lv_topi (fun x_3678 ex_3678 => ?_)
            refine lv_ldcw (v := 100000000) hx hb hown (hts (.constant RX12 476 (100000000)) (List.mem_cons_of_mem _ (List.mem_append_left _ (List.mem_append_left _ (List.mem_of_getElem? (i := 5) rfl))))) dX12_least_101 ?_
            refine lv_icmp_ne (tgt := 111) hx hb dX12_least_104 (by decide) (fun c_3679 => ?_) (fun c_3679 => ?_)
            · have c_3679i := i_ne (x := x_3678.toInt) (y := 100000000) rfl rfl c_3679
              refine lv_aload_n hx hb dX12_least_111 rfl (lv_at hl 1 rfl) ?_
              refine va_get (ci := 12) (v := .ref le) (C := RX12) (T := TX12) (N := 60) hx hb hts hw12 hown hK hP 0 rfl rfl 42 (by decide) (hts (.fieldLink RX12 111 "SmokeTuneModel" "least" "[I") (List.mem_cons_of_mem _ (List.mem_append_left _ (List.mem_append_left _ (List.mem_of_getElem? (i := 4) rfl))))) (fun _ h9 => h9) rfl dX12_least_112 ?_
              refine lv_iload hx hb dX12_least_115 (lv_at hl 0 rfl) ?_
              refine va_iald hx hb hK hP 7 0 rfl rfl (i_in rfl (by omega)) dX12_least_117 ?_
              refine lv_topi (fun x_3680 ex_3680 => ?_)
              subst hQ
              have hP9 := hP.sub (ws' := [(m0, .inr (12, [.int 0, m_1, m_2, .ref w0, m_4, m_5, .ref u0, m_7, m_8, m_9, m_10, m_11, m_12, m_13, m_14, m_15, m_16, m_17, m_18, m_19, .int 0, m_21, m_22, m_23, m_24, m_25, m_26, m_27, m_28, m_29, m_30, m_31, m_32, m_33, .int (u_3356.2.2.2.1 0), .ref e0, m_36, .ref q0, .int (u_3356.2.2.2.1 1), .long (u_3356.2.2.2.2.1 0), .long (u_3356.2.2.2.2.1 1), m_41, .ref le, .ref tf, .ref i3, m_45, m_46, m_47, m_48, m_49, m_50, m_51, m_52, m_53, m_54, m_55, m_56, m_57, m_58, m_59])), (w0, .inl (K 0, 5500, .inl (u_3356.2.1 0))), (e0, .inl (K 2, 13, .inr (.inl (u_3356.2.2.1 0)))), (q0, .inl (K 2, 400, .inr (.inl (u_3356.2.2.1 1)))), (u0, .inl (K 0, 558, .inl (u_3356.2.1 1))), (i3, .inl (K 1, 819, .inl (u_3356.2.1 2))), (tf, .inl (K 0, 819, .inl (u_3356.2.1 3))), (le, .inl (K 0, 273, .inl (u_3356.2.1 4)))]) [0, 1, 2, 3, 4, 5, 6, 7] rfl
              have hD9 := hD.sub (ws' := [(m0, .inr (12, [.int 0, m_1, m_2, .ref w0, m_4, m_5, .ref u0, m_7, m_8, m_9, m_10, m_11, m_12, m_13, m_14, m_15, m_16, m_17, m_18, m_19, .int 0, m_21, m_22, m_23, m_24, m_25, m_26, m_27, m_28, m_29, m_30, m_31, m_32, m_33, .int (u_3356.2.2.2.1 0), .ref e0, m_36, .ref q0, .int (u_3356.2.2.2.1 1), .long (u_3356.2.2.2.2.1 0), .long (u_3356.2.2.2.2.1 1), m_41, .ref le, .ref tf, .ref i3, m_45, m_46, m_47, m_48, m_49, m_50, m_51, m_52, m_53, m_54, m_55, m_56, m_57, m_58, m_59])), (w0, .inl (K 0, 5500, .inl (u_3356.2.1 0))), (e0, .inl (K 2, 13, .inr (.inl (u_3356.2.2.1 0)))), (q0, .inl (K 2, 400, .inr (.inl (u_3356.2.2.1 1)))), (u0, .inl (K 0, 558, .inl (u_3356.2.1 1))), (i3, .inl (K 1, 819, .inl (u_3356.2.1 2))), (tf, .inl (K 0, 819, .inl (u_3356.2.1 3))), (le, .inl (K 0, 273, .inl (u_3356.2.1 4)))]) [0, 1, 2, 3, 4, 5, 6, 7] (by decide) rfl
              exact W.iret (v := x_3680) hx hb hr (fun t ht hW => ⟨⟨x_3680, ((fun _ => 0, fun i => match i with | 0 => (u_3356.2.1 0) | 1 => (u_3356.2.1 1) | 2 => (u_3356.2.1 2) | 3 => (u_3356.2.1 3) | _ => (u_3356.2.1 4), fun i => match i with | 0 => (u_3356.2.2.1 0) | _ => (u_3356.2.2.1 1), fun i => match i with | 0 => (u_3356.2.2.2.1 0) | _ => (u_3356.2.2.2.1 1), fun i => match i with | 0 => (u_3356.2.2.2.2.1 0) | _ => (u_3356.2.2.2.2.1 1), fun _ => fun _ => none) : Su), rfl, ⟨(show 0 ≤ ((u_3356.2.2.2.1 1) : Int32).toInt ∧ ((u_3356.2.2.2.1 1) : Int32).toInt ≤ 1 by omega), k_3358, k_3359, k_3360, trivial⟩, (⟨by rw [ht]; exact hP9, hD9⟩ : Wd D A _ t)⟩, hS.F ht⟩) hS.2.2 dX12_least_118
            · have c_3679i := i_eq (x := x_3678.toInt) (y := 100000000) rfl rfl c_3679
              refine lv_iconst (v := (-1)) hx hb dX12_least_107 (by decide) ?_
              refine lv_goto (tgt := 118) hx hb dX12_least_108 (by decide) ?_
              subst hQ
              have hP9 := hP.sub (ws' := [(m0, .inr (12, [.int 0, m_1, m_2, .ref w0, m_4, m_5, .ref u0, m_7, m_8, m_9, m_10, m_11, m_12, m_13, m_14, m_15, m_16, m_17, m_18, m_19, .int 0, m_21, m_22, m_23, m_24, m_25, m_26, m_27, m_28, m_29, m_30, m_31, m_32, m_33, .int (u_3356.2.2.2.1 0), .ref e0, m_36, .ref q0, .int (u_3356.2.2.2.1 1), .long (u_3356.2.2.2.2.1 0), .long (u_3356.2.2.2.2.1 1), m_41, .ref le, .ref tf, .ref i3, m_45, m_46, m_47, m_48, m_49, m_50, m_51, m_52, m_53, m_54, m_55, m_56, m_57, m_58, m_59])), (w0, .inl (K 0, 5500, .inl (u_3356.2.1 0))), (e0, .inl (K 2, 13, .inr (.inl (u_3356.2.2.1 0)))), (q0, .inl (K 2, 400, .inr (.inl (u_3356.2.2.1 1)))), (u0, .inl (K 0, 558, .inl (u_3356.2.1 1))), (i3, .inl (K 1, 819, .inl (u_3356.2.1 2))), (tf, .inl (K 0, 819, .inl (u_3356.2.1 3))), (le, .inl (K 0, 273, .inl (u_3356.2.1 4)))]) [0, 1, 2, 3, 4, 5, 6, 7] rfl
              have hD9 := hD.sub (ws' := [(m0, .inr (12, [.int 0, m_1, m_2, .ref w0, m_4, m_5, .ref u0, m_7, m_8, m_9, m_10, m_11, m_12, m_13, m_14, m_15, m_16, m_17, m_18, m_19, .int 0, m_21, m_22, m_23, m_24, m_25, m_26, m_27, m_28, m_29, m_30, m_31, m_32, m_33, .int (u_3356.2.2.2.1 0), .ref e0, m_36, .ref q0, .int (u_3356.2.2.2.1 1), .long (u_3356.2.2.2.2.1 0), .long (u_3356.2.2.2.2.1 1), m_41, .ref le, .ref tf, .ref i3, m_45, m_46, m_47, m_48, m_49, m_50, m_51, m_52, m_53, m_54, m_55, m_56, m_57, m_58, m_59])), (w0, .inl (K 0, 5500, .inl (u_3356.2.1 0))), (e0, .inl (K 2, 13, .inr (.inl (u_3356.2.2.1 0)))), (q0, .inl (K 2, 400, .inr (.inl (u_3356.2.2.1 1)))), (u0, .inl (K 0, 558, .inl (u_3356.2.1 1))), (i3, .inl (K 1, 819, .inl (u_3356.2.1 2))), (tf, .inl (K 0, 819, .inl (u_3356.2.1 3))), (le, .inl (K 0, 273, .inl (u_3356.2.1 4)))]) [0, 1, 2, 3, 4, 5, 6, 7] (by decide) rfl
              exact W.iret (v := (-1)) hx hb hr (fun t ht hW => ⟨⟨(-1), ((fun _ => 0, fun i => match i with | 0 => (u_3356.2.1 0) | 1 => (u_3356.2.1 1) | 2 => (u_3356.2.1 2) | 3 => (u_3356.2.1 3) | _ => (u_3356.2.1 4), fun i => match i with | 0 => (u_3356.2.2.1 0) | _ => (u_3356.2.2.1 1), fun i => match i with | 0 => (u_3356.2.2.2.1 0) | _ => (u_3356.2.2.2.1 1), fun i => match i with | 0 => (u_3356.2.2.2.2.1 0) | _ => (u_3356.2.2.2.2.1 1), fun _ => fun _ => none) : Su), rfl, ⟨(show 0 ≤ ((u_3356.2.2.2.1 1) : Int32).toInt ∧ ((u_3356.2.2.2.1 1) : Int32).toInt ≤ 1 by omega), k_3358, k_3359, k_3360, trivial⟩, (⟨by rw [ht]; exact hP9, hD9⟩ : Wd D A _ t)⟩, hS.F ht⟩) hS.2.2 dX12_least_118
          refine lv_icmp_eq (tgt := 94) hx hb dX12_least_85 (by decide) (fun c_3681 => ?_) (fun c_3681 => ?_)
          · have c_3681i := i_eq (x := x_3364.toInt) (y := 100000000) rfl rfl c_3681
            exact j_3677   _ _ hP hD hS ls (lv_sub hl [0, 1] rfl)
          · have c_3681i := i_ne (x := x_3364.toInt) (y := 100000000) rfl rfl c_3681
            refine lv_iload hx hb dX12_least_88 (lv_at hl 5 rfl) ?_
            refine lv_iconst (v := (-1)) hx hb dX12_least_90 (by decide) ?_
            refine lv_icmp_ne (tgt := 119) hx hb dX12_least_91 (by decide) (fun c_3682 => ?_) (fun c_3682 => ?_)
            · have c_3682i := i_ne (x := w.toInt) (y := (-1)) rfl rfl c_3682
              refine lv_iconst (v := 0) hx hb dX12_least_119 (by decide) ?_
              refine lv_istore (lv' := [(6, .int 0), (5, .int x_3363), (0, .ref m0), (1, .int x), (2, .int y), (3, .int z), (4, .int w)]) hx hb dX12_least_120 hl (by decide) rfl (fun ls hl => ?_)
              refine lv_iconst (v := 0) hx hb dX12_least_122 (by decide) ?_
              refine lv_istore (lv' := [(7, .int 0), (6, .int 0), (5, .int x_3363), (0, .ref m0), (1, .int x), (2, .int y), (3, .int z), (4, .int w)]) hx hb dX12_least_123 hl (by decide) rfl (fun ls hl => ?_)
              have lp_3939 : ∀ (nn_ : Nat) (v_3835 : Int32) (v_3836 : Int32) (v_3837 : Int32) (hv_3835 : 0 ≤ v_3835.toInt ∧ v_3835.toInt ≤ 12) (hv_3836 : 0 ≤ v_3836.toInt ∧ v_3836.toInt ≤ 2) (hv_3837 : 0 ≤ v_3837.toInt ∧ v_3837.toInt ≤ 20) (hn : (13 - v_3835.toInt : Int).toNat < nn_) (H : Heap) (locs : List Loc) (hP : va_P D vwCl [(m0, .inr (12, [.int 0, m_1, m_2, .ref w0, m_4, m_5, .ref u0, m_7, m_8, m_9, m_10, m_11, m_12, m_13, m_14, m_15, m_16, m_17, m_18, m_19, .int 0, m_21, m_22, m_23, m_24, m_25, m_26, m_27, m_28, m_29, m_30, m_31, m_32, m_33, .int (u_3356.2.2.2.1 0), .ref e0, m_36, .ref q0, .int (u_3356.2.2.2.1 1), .long (u_3356.2.2.2.2.1 0), .long (u_3356.2.2.2.2.1 1), m_41, .ref le, .ref tf, .ref i3, m_45, m_46, m_47, m_48, m_49, m_50, m_51, m_52, m_53, m_54, m_55, m_56, m_57, m_58, m_59])), (w0, .inl (K 0, 5500, .inl (u_3356.2.1 0))), (e0, .inl (K 2, 13, .inr (.inl (u_3356.2.2.1 0)))), (q0, .inl (K 2, 400, .inr (.inl (u_3356.2.2.1 1)))), (u0, .inl (K 0, 558, .inl (u_3356.2.1 1))), (i3, .inl (K 1, 819, .inl (u_3356.2.1 2))), (tf, .inl (K 0, 819, .inl (u_3356.2.1 3))), (le, .inl (K 0, 273, .inl (u_3356.2.1 4)))] H) (hD : va_D A [(m0, .inr (12, [.int 0, m_1, m_2, .ref w0, m_4, m_5, .ref u0, m_7, m_8, m_9, m_10, m_11, m_12, m_13, m_14, m_15, m_16, m_17, m_18, m_19, .int 0, m_21, m_22, m_23, m_24, m_25, m_26, m_27, m_28, m_29, m_30, m_31, m_32, m_33, .int (u_3356.2.2.2.1 0), .ref e0, m_36, .ref q0, .int (u_3356.2.2.2.1 1), .long (u_3356.2.2.2.2.1 0), .long (u_3356.2.2.2.2.1 1), m_41, .ref le, .ref tf, .ref i3, m_45, m_46, m_47, m_48, m_49, m_50, m_51, m_52, m_53, m_54, m_55, m_56, m_57, m_58, m_59])), (w0, .inl (K 0, 5500, .inl (u_3356.2.1 0))), (e0, .inl (K 2, 13, .inr (.inl (u_3356.2.2.1 0)))), (q0, .inl (K 2, 400, .inr (.inl (u_3356.2.2.1 1)))), (u0, .inl (K 0, 558, .inl (u_3356.2.1 1))), (i3, .inl (K 1, 819, .inl (u_3356.2.1 2))), (tf, .inl (K 0, 819, .inl (u_3356.2.1 3))), (le, .inl (K 0, 273, .inl (u_3356.2.1 4)))]) (hS : va_S A s.heap H locs) (ls : Array Slot) (hl : lv_has ls 8 [(7, .int v_3835), (6, .int v_3836), (5, .int v_3837), (0, .ref m0), (4, .int w)]), W p l e ({ frames := 8, cells := 0, slots := 0, locals := 201 }) s m (([.ref m0, .int x, .int y, .int z, .int w] : List Value).toArray) below meth c H locs 0 0 Q (F0 m 125 ls []) := by
                intro nn_
                induction nn_ with
                | zero =>
                  intro v_3835 v_3836 v_3837 hv_3835 hv_3836 hv_3837 hn H locs hP hD hS ls hl
                  exact absurd hn (Nat.not_lt_zero _)
                | succ nn_ ih_3940 =>
                  intro v_3835 v_3836 v_3837 hv_3835 hv_3836 hv_3837 hn H locs hP hD hS ls hl
                  refine lv_iload hx hb dX12_least_125 (lv_at hl 0 rfl) ?_
                  refine lv_iload hx hb dX12_least_127 (lv_at hl 4 rfl) ?_
                  refine lv_icmp_gt (tgt := 193) hx hb dX12_least_129 (by decide) (fun c_3941 => ?_) (fun c_3941 => ?_)
                  · have c_3941i := i_lt (x := w.toInt) (y := v_3835.toInt) rfl rfl c_3941
                    refine lv_iload hx hb dX12_least_193 (lv_at hl 1 rfl) ?_
                    subst hQ
                    have hP9 := hP.sub (ws' := [(m0, .inr (12, [.int 0, m_1, m_2, .ref w0, m_4, m_5, .ref u0, m_7, m_8, m_9, m_10, m_11, m_12, m_13, m_14, m_15, m_16, m_17, m_18, m_19, .int 0, m_21, m_22, m_23, m_24, m_25, m_26, m_27, m_28, m_29, m_30, m_31, m_32, m_33, .int (u_3356.2.2.2.1 0), .ref e0, m_36, .ref q0, .int (u_3356.2.2.2.1 1), .long (u_3356.2.2.2.2.1 0), .long (u_3356.2.2.2.2.1 1), m_41, .ref le, .ref tf, .ref i3, m_45, m_46, m_47, m_48, m_49, m_50, m_51, m_52, m_53, m_54, m_55, m_56, m_57, m_58, m_59])), (w0, .inl (K 0, 5500, .inl (u_3356.2.1 0))), (e0, .inl (K 2, 13, .inr (.inl (u_3356.2.2.1 0)))), (q0, .inl (K 2, 400, .inr (.inl (u_3356.2.2.1 1)))), (u0, .inl (K 0, 558, .inl (u_3356.2.1 1))), (i3, .inl (K 1, 819, .inl (u_3356.2.1 2))), (tf, .inl (K 0, 819, .inl (u_3356.2.1 3))), (le, .inl (K 0, 273, .inl (u_3356.2.1 4)))]) [0, 1, 2, 3, 4, 5, 6, 7] rfl
                    have hD9 := hD.sub (ws' := [(m0, .inr (12, [.int 0, m_1, m_2, .ref w0, m_4, m_5, .ref u0, m_7, m_8, m_9, m_10, m_11, m_12, m_13, m_14, m_15, m_16, m_17, m_18, m_19, .int 0, m_21, m_22, m_23, m_24, m_25, m_26, m_27, m_28, m_29, m_30, m_31, m_32, m_33, .int (u_3356.2.2.2.1 0), .ref e0, m_36, .ref q0, .int (u_3356.2.2.2.1 1), .long (u_3356.2.2.2.2.1 0), .long (u_3356.2.2.2.2.1 1), m_41, .ref le, .ref tf, .ref i3, m_45, m_46, m_47, m_48, m_49, m_50, m_51, m_52, m_53, m_54, m_55, m_56, m_57, m_58, m_59])), (w0, .inl (K 0, 5500, .inl (u_3356.2.1 0))), (e0, .inl (K 2, 13, .inr (.inl (u_3356.2.2.1 0)))), (q0, .inl (K 2, 400, .inr (.inl (u_3356.2.2.1 1)))), (u0, .inl (K 0, 558, .inl (u_3356.2.1 1))), (i3, .inl (K 1, 819, .inl (u_3356.2.1 2))), (tf, .inl (K 0, 819, .inl (u_3356.2.1 3))), (le, .inl (K 0, 273, .inl (u_3356.2.1 4)))]) [0, 1, 2, 3, 4, 5, 6, 7] (by decide) rfl
                    exact W.iret (v := v_3836) hx hb hr (fun t ht hW => ⟨⟨v_3836, ((fun _ => 0, fun i => match i with | 0 => (u_3356.2.1 0) | 1 => (u_3356.2.1 1) | 2 => (u_3356.2.1 2) | 3 => (u_3356.2.1 3) | _ => (u_3356.2.1 4), fun i => match i with | 0 => (u_3356.2.2.1 0) | _ => (u_3356.2.2.1 1), fun i => match i with | 0 => (u_3356.2.2.2.1 0) | _ => (u_3356.2.2.2.1 1), fun i => match i with | 0 => (u_3356.2.2.2.2.1 0) | _ => (u_3356.2.2.2.2.1 1), fun _ => fun _ => none) : Su), rfl, ⟨(show 0 ≤ ((u_3356.2.2.2.1 1) : Int32).toInt ∧ ((u_3356.2.2.2.1 1) : Int32).toInt ≤ 1 by omega), k_3358, k_3359, k_3360, trivial⟩, (⟨by rw [ht]; exact hP9, hD9⟩ : Wd D A _ t)⟩, hS.F ht⟩) hS.2.2 dX12_least_195
                  · have c_3941i := i_nlt (x := w.toInt) (y := v_3835.toInt) rfl rfl c_3941
                    refine lv_iconst (v := 0) hx hb dX12_least_132 (by decide) ?_
                    refine lv_istore (lv' := [(6, .int 0), (7, .int v_3835), (5, .int v_3837), (0, .ref m0), (4, .int w)]) hx hb dX12_least_133 hl (by decide) rfl (fun ls hl => ?_)
                    have lp_3975 : ∀ (nn_ : Nat) (v_3961 : Int32) (hv_3961 : 0 ≤ v_3961.toInt ∧ v_3961.toInt ≤ 2) (hr0_lp_3975 : WLe (u_3356.2.1 2) (u_3356.2.1 3) (u_3356.2.1 4) v_3835.toInt v_3837.toInt v_3961.toInt) (hn : (3 - v_3961.toInt : Int).toNat < nn_) (H : Heap) (locs : List Loc) (hP : va_P D vwCl [(m0, .inr (12, [.int 0, m_1, m_2, .ref w0, m_4, m_5, .ref u0, m_7, m_8, m_9, m_10, m_11, m_12, m_13, m_14, m_15, m_16, m_17, m_18, m_19, .int 0, m_21, m_22, m_23, m_24, m_25, m_26, m_27, m_28, m_29, m_30, m_31, m_32, m_33, .int (u_3356.2.2.2.1 0), .ref e0, m_36, .ref q0, .int (u_3356.2.2.2.1 1), .long (u_3356.2.2.2.2.1 0), .long (u_3356.2.2.2.2.1 1), m_41, .ref le, .ref tf, .ref i3, m_45, m_46, m_47, m_48, m_49, m_50, m_51, m_52, m_53, m_54, m_55, m_56, m_57, m_58, m_59])), (w0, .inl (K 0, 5500, .inl (u_3356.2.1 0))), (e0, .inl (K 2, 13, .inr (.inl (u_3356.2.2.1 0)))), (q0, .inl (K 2, 400, .inr (.inl (u_3356.2.2.1 1)))), (u0, .inl (K 0, 558, .inl (u_3356.2.1 1))), (i3, .inl (K 1, 819, .inl (u_3356.2.1 2))), (tf, .inl (K 0, 819, .inl (u_3356.2.1 3))), (le, .inl (K 0, 273, .inl (u_3356.2.1 4)))] H) (hD : va_D A [(m0, .inr (12, [.int 0, m_1, m_2, .ref w0, m_4, m_5, .ref u0, m_7, m_8, m_9, m_10, m_11, m_12, m_13, m_14, m_15, m_16, m_17, m_18, m_19, .int 0, m_21, m_22, m_23, m_24, m_25, m_26, m_27, m_28, m_29, m_30, m_31, m_32, m_33, .int (u_3356.2.2.2.1 0), .ref e0, m_36, .ref q0, .int (u_3356.2.2.2.1 1), .long (u_3356.2.2.2.2.1 0), .long (u_3356.2.2.2.2.1 1), m_41, .ref le, .ref tf, .ref i3, m_45, m_46, m_47, m_48, m_49, m_50, m_51, m_52, m_53, m_54, m_55, m_56, m_57, m_58, m_59])), (w0, .inl (K 0, 5500, .inl (u_3356.2.1 0))), (e0, .inl (K 2, 13, .inr (.inl (u_3356.2.2.1 0)))), (q0, .inl (K 2, 400, .inr (.inl (u_3356.2.2.1 1)))), (u0, .inl (K 0, 558, .inl (u_3356.2.1 1))), (i3, .inl (K 1, 819, .inl (u_3356.2.1 2))), (tf, .inl (K 0, 819, .inl (u_3356.2.1 3))), (le, .inl (K 0, 273, .inl (u_3356.2.1 4)))]) (hS : va_S A s.heap H locs) (ls : Array Slot) (hl : lv_has ls 8 [(6, .int v_3961), (7, .int v_3835), (5, .int v_3837), (0, .ref m0), (4, .int w)]), W p l e ({ frames := 8, cells := 0, slots := 0, locals := 201 }) s m (([.ref m0, .int x, .int y, .int z, .int w] : List Value).toArray) below meth c H locs 0 0 Q (F0 m 135 ls []) := by
                      intro nn_
                      induction nn_ with
                      | zero =>
                        intro v_3961 hv_3961 hr0_lp_3975 hn H locs hP hD hS ls hl
                        exact absurd hn (Nat.not_lt_zero _)
                      | succ nn_ ih_3976 =>
                        intro v_3961 hv_3961 hr0_lp_3975 hn H locs hP hD hS ls hl
                        refine lv_aload_n hx hb dX12_least_135 rfl (lv_at hl 3 rfl) ?_
                        refine lv_iload hx hb dX12_least_136 (lv_at hl 1 rfl) ?_
                        refine lv_iload hx hb dX12_least_138 (lv_at hl 2 rfl) ?_
                        refine lv_iload hx hb dX12_least_140 (lv_at hl 0 rfl) ?_
                        refine pci (va_runV (As := [.int v_3835, .int v_3837, .int v_3961]) (rest := []) ⟨hx, hb, hml, hown, hts⟩ (v_coalBy l D K m0 v_3835 v_3837 v_3961 (.int 0) m_1 m_2 (.ref w0) m_4 m_5 (.ref u0) m_7 m_8 m_9 m_10 m_11 m_12 m_13 m_14 m_15 m_16 m_17 m_18 m_19 (.int 0) m_21 m_22 m_23 m_24 m_25 m_26 m_27 m_28 m_29 m_30 m_31 m_32 m_33 (.int (u_3356.2.2.2.1 0)) (.ref e0) m_36 (.ref q0) (.int (u_3356.2.2.2.1 1)) (.long (u_3356.2.2.2.2.1 0)) (.long (u_3356.2.2.2.2.1 1)) m_41 le tf i3 m_45 m_46 m_47 m_48 m_49 m_50 m_51 m_52 m_53 m_54 m_55 m_56 m_57 m_58 m_59 (u_3356.2.1 2) (u_3356.2.1 3) (u_3356.2.1 4) H.size (by first | omega | decide) (by first | omega | decide) (by first | omega | decide) k_3360) (cwV 3 hts gX12_least_X12_coalBy rfl rfl rfl (by decide +kernel) ⟨Nat.le_of_ble_eq_true rfl, Nat.le_of_ble_eq_true rfl⟩) (mkV hK hN (hP.sub [0, 5, 6, 7] rfl) (hD.sub [0, 5, 6, 7] (by decide) rfl) (ci := 12) (q0 := 0) rfl rfl) rfl rfl hl.1 rfl (lv_room (Nat.le_of_ble_eq_true rfl)) dX12_least_142 ⟨Nat.le_of_ble_eq_true rfl, Nat.le_of_ble_eq_true rfl⟩) (fun r_3977 hw => ?_)
                        obtain ⟨⟨hcb_r_3977, hcr_r_3977⟩, -⟩ := hw
                        refine lv_aload_n hx hb dX12_least_145 rfl (lv_at hl 3 rfl) ?_
                        refine va_get (ci := 12) (v := .ref le) (C := RX12) (T := TX12) (N := 60) hx hb hts hw12 hown hK hP 0 rfl rfl 42 (by decide) (hts (.fieldLink RX12 111 "SmokeTuneModel" "least" "[I") (List.mem_cons_of_mem _ (List.mem_append_left _ (List.mem_append_left _ (List.mem_of_getElem? (i := 4) rfl))))) (fun _ h9 => h9) rfl dX12_least_146 ?_
                        refine lv_bipush (v := 21) hx hb dX12_least_149 (by decide) ?_
                        refine lv_iload hx hb dX12_least_151 (lv_at hl 1 rfl) ?_
                        refine lv_imul hx hb dX12_least_153 ?_
                        refine lv_topi (fun x_3978 ex_3978 => ?_)
                        have hx_3978 : x_3978.toInt = (21 * v_3835.toInt) := by rw [ex_3978]; exact i_mul (show (21 : Int32).toInt = 21 from rfl) rfl (by omega)
                        refine lv_iload hx hb dX12_least_154 (lv_at hl 2 rfl) ?_
                        refine lv_iadd hx hb dX12_least_156 ?_
                        refine lv_topi (fun x_3979 ex_3979 => ?_)
                        have hx_3979 : x_3979.toInt = ((21 * v_3835.toInt) + v_3837.toInt) := by rw [ex_3979]; exact i_add hx_3978 rfl (by omega)
                        refine va_iald hx hb hK hP 7 0 rfl rfl (i_in hx_3979 (by omega)) dX12_least_157 ?_
                        refine lv_topi (fun x_3980 ex_3980 => ?_)
                        have owx_3980 : x_3980.toInt = ((u_3356.2.1 4) (21 * v_3835.toInt + v_3837.toInt).toNat).toInt := by rw [ex_3980, i_clamp hx_3979]
                        refine lv_icmp_eq (tgt := 167) hx hb dX12_least_158 (by decide) (fun c_3981 => ?_) (fun c_3981 => ?_)
                        · have c_3981i := i_eq (x := r_3977.toInt) (y := x_3980.toInt) rfl rfl c_3981
                          refine lv_aload_n hx hb dX12_least_167 rfl (lv_at hl 3 rfl) ?_
                          refine va_get (ci := 12) (v := .ref tf) (C := RX12) (T := TX12) (N := 60) hx hb hts hw12 hown hK hP 0 rfl rfl 43 (by decide) (hts (.fieldLink RX12 114 "SmokeTuneModel" "thenFire" "[I") (List.mem_cons_of_mem _ (List.mem_append_left _ (List.mem_append_left _ (List.mem_of_getElem? (i := 6) rfl))))) (fun _ h9 => h9) rfl dX12_least_168 ?_
                          refine lv_bipush (v := 63) hx hb dX12_least_171 (by decide) ?_
                          refine lv_iload hx hb dX12_least_173 (lv_at hl 1 rfl) ?_
                          refine lv_imul hx hb dX12_least_175 ?_
                          refine lv_topi (fun x_3982 ex_3982 => ?_)
                          have hx_3982 : x_3982.toInt = (63 * v_3835.toInt) := by rw [ex_3982]; exact i_mul (show (63 : Int32).toInt = 63 from rfl) rfl (by omega)
                          refine lv_iconst (v := 3) hx hb dX12_least_176 (by decide) ?_
                          refine lv_iload hx hb dX12_least_177 (lv_at hl 2 rfl) ?_
                          refine lv_imul hx hb dX12_least_179 ?_
                          refine lv_topi (fun x_3983 ex_3983 => ?_)
                          have hx_3983 : x_3983.toInt = (3 * v_3837.toInt) := by rw [ex_3983]; exact i_mul (show (3 : Int32).toInt = 3 from rfl) rfl (by omega)
                          refine lv_iadd hx hb dX12_least_180 ?_
                          refine lv_topi (fun x_3984 ex_3984 => ?_)
                          have hx_3984 : x_3984.toInt = ((63 * v_3835.toInt) + (3 * v_3837.toInt)) := by rw [ex_3984]; exact i_add hx_3982 hx_3983 (by omega)
                          refine lv_iload hx hb dX12_least_181 (lv_at hl 0 rfl) ?_
                          refine lv_iadd hx hb dX12_least_183 ?_
                          refine lv_topi (fun x_3985 ex_3985 => ?_)
                          have hx_3985 : x_3985.toInt = (((63 * v_3835.toInt) + (3 * v_3837.toInt)) + v_3961.toInt) := by rw [ex_3985]; exact i_add hx_3984 rfl (by omega)
                          refine va_iald hx hb hK hP 6 0 rfl rfl (i_in hx_3985 (by omega)) dX12_least_184 ?_
                          refine lv_topi (fun x_3986 ex_3986 => ?_)
                          have hx_3986 := Rg.at k_3360 hx_3985 (show 0 ≤ (((63 * v_3835.toInt) + (3 * v_3837.toInt)) + v_3961.toInt) ∧ (((63 * v_3835.toInt) + (3 * v_3837.toInt)) + v_3961.toInt) < _ by omega)
                          rw [← ex_3986] at hx_3986
                          refine lv_istore (lv' := [(5, .int x_3986), (6, .int v_3961), (7, .int v_3835), (0, .ref m0), (4, .int w)]) hx hb dX12_least_185 hl (by decide) rfl (fun ls hl => ?_)
                          obtain ⟨x_3987, ex_3987⟩ : ∃ y : Int32, y = v_3835 + Int32.ofInt 1 := ⟨_, rfl⟩
                          have hx_3987 : x_3987.toInt = (v_3835.toInt + 1) := by rw [ex_3987]; exact i_add rfl (show (Int32.ofInt 1).toInt = 1 from rfl) (by omega)
                          refine lv_iinc (v := x_3987) (lv' := [(7, .int x_3987), (5, .int x_3986), (6, .int v_3961), (0, .ref m0), (4, .int w)]) hx hb dX12_least_187 hl (k := 2) rfl (by rw [ex_3987]) (by decide) rfl (fun ls hl => ?_)
                          refine lv_goto (tgt := 125) hx hb dX12_least_190 (by decide) ?_
                          exact ih_3940 x_3987 v_3961 x_3986 (by rw [hx_3987]; omega) (by omega) (by omega) (by omega) _ _ hP hD hS ls (lv_sub hl [0, 2, 1, 3, 4] rfl)
                        · have c_3981i := i_ne (x := r_3977.toInt) (y := x_3980.toInt) rfl rfl c_3981
                          obtain ⟨hwn1, hwn2⟩ := WLe.next hr0_lp_3975 hcb_r_3977 owx_3980 (by omega)
                          obtain ⟨x_3988, ex_3988⟩ : ∃ y : Int32, y = v_3961 + Int32.ofInt 1 := ⟨_, rfl⟩
                          have hx_3988 : x_3988.toInt = (v_3961.toInt + 1) := by rw [ex_3988]; exact i_add rfl (show (Int32.ofInt 1).toInt = 1 from rfl) (by omega)
                          refine lv_iinc (v := x_3988) (lv' := [(6, .int x_3988), (7, .int v_3835), (5, .int v_3837), (0, .ref m0), (4, .int w)]) hx hb dX12_least_161 hl (k := 0) rfl (by rw [ex_3988]) (by decide) rfl (fun ls hl => ?_)
                          refine lv_goto (tgt := 135) hx hb dX12_least_164 (by decide) ?_
                          exact ih_3976 x_3988 (by rw [hx_3988]; omega) (show WLe (u_3356.2.1 2) (u_3356.2.1 3) (u_3356.2.1 4) v_3835.toInt v_3837.toInt (x_3988 : Int32).toInt by rw [hx_3988]; exact hwn2) (by omega) _ _ hP hD hS ls (lv_sub hl [0, 1, 2, 3, 4] rfl)
                    have hz_3989 : (0 : Int32).toInt = 0 := rfl
                    exact lp_3975 ((3 - (0 : Int32).toInt : Int).toNat + 1) 0 (by decide) (show WLe (u_3356.2.1 2) (u_3356.2.1 3) (u_3356.2.1 4) v_3835.toInt v_3837.toInt (0 : Int32).toInt by exact WLe.base (n := y.toInt) k_3361 (by omega) (by omega)) (Nat.lt_succ_self _) _ _ hP hD hS ls (lv_sub hl [0, 1, 2, 3, 4] rfl)
              exact lp_3939 ((13 - (0 : Int32).toInt : Int).toNat + 1) 0 0 x_3363 (by decide) (by decide) (by omega) (Nat.lt_succ_self _) _ _ hP hD hS ls (lv_sub hl [0, 1, 2, 3, 7] rfl)
            · have c_3682i := i_eq (x := w.toInt) (y := (-1)) rfl rfl c_3682
              exact j_3677   _ _ hP hD hS ls (lv_sub hl [0, 1] rfl)
        · refine lv_if_ne (tgt := 57) hx hb dX12_least_52 (by decide) (fun c_3990 => absurd (by decide) c_3990) (fun c_3990 => ?_)
          exact j_3328   _ _ hP hD hS ls (lv_sub hl [] rfl)
      · refine lv_if_eq (tgt := 55) hx hb dX12_least_36 (by decide) (fun c_3991 => ?_) (fun c_3991 => absurd (by decide) c_3991)
        exact j_3328   _ _ hP hD hS ls (lv_sub hl [] rfl)
    · refine lv_if_eq (tgt := 55) hx hb dX12_least_22 (by decide) (fun c_3992 => ?_) (fun c_3992 => absurd (by decide) c_3992)
      exact j_3328   _ _ hP hD hS ls (lv_sub hl [] rfl)
  · refine lv_if_eq (tgt := 55) hx hb dX12_least_10 (by decide) (fun c_3993 => ?_) (fun c_3993 => absurd (by decide) c_3993)
    exact j_3328   _ _ hP hD hS ls (lv_sub hl [] rfl)
