theorem dX12_burnsOf_0 : decode cX12_burnsOf 0 = .ok (.aload_n 0, 1) := by decide +kernel
theorem dX12_burnsOf_1 : decode cX12_burnsOf 1 = .ok (.iload_n 1, 1) := by decide +kernel
theorem dX12_burnsOf_2 : decode cX12_burnsOf 2 = .ok (.iconst 0, 1) := by decide +kernel
theorem dX12_burnsOf_3 : decode cX12_burnsOf 3 = .ok (.iload_n 2, 1) := by decide +kernel
theorem dX12_burnsOf_4 : decode cX12_burnsOf 4 = .ok (.iconst (-1), 1) := by decide +kernel
theorem dX12_burnsOf_5 : decode cX12_burnsOf 5 = .ok (.lconst 1, 1) := by decide +kernel
theorem dX12_burnsOf_6 : decode cX12_burnsOf 6 = .ok (.invokevirtual 415, 3) := by decide +kernel
theorem dX12_burnsOf_9 : decode cX12_burnsOf 9 = .ok (.iconst 0, 1) := by decide +kernel
theorem dX12_burnsOf_10 : decode cX12_burnsOf 10 = .ok (.bipush 20, 2) := by decide +kernel
theorem dX12_burnsOf_12 : decode cX12_burnsOf 12 = .ok (.invokestatic 419, 3) := by decide +kernel
theorem dX12_burnsOf_15 : decode cX12_burnsOf 15 = .ok (.ireturn, 1) := by decide +kernel
theorem dX12_flaresOf_0 : decode cX12_flaresOf 0 = .ok (.aload_n 0, 1) := by decide +kernel
theorem dX12_flaresOf_1 : decode cX12_flaresOf 1 = .ok (.iload_n 1, 1) := by decide +kernel
theorem dX12_flaresOf_2 : decode cX12_flaresOf 2 = .ok (.iconst 1, 1) := by decide +kernel
theorem dX12_flaresOf_3 : decode cX12_flaresOf 3 = .ok (.iload_n 2, 1) := by decide +kernel
theorem dX12_flaresOf_4 : decode cX12_flaresOf 4 = .ok (.iconst (-1), 1) := by decide +kernel
theorem dX12_flaresOf_5 : decode cX12_flaresOf 5 = .ok (.ldc2_w 423, 3) := by decide +kernel
theorem dX12_flaresOf_8 : decode cX12_flaresOf 8 = .ok (.invokevirtual 415, 3) := by decide +kernel
theorem dX12_flaresOf_11 : decode cX12_flaresOf 11 = .ok (.iconst 0, 1) := by decide +kernel
theorem dX12_flaresOf_12 : decode cX12_flaresOf 12 = .ok (.bipush 20, 2) := by decide +kernel
theorem dX12_flaresOf_14 : decode cX12_flaresOf 14 = .ok (.invokestatic 419, 3) := by decide +kernel
theorem dX12_flaresOf_17 : decode cX12_flaresOf 17 = .ok (.ireturn, 1) := by decide +kernel
theorem dX12_isBarred_0 : decode cX12_isBarred 0 = .ok (.aload_n 0, 1) := by decide +kernel
theorem dX12_isBarred_1 : decode cX12_isBarred 1 = .ok (.aload_n 0, 1) := by decide +kernel
theorem dX12_isBarred_2 : decode cX12_isBarred 2 = .ok (.getfield 13, 3) := by decide +kernel
theorem dX12_isBarred_5 : decode cX12_isBarred 5 = .ok (.iconst 3, 1) := by decide +kernel
theorem dX12_isBarred_6 : decode cX12_isBarred 6 = .ok (.iaload, 1) := by decide +kernel
theorem dX12_isBarred_7 : decode cX12_isBarred 7 = .ok (.iconst 3, 1) := by decide +kernel
theorem dX12_isBarred_8 : decode cX12_isBarred 8 = .ok (.iload_n 1, 1) := by decide +kernel
theorem dX12_isBarred_9 : decode cX12_isBarred 9 = .ok (.iconst (-1), 1) := by decide +kernel
theorem dX12_isBarred_10 : decode cX12_isBarred 10 = .ok (.lconst 0, 1) := by decide +kernel
theorem dX12_isBarred_11 : decode cX12_isBarred 11 = .ok (.invokevirtual 415, 3) := by decide +kernel
theorem dX12_isBarred_14 : decode cX12_isBarred 14 = .ok (.lconst 1, 1) := by decide +kernel
theorem dX12_isBarred_15 : decode cX12_isBarred 15 = .ok (.lcmp, 1) := by decide +kernel
theorem dX12_isBarred_16 : decode cX12_isBarred 16 = .ok (.ifCond .ne 7, 3) := by decide +kernel
theorem dX12_isBarred_23 : decode cX12_isBarred 23 = .ok (.iconst 0, 1) := by decide +kernel
theorem dX12_isBarred_24 : decode cX12_isBarred 24 = .ok (.ireturn, 1) := by decide +kernel
theorem dX12_isBarred_19 : decode cX12_isBarred 19 = .ok (.iconst 1, 1) := by decide +kernel
theorem dX12_isBarred_20 : decode cX12_isBarred 20 = .ok (.goto 4, 3) := by decide +kernel
theorem dX12_of_0 : decode cX12_of 0 = .ok (.aload_n 0, 1) := by decide +kernel
theorem dX12_of_1 : decode cX12_of 1 = .ok (.iconst 0, 1) := by decide +kernel
theorem dX12_of_2 : decode cX12_of 2 = .ok (.putfield 158, 3) := by decide +kernel
theorem dX12_of_5 : decode cX12_of 5 = .ok (.aload_n 0, 1) := by decide +kernel
theorem dX12_of_6 : decode cX12_of 6 = .ok (.iload_n 1, 1) := by decide +kernel
theorem dX12_of_7 : decode cX12_of 7 = .ok (.invokevirtual 197, 3) := by decide +kernel
theorem dX12_of_10 : decode cX12_of 10 = .ok (.ifCond .ne 5, 3) := by decide +kernel
theorem dX12_of_15 : decode cX12_of 15 = .ok (.iload_n 2, 1) := by decide +kernel
theorem dX12_of_16 : decode cX12_of 16 = .ok (.tableswitch 182 0 10 #[60, 70, 80, 90, 100, 110, 120, 130, 144, 156, 168], 60) := by decide +kernel
theorem dX12_of_76 : decode cX12_of 76 = .ok (.aload_n 0, 1) := by decide +kernel
theorem dX12_of_77 : decode cX12_of 77 = .ok (.getfield 13, 3) := by decide +kernel
theorem dX12_of_80 : decode cX12_of 80 = .ok (.bipush 35, 2) := by decide +kernel
theorem dX12_of_82 : decode cX12_of 82 = .ok (.iload_n 1, 1) := by decide +kernel
theorem dX12_of_83 : decode cX12_of 83 = .ok (.iadd, 1) := by decide +kernel
theorem dX12_of_84 : decode cX12_of 84 = .ok (.iaload, 1) := by decide +kernel
theorem dX12_of_85 : decode cX12_of 85 = .ok (.ireturn, 1) := by decide +kernel
theorem dX12_of_86 : decode cX12_of 86 = .ok (.aload_n 0, 1) := by decide +kernel
theorem dX12_of_87 : decode cX12_of 87 = .ok (.getfield 13, 3) := by decide +kernel
theorem dX12_of_90 : decode cX12_of 90 = .ok (.bipush 43, 2) := by decide +kernel
theorem dX12_of_92 : decode cX12_of 92 = .ok (.iload_n 1, 1) := by decide +kernel
theorem dX12_of_93 : decode cX12_of 93 = .ok (.iadd, 1) := by decide +kernel
theorem dX12_of_94 : decode cX12_of 94 = .ok (.iaload, 1) := by decide +kernel
theorem dX12_of_95 : decode cX12_of 95 = .ok (.ireturn, 1) := by decide +kernel
theorem dX12_of_96 : decode cX12_of 96 = .ok (.aload_n 0, 1) := by decide +kernel
theorem dX12_of_97 : decode cX12_of 97 = .ok (.getfield 13, 3) := by decide +kernel
theorem dX12_of_100 : decode cX12_of 100 = .ok (.bipush 19, 2) := by decide +kernel
theorem dX12_of_102 : decode cX12_of 102 = .ok (.iload_n 1, 1) := by decide +kernel
theorem dX12_of_103 : decode cX12_of 103 = .ok (.iadd, 1) := by decide +kernel
theorem dX12_of_104 : decode cX12_of 104 = .ok (.iaload, 1) := by decide +kernel
theorem dX12_of_105 : decode cX12_of 105 = .ok (.ireturn, 1) := by decide +kernel
theorem dX12_of_106 : decode cX12_of 106 = .ok (.aload_n 0, 1) := by decide +kernel
theorem dX12_of_107 : decode cX12_of 107 = .ok (.getfield 13, 3) := by decide +kernel
theorem dX12_of_110 : decode cX12_of 110 = .ok (.bipush 51, 2) := by decide +kernel
theorem dX12_of_112 : decode cX12_of 112 = .ok (.iload_n 1, 1) := by decide +kernel
theorem dX12_of_113 : decode cX12_of 113 = .ok (.iadd, 1) := by decide +kernel
theorem dX12_of_114 : decode cX12_of 114 = .ok (.iaload, 1) := by decide +kernel
theorem dX12_of_115 : decode cX12_of 115 = .ok (.ireturn, 1) := by decide +kernel
theorem dX12_of_116 : decode cX12_of 116 = .ok (.aload_n 0, 1) := by decide +kernel
theorem dX12_of_117 : decode cX12_of 117 = .ok (.getfield 13, 3) := by decide +kernel
theorem dX12_of_120 : decode cX12_of 120 = .ok (.bipush 59, 2) := by decide +kernel
theorem dX12_of_122 : decode cX12_of 122 = .ok (.iload_n 1, 1) := by decide +kernel
theorem dX12_of_123 : decode cX12_of 123 = .ok (.iadd, 1) := by decide +kernel
theorem dX12_of_124 : decode cX12_of 124 = .ok (.iaload, 1) := by decide +kernel
theorem dX12_of_125 : decode cX12_of 125 = .ok (.ireturn, 1) := by decide +kernel
theorem dX12_of_126 : decode cX12_of 126 = .ok (.aload_n 0, 1) := by decide +kernel
theorem dX12_of_127 : decode cX12_of 127 = .ok (.getfield 13, 3) := by decide +kernel
theorem dX12_of_130 : decode cX12_of 130 = .ok (.bipush 11, 2) := by decide +kernel
theorem dX12_of_132 : decode cX12_of 132 = .ok (.iload_n 1, 1) := by decide +kernel
theorem dX12_of_133 : decode cX12_of 133 = .ok (.iadd, 1) := by decide +kernel
theorem dX12_of_134 : decode cX12_of 134 = .ok (.iaload, 1) := by decide +kernel
theorem dX12_of_135 : decode cX12_of 135 = .ok (.ireturn, 1) := by decide +kernel
theorem dX12_of_136 : decode cX12_of 136 = .ok (.aload_n 0, 1) := by decide +kernel
theorem dX12_of_137 : decode cX12_of 137 = .ok (.getfield 13, 3) := by decide +kernel
theorem dX12_of_140 : decode cX12_of 140 = .ok (.bipush 27, 2) := by decide +kernel
theorem dX12_of_142 : decode cX12_of 142 = .ok (.iload_n 1, 1) := by decide +kernel
theorem dX12_of_143 : decode cX12_of 143 = .ok (.iadd, 1) := by decide +kernel
theorem dX12_of_144 : decode cX12_of 144 = .ok (.iaload, 1) := by decide +kernel
theorem dX12_of_145 : decode cX12_of 145 = .ok (.ireturn, 1) := by decide +kernel
theorem dX12_of_146 : decode cX12_of 146 = .ok (.aload_n 0, 1) := by decide +kernel
theorem dX12_of_147 : decode cX12_of 147 = .ok (.iload_n 1, 1) := by decide +kernel
theorem dX12_of_148 : decode cX12_of 148 = .ok (.invokevirtual 185, 3) := by decide +kernel
theorem dX12_of_151 : decode cX12_of 151 = .ok (.ifCond .eq 7, 3) := by decide +kernel
theorem dX12_of_158 : decode cX12_of 158 = .ok (.iconst 0, 1) := by decide +kernel
theorem dX12_of_159 : decode cX12_of 159 = .ok (.ireturn, 1) := by decide +kernel
theorem dX12_of_154 : decode cX12_of 154 = .ok (.iconst 1, 1) := by decide +kernel
theorem dX12_of_155 : decode cX12_of 155 = .ok (.goto 4, 3) := by decide +kernel
theorem dX12_of_160 : decode cX12_of 160 = .ok (.aload_n 0, 1) := by decide +kernel
theorem dX12_of_161 : decode cX12_of 161 = .ok (.aload_n 0, 1) := by decide +kernel
theorem dX12_of_162 : decode cX12_of 162 = .ok (.getfield 13, 3) := by decide +kernel
theorem dX12_of_165 : decode cX12_of 165 = .ok (.iconst 3, 1) := by decide +kernel
theorem dX12_of_166 : decode cX12_of 166 = .ok (.iaload, 1) := by decide +kernel
theorem dX12_of_167 : decode cX12_of 167 = .ok (.iload_n 1, 1) := by decide +kernel
theorem dX12_of_168 : decode cX12_of 168 = .ok (.invokevirtual 200, 3) := by decide +kernel
theorem dX12_of_171 : decode cX12_of 171 = .ok (.ireturn, 1) := by decide +kernel
theorem dX12_of_172 : decode cX12_of 172 = .ok (.aload_n 0, 1) := by decide +kernel
theorem dX12_of_173 : decode cX12_of 173 = .ok (.aload_n 0, 1) := by decide +kernel
theorem dX12_of_174 : decode cX12_of 174 = .ok (.getfield 13, 3) := by decide +kernel
theorem dX12_of_177 : decode cX12_of 177 = .ok (.iconst 3, 1) := by decide +kernel
theorem dX12_of_178 : decode cX12_of 178 = .ok (.iaload, 1) := by decide +kernel
theorem dX12_of_179 : decode cX12_of 179 = .ok (.iload_n 1, 1) := by decide +kernel
theorem dX12_of_180 : decode cX12_of 180 = .ok (.invokevirtual 204, 3) := by decide +kernel
theorem dX12_of_183 : decode cX12_of 183 = .ok (.ireturn, 1) := by decide +kernel
theorem dX12_of_184 : decode cX12_of 184 = .ok (.aload_n 0, 1) := by decide +kernel
theorem dX12_of_185 : decode cX12_of 185 = .ok (.iload_n 1, 1) := by decide +kernel
theorem dX12_of_186 : decode cX12_of 186 = .ok (.invokevirtual 207, 3) := by decide +kernel
theorem dX12_of_189 : decode cX12_of 189 = .ok (.ifCond .eq 7, 3) := by decide +kernel
theorem dX12_of_196 : decode cX12_of 196 = .ok (.iconst 0, 1) := by decide +kernel
theorem dX12_of_197 : decode cX12_of 197 = .ok (.ireturn, 1) := by decide +kernel
theorem dX12_of_192 : decode cX12_of 192 = .ok (.iconst 1, 1) := by decide +kernel
theorem dX12_of_193 : decode cX12_of 193 = .ok (.goto 4, 3) := by decide +kernel
theorem dX12_of_198 : decode cX12_of 198 = .ok (.iconst (-1), 1) := by decide +kernel
theorem dX12_of_199 : decode cX12_of 199 = .ok (.ireturn, 1) := by decide +kernel
theorem dX12_of_13 : decode cX12_of 13 = .ok (.iconst (-1), 1) := by decide +kernel
theorem dX12_of_14 : decode cX12_of 14 = .ok (.ireturn, 1) := by decide +kernel
theorem dX12_discords_0 : decode cX12_discords 0 = .ok (.iconst 0, 1) := by decide +kernel
theorem dX12_discords_1 : decode cX12_discords 1 = .ok (.istore_n 1, 1) := by decide +kernel
theorem dX12_discords_2 : decode cX12_discords 2 = .ok (.iconst 0, 1) := by decide +kernel
theorem dX12_discords_3 : decode cX12_discords 3 = .ok (.istore_n 2, 1) := by decide +kernel
theorem dX12_discords_4 : decode cX12_discords 4 = .ok (.iload_n 2, 1) := by decide +kernel
theorem dX12_discords_5 : decode cX12_discords 5 = .ok (.aload_n 0, 1) := by decide +kernel
theorem dX12_discords_6 : decode cX12_discords 6 = .ok (.getfield 13, 3) := by decide +kernel
theorem dX12_discords_9 : decode cX12_discords 9 = .ok (.iconst 0, 1) := by decide +kernel
theorem dX12_discords_10 : decode cX12_discords 10 = .ok (.iaload, 1) := by decide +kernel
theorem dX12_discords_11 : decode cX12_discords 11 = .ok (.if_icmp .ge 122, 3) := by decide +kernel
theorem dX12_discords_14 : decode cX12_discords 14 = .ok (.iload_n 2, 1) := by decide +kernel
theorem dX12_discords_15 : decode cX12_discords 15 = .ok (.iconst 1, 1) := by decide +kernel
theorem dX12_discords_16 : decode cX12_discords 16 = .ok (.iadd, 1) := by decide +kernel
theorem dX12_discords_17 : decode cX12_discords 17 = .ok (.istore_n 3, 1) := by decide +kernel
theorem dX12_discords_18 : decode cX12_discords 18 = .ok (.iload_n 3, 1) := by decide +kernel
theorem dX12_discords_19 : decode cX12_discords 19 = .ok (.aload_n 0, 1) := by decide +kernel
theorem dX12_discords_20 : decode cX12_discords 20 = .ok (.getfield 13, 3) := by decide +kernel
theorem dX12_discords_23 : decode cX12_discords 23 = .ok (.iconst 0, 1) := by decide +kernel
theorem dX12_discords_24 : decode cX12_discords 24 = .ok (.iaload, 1) := by decide +kernel
theorem dX12_discords_25 : decode cX12_discords 25 = .ok (.if_icmp .ge 102, 3) := by decide +kernel
theorem dX12_discords_28 : decode cX12_discords 28 = .ok (.aload_n 0, 1) := by decide +kernel
theorem dX12_discords_29 : decode cX12_discords 29 = .ok (.iload_n 2, 1) := by decide +kernel
theorem dX12_discords_30 : decode cX12_discords 30 = .ok (.invokevirtual 185, 3) := by decide +kernel
theorem dX12_discords_33 : decode cX12_discords 33 = .ok (.ifCond .eq 88, 3) := by decide +kernel
theorem dX12_discords_36 : decode cX12_discords 36 = .ok (.aload_n 0, 1) := by decide +kernel
theorem dX12_discords_37 : decode cX12_discords 37 = .ok (.iload_n 3, 1) := by decide +kernel
theorem dX12_discords_38 : decode cX12_discords 38 = .ok (.invokevirtual 185, 3) := by decide +kernel
theorem dX12_discords_41 : decode cX12_discords 41 = .ok (.ifCond .eq 80, 3) := by decide +kernel
theorem dX12_discords_44 : decode cX12_discords 44 = .ok (.aload_n 0, 1) := by decide +kernel
theorem dX12_discords_45 : decode cX12_discords 45 = .ok (.getfield 13, 3) := by decide +kernel
theorem dX12_discords_48 : decode cX12_discords 48 = .ok (.bipush 43, 2) := by decide +kernel
theorem dX12_discords_50 : decode cX12_discords 50 = .ok (.iload_n 2, 1) := by decide +kernel
theorem dX12_discords_51 : decode cX12_discords 51 = .ok (.iadd, 1) := by decide +kernel
theorem dX12_discords_52 : decode cX12_discords 52 = .ok (.iaload, 1) := by decide +kernel
theorem dX12_discords_53 : decode cX12_discords 53 = .ok (.aload_n 0, 1) := by decide +kernel
theorem dX12_discords_54 : decode cX12_discords 54 = .ok (.getfield 13, 3) := by decide +kernel
theorem dX12_discords_57 : decode cX12_discords 57 = .ok (.bipush 43, 2) := by decide +kernel
theorem dX12_discords_59 : decode cX12_discords 59 = .ok (.iload_n 3, 1) := by decide +kernel
theorem dX12_discords_60 : decode cX12_discords 60 = .ok (.iadd, 1) := by decide +kernel
theorem dX12_discords_61 : decode cX12_discords 61 = .ok (.iaload, 1) := by decide +kernel
theorem dX12_discords_62 : decode cX12_discords 62 = .ok (.if_icmp .ne 59, 3) := by decide +kernel
theorem dX12_discords_65 : decode cX12_discords 65 = .ok (.aload_n 0, 1) := by decide +kernel
theorem dX12_discords_66 : decode cX12_discords 66 = .ok (.getfield 13, 3) := by decide +kernel
theorem dX12_discords_69 : decode cX12_discords 69 = .ok (.bipush 35, 2) := by decide +kernel
theorem dX12_discords_71 : decode cX12_discords 71 = .ok (.iload_n 2, 1) := by decide +kernel
theorem dX12_discords_72 : decode cX12_discords 72 = .ok (.iadd, 1) := by decide +kernel
theorem dX12_discords_73 : decode cX12_discords 73 = .ok (.iaload, 1) := by decide +kernel
theorem dX12_discords_74 : decode cX12_discords 74 = .ok (.aload_n 0, 1) := by decide +kernel
theorem dX12_discords_75 : decode cX12_discords 75 = .ok (.getfield 13, 3) := by decide +kernel
theorem dX12_discords_78 : decode cX12_discords 78 = .ok (.bipush 35, 2) := by decide +kernel
theorem dX12_discords_80 : decode cX12_discords 80 = .ok (.iload_n 3, 1) := by decide +kernel
theorem dX12_discords_81 : decode cX12_discords 81 = .ok (.iadd, 1) := by decide +kernel
theorem dX12_discords_82 : decode cX12_discords 82 = .ok (.iaload, 1) := by decide +kernel
theorem dX12_discords_83 : decode cX12_discords 83 = .ok (.invokestatic 425, 3) := by decide +kernel
theorem dX12_discords_86 : decode cX12_discords 86 = .ok (.ifCond .eq 35, 3) := by decide +kernel
theorem dX12_discords_89 : decode cX12_discords 89 = .ok (.iload_n 1, 1) := by decide +kernel
theorem dX12_discords_90 : decode cX12_discords 90 = .ok (.aload_n 0, 1) := by decide +kernel
theorem dX12_discords_91 : decode cX12_discords 91 = .ok (.aload_n 0, 1) := by decide +kernel
theorem dX12_discords_92 : decode cX12_discords 92 = .ok (.getfield 13, 3) := by decide +kernel
theorem dX12_discords_95 : decode cX12_discords 95 = .ok (.iconst 3, 1) := by decide +kernel
theorem dX12_discords_96 : decode cX12_discords 96 = .ok (.iaload, 1) := by decide +kernel
theorem dX12_discords_97 : decode cX12_discords 97 = .ok (.iconst 2, 1) := by decide +kernel
theorem dX12_discords_98 : decode cX12_discords 98 = .ok (.iload_n 2, 1) := by decide +kernel
theorem dX12_discords_99 : decode cX12_discords 99 = .ok (.aload_n 0, 1) := by decide +kernel
theorem dX12_discords_100 : decode cX12_discords 100 = .ok (.getfield 13, 3) := by decide +kernel
theorem dX12_discords_103 : decode cX12_discords 103 = .ok (.bipush 35, 2) := by decide +kernel
theorem dX12_discords_105 : decode cX12_discords 105 = .ok (.iload_n 3, 1) := by decide +kernel
theorem dX12_discords_106 : decode cX12_discords 106 = .ok (.iadd, 1) := by decide +kernel
theorem dX12_discords_107 : decode cX12_discords 107 = .ok (.iaload, 1) := by decide +kernel
theorem dX12_discords_108 : decode cX12_discords 108 = .ok (.lconst 1, 1) := by decide +kernel
theorem dX12_discords_109 : decode cX12_discords 109 = .ok (.invokevirtual 415, 3) := by decide +kernel
theorem dX12_discords_112 : decode cX12_discords 112 = .ok (.iconst 0, 1) := by decide +kernel
theorem dX12_discords_113 : decode cX12_discords 113 = .ok (.sipush 999, 3) := by decide +kernel
theorem dX12_discords_116 : decode cX12_discords 116 = .ok (.invokestatic 419, 3) := by decide +kernel
theorem dX12_discords_119 : decode cX12_discords 119 = .ok (.iadd, 1) := by decide +kernel
theorem dX12_discords_120 : decode cX12_discords 120 = .ok (.istore_n 1, 1) := by decide +kernel
theorem dX12_discords_121 : decode cX12_discords 121 = .ok (.iinc 3 1, 3) := by decide +kernel
theorem dX12_discords_124 : decode cX12_discords 124 = .ok (.goto (-106), 3) := by decide +kernel
theorem dX12_discords_127 : decode cX12_discords 127 = .ok (.iinc 2 1, 3) := by decide +kernel
theorem dX12_discords_130 : decode cX12_discords 130 = .ok (.goto (-126), 3) := by decide +kernel
theorem dX12_discords_133 : decode cX12_discords 133 = .ok (.iload_n 1, 1) := by decide +kernel
theorem dX12_discords_134 : decode cX12_discords 134 = .ok (.ireturn, 1) := by decide +kernel
theorem dX12_discord_0 : decode cX12_discord 0 = .ok (.aload_n 0, 1) := by decide +kernel
theorem dX12_discord_1 : decode cX12_discord 1 = .ok (.iconst 0, 1) := by decide +kernel
theorem dX12_discord_2 : decode cX12_discord 2 = .ok (.putfield 158, 3) := by decide +kernel
theorem dX12_discord_5 : decode cX12_discord 5 = .ok (.aload_n 0, 1) := by decide +kernel
theorem dX12_discord_6 : decode cX12_discord 6 = .ok (.invokevirtual 428, 3) := by decide +kernel
theorem dX12_discord_9 : decode cX12_discord 9 = .ok (.ireturn, 1) := by decide +kernel
theorem dX12_isMet_0 : decode cX12_isMet 0 = .ok (.aload_n 0, 1) := by decide +kernel
theorem dX12_isMet_1 : decode cX12_isMet 1 = .ok (.getfield 13, 3) := by decide +kernel
theorem dX12_isMet_4 : decode cX12_isMet 4 = .ok (.bipush 67, 2) := by decide +kernel
theorem dX12_isMet_6 : decode cX12_isMet 6 = .ok (.aload_n 0, 1) := by decide +kernel
theorem dX12_isMet_7 : decode cX12_isMet 7 = .ok (.iconst 0, 1) := by decide +kernel
theorem dX12_isMet_8 : decode cX12_isMet 8 = .ok (.invokevirtual 182, 3) := by decide +kernel
theorem dX12_isMet_11 : decode cX12_isMet 11 = .ok (.iadd, 1) := by decide +kernel
theorem dX12_isMet_12 : decode cX12_isMet 12 = .ok (.iaload, 1) := by decide +kernel
theorem dX12_isMet_13 : decode cX12_isMet 13 = .ok (.aload_n 0, 1) := by decide +kernel
theorem dX12_isMet_14 : decode cX12_isMet 14 = .ok (.invokevirtual 431, 3) := by decide +kernel
theorem dX12_isMet_17 : decode cX12_isMet 17 = .ok (.iconst (-1), 1) := by decide +kernel
theorem dX12_isMet_18 : decode cX12_isMet 18 = .ok (.ixor, 1) := by decide +kernel
theorem dX12_isMet_19 : decode cX12_isMet 19 = .ok (.iand, 1) := by decide +kernel
theorem dX12_isMet_20 : decode cX12_isMet 20 = .ok (.ifCond .ne 7, 3) := by decide +kernel
theorem dX12_isMet_27 : decode cX12_isMet 27 = .ok (.iconst 0, 1) := by decide +kernel
theorem dX12_isMet_28 : decode cX12_isMet 28 = .ok (.ireturn, 1) := by decide +kernel
theorem dX12_isMet_23 : decode cX12_isMet 23 = .ok (.iconst 1, 1) := by decide +kernel
theorem dX12_isMet_24 : decode cX12_isMet 24 = .ok (.goto 4, 3) := by decide +kernel
theorem dX12_sounds_0 : decode cX12_sounds 0 = .ok (.aload_n 0, 1) := by decide +kernel
theorem dX12_sounds_1 : decode cX12_sounds 1 = .ok (.iconst 0, 1) := by decide +kernel
theorem dX12_sounds_2 : decode cX12_sounds 2 = .ok (.putfield 158, 3) := by decide +kernel
theorem dX12_sounds_5 : decode cX12_sounds 5 = .ok (.iload_n 1, 1) := by decide +kernel
theorem dX12_sounds_6 : decode cX12_sounds 6 = .ok (.i2l, 1) := by decide +kernel
theorem dX12_sounds_7 : decode cX12_sounds 7 = .ok (.lconst 0, 1) := by decide +kernel
theorem dX12_sounds_8 : decode cX12_sounds 8 = .ok (.ldc2_w 434, 3) := by decide +kernel
theorem dX12_sounds_11 : decode cX12_sounds 11 = .ok (.invokestatic 178, 3) := by decide +kernel
theorem dX12_sounds_14 : decode cX12_sounds 14 = .ok (.ifCond .ne 5, 3) := by decide +kernel
theorem dX12_sounds_19 : decode cX12_sounds 19 = .ok (.aload_n 0, 1) := by decide +kernel
theorem dX12_sounds_20 : decode cX12_sounds 20 = .ok (.invokevirtual 431, 3) := by decide +kernel
theorem dX12_sounds_23 : decode cX12_sounds 23 = .ok (.istore_n 2, 1) := by decide +kernel
theorem dX12_sounds_24 : decode cX12_sounds 24 = .ok (.iconst 0, 1) := by decide +kernel
theorem dX12_sounds_25 : decode cX12_sounds 25 = .ok (.istore_n 3, 1) := by decide +kernel
theorem dX12_sounds_26 : decode cX12_sounds 26 = .ok (.iconst 0, 1) := by decide +kernel
theorem dX12_sounds_27 : decode cX12_sounds 27 = .ok (.istore 4, 2) := by decide +kernel
theorem dX12_sounds_29 : decode cX12_sounds 29 = .ok (.iload 4, 2) := by decide +kernel
theorem dX12_sounds_31 : decode cX12_sounds 31 = .ok (.bipush 7, 2) := by decide +kernel
theorem dX12_sounds_33 : decode cX12_sounds 33 = .ok (.if_icmp .ge 54, 3) := by decide +kernel
theorem dX12_sounds_36 : decode cX12_sounds 36 = .ok (.iload_n 3, 1) := by decide +kernel
theorem dX12_sounds_37 : decode cX12_sounds 37 = .ok (.iload_n 2, 1) := by decide +kernel
theorem dX12_sounds_38 : decode cX12_sounds 38 = .ok (.iload 4, 2) := by decide +kernel
theorem dX12_sounds_40 : decode cX12_sounds 40 = .ok (.invokestatic 436, 3) := by decide +kernel
theorem dX12_sounds_43 : decode cX12_sounds 43 = .ok (.ifCond .eq 35, 3) := by decide +kernel
theorem dX12_sounds_78 : decode cX12_sounds 78 = .ok (.iconst 0, 1) := by decide +kernel
theorem dX12_sounds_79 : decode cX12_sounds 79 = .ok (.iadd, 1) := by decide +kernel
theorem dX12_sounds_80 : decode cX12_sounds 80 = .ok (.istore_n 3, 1) := by decide +kernel
theorem dX12_sounds_81 : decode cX12_sounds 81 = .ok (.iinc 4 1, 3) := by decide +kernel
theorem dX12_sounds_84 : decode cX12_sounds 84 = .ok (.goto (-55), 3) := by decide +kernel
theorem dX12_sounds_46 : decode cX12_sounds 46 = .ok (.iload_n 2, 1) := by decide +kernel
theorem dX12_sounds_47 : decode cX12_sounds 47 = .ok (.iload 4, 2) := by decide +kernel
theorem dX12_sounds_49 : decode cX12_sounds 49 = .ok (.iconst 2, 1) := by decide +kernel
theorem dX12_sounds_50 : decode cX12_sounds 50 = .ok (.iadd, 1) := by decide +kernel
theorem dX12_sounds_51 : decode cX12_sounds 51 = .ok (.bipush 7, 2) := by decide +kernel
theorem dX12_sounds_53 : decode cX12_sounds 53 = .ok (.irem, 1) := by decide +kernel
theorem dX12_sounds_54 : decode cX12_sounds 54 = .ok (.invokestatic 436, 3) := by decide +kernel
theorem dX12_sounds_57 : decode cX12_sounds 57 = .ok (.ifCond .eq 21, 3) := by decide +kernel
theorem dX12_sounds_60 : decode cX12_sounds 60 = .ok (.iload_n 2, 1) := by decide +kernel
theorem dX12_sounds_61 : decode cX12_sounds 61 = .ok (.iload 4, 2) := by decide +kernel
theorem dX12_sounds_63 : decode cX12_sounds 63 = .ok (.iconst 4, 1) := by decide +kernel
theorem dX12_sounds_64 : decode cX12_sounds 64 = .ok (.iadd, 1) := by decide +kernel
theorem dX12_sounds_65 : decode cX12_sounds 65 = .ok (.bipush 7, 2) := by decide +kernel
theorem dX12_sounds_67 : decode cX12_sounds 67 = .ok (.irem, 1) := by decide +kernel
theorem dX12_sounds_68 : decode cX12_sounds 68 = .ok (.invokestatic 436, 3) := by decide +kernel
theorem dX12_sounds_71 : decode cX12_sounds 71 = .ok (.ifCond .eq 7, 3) := by decide +kernel
theorem dX12_sounds_74 : decode cX12_sounds 74 = .ok (.iconst 1, 1) := by decide +kernel
theorem dX12_sounds_75 : decode cX12_sounds 75 = .ok (.goto 4, 3) := by decide +kernel
theorem dX12_sounds_87 : decode cX12_sounds 87 = .ok (.iload_n 1, 1) := by decide +kernel
theorem dX12_sounds_88 : decode cX12_sounds 88 = .ok (.ifCond .ne 7, 3) := by decide +kernel
theorem dX12_sounds_95 : decode cX12_sounds 95 = .ok (.iload_n 1, 1) := by decide +kernel
theorem dX12_sounds_96 : decode cX12_sounds 96 = .ok (.iconst 1, 1) := by decide +kernel
theorem dX12_sounds_97 : decode cX12_sounds 97 = .ok (.if_icmp .ne 7, 3) := by decide +kernel
theorem dX12_sounds_104 : decode cX12_sounds 104 = .ok (.aload_n 0, 1) := by decide +kernel
theorem dX12_sounds_105 : decode cX12_sounds 105 = .ok (.invokevirtual 439, 3) := by decide +kernel
theorem dX12_sounds_108 : decode cX12_sounds 108 = .ok (.ifCond .eq 7, 3) := by decide +kernel
theorem dX12_sounds_115 : decode cX12_sounds 115 = .ok (.iconst 0, 1) := by decide +kernel
theorem dX12_sounds_116 : decode cX12_sounds 116 = .ok (.ireturn, 1) := by decide +kernel
theorem dX12_sounds_111 : decode cX12_sounds 111 = .ok (.iconst 1, 1) := by decide +kernel
theorem dX12_sounds_112 : decode cX12_sounds 112 = .ok (.goto 4, 3) := by decide +kernel
theorem dX12_sounds_100 : decode cX12_sounds 100 = .ok (.iload_n 3, 1) := by decide +kernel
theorem dX12_sounds_101 : decode cX12_sounds 101 = .ok (.goto 15, 3) := by decide +kernel
theorem dX12_sounds_91 : decode cX12_sounds 91 = .ok (.iload_n 2, 1) := by decide +kernel
theorem dX12_sounds_92 : decode cX12_sounds 92 = .ok (.goto 24, 3) := by decide +kernel
theorem dX12_sounds_17 : decode cX12_sounds 17 = .ok (.iconst (-1), 1) := by decide +kernel
theorem dX12_sounds_18 : decode cX12_sounds 18 = .ok (.ireturn, 1) := by decide +kernel
theorem dX12_flare_0 : decode cX12_flare 0 = .ok (.aload_n 0, 1) := by decide +kernel
theorem dX12_flare_1 : decode cX12_flare 1 = .ok (.getfield 13, 3) := by decide +kernel
theorem dX12_flare_4 : decode cX12_flare 4 = .ok (.bipush 11, 2) := by decide +kernel
theorem dX12_flare_6 : decode cX12_flare 6 = .ok (.iload_n 2, 1) := by decide +kernel
theorem dX12_flare_7 : decode cX12_flare 7 = .ok (.iadd, 1) := by decide +kernel
theorem dX12_flare_8 : decode cX12_flare 8 = .ok (.aload_n 0, 1) := by decide +kernel
theorem dX12_flare_9 : decode cX12_flare 9 = .ok (.getfield 13, 3) := by decide +kernel
theorem dX12_flare_12 : decode cX12_flare 12 = .ok (.bipush 11, 2) := by decide +kernel
theorem dX12_flare_14 : decode cX12_flare 14 = .ok (.iload_n 2, 1) := by decide +kernel
theorem dX12_flare_15 : decode cX12_flare 15 = .ok (.iadd, 1) := by decide +kernel
theorem dX12_flare_16 : decode cX12_flare 16 = .ok (.iaload, 1) := by decide +kernel
theorem dX12_flare_17 : decode cX12_flare 17 = .ok (.aload_n 0, 1) := by decide +kernel
theorem dX12_flare_18 : decode cX12_flare 18 = .ok (.iload_n 1, 1) := by decide +kernel
theorem dX12_flare_19 : decode cX12_flare 19 = .ok (.iload_n 2, 1) := by decide +kernel
theorem dX12_flare_20 : decode cX12_flare 20 = .ok (.invokevirtual 204, 3) := by decide +kernel
theorem dX12_flare_23 : decode cX12_flare 23 = .ok (.iadd, 1) := by decide +kernel
theorem dX12_flare_24 : decode cX12_flare 24 = .ok (.i2l, 1) := by decide +kernel
theorem dX12_flare_25 : decode cX12_flare 25 = .ok (.iconst 0, 1) := by decide +kernel
theorem dX12_flare_26 : decode cX12_flare 26 = .ok (.bipush 20, 2) := by decide +kernel
theorem dX12_flare_28 : decode cX12_flare 28 = .ok (.invokestatic 419, 3) := by decide +kernel
theorem dX12_flare_31 : decode cX12_flare 31 = .ok (.iastore, 1) := by decide +kernel
theorem dX12_flare_32 : decode cX12_flare 32 = .ok (.return_, 1) := by decide +kernel
theorem dX12_canStoke_0 : decode cX12_canStoke 0 = .ok (.aload_n 0, 1) := by decide +kernel
theorem dX12_canStoke_1 : decode cX12_canStoke 1 = .ok (.getfield 13, 3) := by decide +kernel
theorem dX12_canStoke_4 : decode cX12_canStoke 4 = .ok (.bipush 19, 2) := by decide +kernel
theorem dX12_canStoke_6 : decode cX12_canStoke 6 = .ok (.iload_n 1, 1) := by decide +kernel
theorem dX12_canStoke_7 : decode cX12_canStoke 7 = .ok (.iadd, 1) := by decide +kernel
theorem dX12_canStoke_8 : decode cX12_canStoke 8 = .ok (.iaload, 1) := by decide +kernel
theorem dX12_canStoke_9 : decode cX12_canStoke 9 = .ok (.ifCond .le 15, 3) := by decide +kernel
theorem dX12_canStoke_12 : decode cX12_canStoke 12 = .ok (.aload_n 0, 1) := by decide +kernel
theorem dX12_canStoke_13 : decode cX12_canStoke 13 = .ok (.iload_n 1, 1) := by decide +kernel
theorem dX12_canStoke_14 : decode cX12_canStoke 14 = .ok (.invokevirtual 207, 3) := by decide +kernel
theorem dX12_canStoke_17 : decode cX12_canStoke 17 = .ok (.ifCond .ne 7, 3) := by decide +kernel
theorem dX12_canStoke_20 : decode cX12_canStoke 20 = .ok (.iconst 1, 1) := by decide +kernel
theorem dX12_canStoke_21 : decode cX12_canStoke 21 = .ok (.goto 4, 3) := by decide +kernel
theorem dX12_canStoke_25 : decode cX12_canStoke 25 = .ok (.ireturn, 1) := by decide +kernel
theorem dX12_canStoke_24 : decode cX12_canStoke 24 = .ok (.iconst 0, 1) := by decide +kernel
theorem dX12_stokeIt_0 : decode cX12_stokeIt 0 = .ok (.aload_n 0, 1) := by decide +kernel
theorem dX12_stokeIt_1 : decode cX12_stokeIt 1 = .ok (.aload_n 0, 1) := by decide +kernel
theorem dX12_stokeIt_2 : decode cX12_stokeIt 2 = .ok (.getfield 13, 3) := by decide +kernel
theorem dX12_stokeIt_5 : decode cX12_stokeIt 5 = .ok (.iconst 3, 1) := by decide +kernel
theorem dX12_stokeIt_6 : decode cX12_stokeIt 6 = .ok (.iaload, 1) := by decide +kernel
theorem dX12_stokeIt_7 : decode cX12_stokeIt 7 = .ok (.iload_n 1, 1) := by decide +kernel
theorem dX12_stokeIt_8 : decode cX12_stokeIt 8 = .ok (.invokevirtual 442, 3) := by decide +kernel
theorem dX12_stokeIt_11 : decode cX12_stokeIt 11 = .ok (.aload_n 0, 1) := by decide +kernel
theorem dX12_stokeIt_12 : decode cX12_stokeIt 12 = .ok (.getfield 13, 3) := by decide +kernel
theorem dX12_stokeIt_15 : decode cX12_stokeIt 15 = .ok (.bipush 19, 2) := by decide +kernel
theorem dX12_stokeIt_17 : decode cX12_stokeIt 17 = .ok (.iload_n 1, 1) := by decide +kernel
theorem dX12_stokeIt_18 : decode cX12_stokeIt 18 = .ok (.iadd, 1) := by decide +kernel
theorem dX12_stokeIt_19 : decode cX12_stokeIt 19 = .ok (.dup2, 1) := by decide +kernel
theorem dX12_stokeIt_20 : decode cX12_stokeIt 20 = .ok (.iaload, 1) := by decide +kernel
theorem dX12_stokeIt_21 : decode cX12_stokeIt 21 = .ok (.iconst 1, 1) := by decide +kernel
theorem dX12_stokeIt_22 : decode cX12_stokeIt 22 = .ok (.isub, 1) := by decide +kernel
theorem dX12_stokeIt_23 : decode cX12_stokeIt 23 = .ok (.iastore, 1) := by decide +kernel
theorem dX12_stokeIt_24 : decode cX12_stokeIt 24 = .ok (.return_, 1) := by decide +kernel
theorem dX12_stokeNow_0 : decode cX12_stokeNow 0 = .ok (.aload_n 0, 1) := by decide +kernel
theorem dX12_stokeNow_1 : decode cX12_stokeNow 1 = .ok (.iload_n 1, 1) := by decide +kernel
theorem dX12_stokeNow_2 : decode cX12_stokeNow 2 = .ok (.invokevirtual 197, 3) := by decide +kernel
theorem dX12_stokeNow_5 : decode cX12_stokeNow 5 = .ok (.ifCond .ne 6, 3) := by decide +kernel
theorem dX12_stokeNow_11 : decode cX12_stokeNow 11 = .ok (.aload_n 0, 1) := by decide +kernel
theorem dX12_stokeNow_12 : decode cX12_stokeNow 12 = .ok (.iload_n 1, 1) := by decide +kernel
theorem dX12_stokeNow_13 : decode cX12_stokeNow 13 = .ok (.invokevirtual 445, 3) := by decide +kernel
theorem dX12_stokeNow_16 : decode cX12_stokeNow 16 = .ok (.ifCond .ne 6, 3) := by decide +kernel
theorem dX12_stokeNow_22 : decode cX12_stokeNow 22 = .ok (.aload_n 0, 1) := by decide +kernel
theorem dX12_stokeNow_23 : decode cX12_stokeNow 23 = .ok (.iconst 0, 1) := by decide +kernel
theorem dX12_stokeNow_24 : decode cX12_stokeNow 24 = .ok (.invokevirtual 448, 3) := by decide +kernel
theorem dX12_stokeNow_27 : decode cX12_stokeNow 27 = .ok (.aload_n 0, 1) := by decide +kernel
theorem dX12_stokeNow_28 : decode cX12_stokeNow 28 = .ok (.iload_n 1, 1) := by decide +kernel
theorem dX12_stokeNow_29 : decode cX12_stokeNow 29 = .ok (.invokevirtual 451, 3) := by decide +kernel
theorem dX12_stokeNow_32 : decode cX12_stokeNow 32 = .ok (.aload_n 0, 1) := by decide +kernel
theorem dX12_stokeNow_33 : decode cX12_stokeNow 33 = .ok (.getfield 13, 3) := by decide +kernel
theorem dX12_stokeNow_36 : decode cX12_stokeNow 36 = .ok (.bipush 11, 2) := by decide +kernel
theorem dX12_stokeNow_38 : decode cX12_stokeNow 38 = .ok (.iload_n 1, 1) := by decide +kernel
theorem dX12_stokeNow_39 : decode cX12_stokeNow 39 = .ok (.iadd, 1) := by decide +kernel
theorem dX12_stokeNow_40 : decode cX12_stokeNow 40 = .ok (.iaload, 1) := by decide +kernel
theorem dX12_stokeNow_41 : decode cX12_stokeNow 41 = .ok (.ireturn, 1) := by decide +kernel
theorem dX12_stokeNow_19 : decode cX12_stokeNow 19 = .ok (.bipush (-3), 2) := by decide +kernel
theorem dX12_stokeNow_21 : decode cX12_stokeNow 21 = .ok (.ireturn, 1) := by decide +kernel
theorem dX12_stokeNow_8 : decode cX12_stokeNow 8 = .ok (.bipush (-2), 2) := by decide +kernel
theorem dX12_stokeNow_10 : decode cX12_stokeNow 10 = .ok (.ireturn, 1) := by decide +kernel
theorem dX12_dampNow_0 : decode cX12_dampNow 0 = .ok (.iload_n 2, 1) := by decide +kernel
theorem dX12_dampNow_1 : decode cX12_dampNow 1 = .ok (.i2l, 1) := by decide +kernel
theorem dX12_dampNow_2 : decode cX12_dampNow 2 = .ok (.lconst 1, 1) := by decide +kernel
theorem dX12_dampNow_3 : decode cX12_dampNow 3 = .ok (.ldc2_w 217, 3) := by decide +kernel
theorem dX12_dampNow_6 : decode cX12_dampNow 6 = .ok (.invokestatic 178, 3) := by decide +kernel
theorem dX12_dampNow_9 : decode cX12_dampNow 9 = .ok (.ifCond .ne 5, 3) := by decide +kernel
theorem dX12_dampNow_14 : decode cX12_dampNow 14 = .ok (.aload_n 0, 1) := by decide +kernel
theorem dX12_dampNow_15 : decode cX12_dampNow 15 = .ok (.iload_n 1, 1) := by decide +kernel
theorem dX12_dampNow_16 : decode cX12_dampNow 16 = .ok (.invokevirtual 197, 3) := by decide +kernel
theorem dX12_dampNow_19 : decode cX12_dampNow 19 = .ok (.ifCond .ne 6, 3) := by decide +kernel
theorem dX12_dampNow_25 : decode cX12_dampNow 25 = .ok (.aload_n 0, 1) := by decide +kernel
theorem dX12_dampNow_26 : decode cX12_dampNow 26 = .ok (.iconst 1, 1) := by decide +kernel
theorem dX12_dampNow_27 : decode cX12_dampNow 27 = .ok (.invokevirtual 448, 3) := by decide +kernel
theorem dX12_dampNow_30 : decode cX12_dampNow 30 = .ok (.aload_n 0, 1) := by decide +kernel
theorem dX12_dampNow_31 : decode cX12_dampNow 31 = .ok (.getfield 13, 3) := by decide +kernel
theorem dX12_dampNow_34 : decode cX12_dampNow 34 = .ok (.bipush 11, 2) := by decide +kernel
theorem dX12_dampNow_36 : decode cX12_dampNow 36 = .ok (.iload_n 1, 1) := by decide +kernel
theorem dX12_dampNow_37 : decode cX12_dampNow 37 = .ok (.iadd, 1) := by decide +kernel
theorem dX12_dampNow_38 : decode cX12_dampNow 38 = .ok (.aload_n 0, 1) := by decide +kernel
theorem dX12_dampNow_39 : decode cX12_dampNow 39 = .ok (.getfield 13, 3) := by decide +kernel
theorem dX12_dampNow_42 : decode cX12_dampNow 42 = .ok (.bipush 11, 2) := by decide +kernel
theorem dX12_dampNow_44 : decode cX12_dampNow 44 = .ok (.iload_n 1, 1) := by decide +kernel
theorem dX12_dampNow_45 : decode cX12_dampNow 45 = .ok (.iadd, 1) := by decide +kernel
theorem dX12_dampNow_46 : decode cX12_dampNow 46 = .ok (.iaload, 1) := by decide +kernel
theorem dX12_dampNow_47 : decode cX12_dampNow 47 = .ok (.iload_n 2, 1) := by decide +kernel
theorem dX12_dampNow_48 : decode cX12_dampNow 48 = .ok (.isub, 1) := by decide +kernel
theorem dX12_dampNow_49 : decode cX12_dampNow 49 = .ok (.i2l, 1) := by decide +kernel
theorem dX12_dampNow_50 : decode cX12_dampNow 50 = .ok (.iconst 0, 1) := by decide +kernel
theorem dX12_dampNow_51 : decode cX12_dampNow 51 = .ok (.bipush 20, 2) := by decide +kernel
theorem dX12_dampNow_53 : decode cX12_dampNow 53 = .ok (.invokestatic 419, 3) := by decide +kernel
theorem dX12_dampNow_56 : decode cX12_dampNow 56 = .ok (.iastore, 1) := by decide +kernel
theorem dX12_dampNow_57 : decode cX12_dampNow 57 = .ok (.aload_n 0, 1) := by decide +kernel
theorem dX12_dampNow_58 : decode cX12_dampNow 58 = .ok (.getfield 13, 3) := by decide +kernel
theorem dX12_dampNow_61 : decode cX12_dampNow 61 = .ok (.bipush 11, 2) := by decide +kernel
theorem dX12_dampNow_63 : decode cX12_dampNow 63 = .ok (.iload_n 1, 1) := by decide +kernel
theorem dX12_dampNow_64 : decode cX12_dampNow 64 = .ok (.iadd, 1) := by decide +kernel
theorem dX12_dampNow_65 : decode cX12_dampNow 65 = .ok (.iaload, 1) := by decide +kernel
theorem dX12_dampNow_66 : decode cX12_dampNow 66 = .ok (.ireturn, 1) := by decide +kernel
theorem dX12_dampNow_22 : decode cX12_dampNow 22 = .ok (.bipush (-2), 2) := by decide +kernel
theorem dX12_dampNow_24 : decode cX12_dampNow 24 = .ok (.ireturn, 1) := by decide +kernel
theorem dX12_dampNow_12 : decode cX12_dampNow 12 = .ok (.iconst (-1), 1) := by decide +kernel
theorem dX12_dampNow_13 : decode cX12_dampNow 13 = .ok (.ireturn, 1) := by decide +kernel
theorem dX12_buyNow_0 : decode cX12_buyNow 0 = .ok (.iload_n 2, 1) := by decide +kernel
theorem dX12_buyNow_1 : decode cX12_buyNow 1 = .ok (.i2l, 1) := by decide +kernel
theorem dX12_buyNow_2 : decode cX12_buyNow 2 = .ok (.lconst 1, 1) := by decide +kernel
theorem dX12_buyNow_3 : decode cX12_buyNow 3 = .ok (.ldc2_w 193, 3) := by decide +kernel
theorem dX12_buyNow_6 : decode cX12_buyNow 6 = .ok (.invokestatic 178, 3) := by decide +kernel
theorem dX12_buyNow_9 : decode cX12_buyNow 9 = .ok (.ifCond .ne 5, 3) := by decide +kernel
theorem dX12_buyNow_14 : decode cX12_buyNow 14 = .ok (.aload_n 0, 1) := by decide +kernel
theorem dX12_buyNow_15 : decode cX12_buyNow 15 = .ok (.iload_n 1, 1) := by decide +kernel
theorem dX12_buyNow_16 : decode cX12_buyNow 16 = .ok (.invokevirtual 197, 3) := by decide +kernel
theorem dX12_buyNow_19 : decode cX12_buyNow 19 = .ok (.ifCond .ne 6, 3) := by decide +kernel
theorem dX12_buyNow_25 : decode cX12_buyNow 25 = .ok (.aload_n 0, 1) := by decide +kernel
theorem dX12_buyNow_26 : decode cX12_buyNow 26 = .ok (.iconst 2, 1) := by decide +kernel
theorem dX12_buyNow_27 : decode cX12_buyNow 27 = .ok (.invokevirtual 448, 3) := by decide +kernel
theorem dX12_buyNow_30 : decode cX12_buyNow 30 = .ok (.aload_n 0, 1) := by decide +kernel
theorem dX12_buyNow_31 : decode cX12_buyNow 31 = .ok (.getfield 13, 3) := by decide +kernel
theorem dX12_buyNow_34 : decode cX12_buyNow 34 = .ok (.bipush 19, 2) := by decide +kernel
theorem dX12_buyNow_36 : decode cX12_buyNow 36 = .ok (.iload_n 1, 1) := by decide +kernel
theorem dX12_buyNow_37 : decode cX12_buyNow 37 = .ok (.iadd, 1) := by decide +kernel
theorem dX12_buyNow_38 : decode cX12_buyNow 38 = .ok (.aload_n 0, 1) := by decide +kernel
theorem dX12_buyNow_39 : decode cX12_buyNow 39 = .ok (.getfield 13, 3) := by decide +kernel
theorem dX12_buyNow_42 : decode cX12_buyNow 42 = .ok (.bipush 19, 2) := by decide +kernel
theorem dX12_buyNow_44 : decode cX12_buyNow 44 = .ok (.iload_n 1, 1) := by decide +kernel
theorem dX12_buyNow_45 : decode cX12_buyNow 45 = .ok (.iadd, 1) := by decide +kernel
theorem dX12_buyNow_46 : decode cX12_buyNow 46 = .ok (.iaload, 1) := by decide +kernel
theorem dX12_buyNow_47 : decode cX12_buyNow 47 = .ok (.iload_n 2, 1) := by decide +kernel
theorem dX12_buyNow_48 : decode cX12_buyNow 48 = .ok (.iadd, 1) := by decide +kernel
theorem dX12_buyNow_49 : decode cX12_buyNow 49 = .ok (.i2l, 1) := by decide +kernel
theorem dX12_buyNow_50 : decode cX12_buyNow 50 = .ok (.iconst 0, 1) := by decide +kernel
theorem dX12_buyNow_51 : decode cX12_buyNow 51 = .ok (.sipush 999, 3) := by decide +kernel
theorem dX12_buyNow_54 : decode cX12_buyNow 54 = .ok (.invokestatic 419, 3) := by decide +kernel
theorem dX12_buyNow_57 : decode cX12_buyNow 57 = .ok (.iastore, 1) := by decide +kernel
theorem dX12_buyNow_58 : decode cX12_buyNow 58 = .ok (.aload_n 0, 1) := by decide +kernel
theorem dX12_buyNow_59 : decode cX12_buyNow 59 = .ok (.getfield 13, 3) := by decide +kernel
theorem dX12_buyNow_62 : decode cX12_buyNow 62 = .ok (.bipush 19, 2) := by decide +kernel
theorem dX12_buyNow_64 : decode cX12_buyNow 64 = .ok (.iload_n 1, 1) := by decide +kernel
theorem dX12_buyNow_65 : decode cX12_buyNow 65 = .ok (.iadd, 1) := by decide +kernel
theorem dX12_buyNow_66 : decode cX12_buyNow 66 = .ok (.iaload, 1) := by decide +kernel
theorem dX12_buyNow_67 : decode cX12_buyNow 67 = .ok (.ireturn, 1) := by decide +kernel
theorem dX12_buyNow_22 : decode cX12_buyNow 22 = .ok (.bipush (-2), 2) := by decide +kernel
theorem dX12_buyNow_24 : decode cX12_buyNow 24 = .ok (.ireturn, 1) := by decide +kernel
theorem dX12_buyNow_12 : decode cX12_buyNow 12 = .ok (.iconst (-1), 1) := by decide +kernel
theorem dX12_buyNow_13 : decode cX12_buyNow 13 = .ok (.ireturn, 1) := by decide +kernel
theorem dX12_stoke_0 : decode cX12_stoke 0 = .ok (.aload_n 0, 1) := by decide +kernel
theorem dX12_stoke_1 : decode cX12_stoke 1 = .ok (.iconst 0, 1) := by decide +kernel
theorem dX12_stoke_2 : decode cX12_stoke 2 = .ok (.putfield 158, 3) := by decide +kernel
theorem dX12_stoke_5 : decode cX12_stoke 5 = .ok (.aload_n 0, 1) := by decide +kernel
theorem dX12_stoke_6 : decode cX12_stoke 6 = .ok (.aload_n 0, 1) := by decide +kernel
theorem dX12_stoke_7 : decode cX12_stoke 7 = .ok (.iload_n 1, 1) := by decide +kernel
theorem dX12_stoke_8 : decode cX12_stoke 8 = .ok (.invokevirtual 454, 3) := by decide +kernel
theorem dX12_stoke_11 : decode cX12_stoke 11 = .ok (.invokevirtual 171, 3) := by decide +kernel
theorem dX12_stoke_14 : decode cX12_stoke 14 = .ok (.ireturn, 1) := by decide +kernel
theorem dX12_damp_0 : decode cX12_damp 0 = .ok (.aload_n 0, 1) := by decide +kernel
theorem dX12_damp_1 : decode cX12_damp 1 = .ok (.iconst 0, 1) := by decide +kernel
theorem dX12_damp_2 : decode cX12_damp 2 = .ok (.putfield 158, 3) := by decide +kernel
theorem dX12_damp_5 : decode cX12_damp 5 = .ok (.aload_n 0, 1) := by decide +kernel
theorem dX12_damp_6 : decode cX12_damp 6 = .ok (.aload_n 0, 1) := by decide +kernel
theorem dX12_damp_7 : decode cX12_damp 7 = .ok (.iload_n 1, 1) := by decide +kernel
theorem dX12_damp_8 : decode cX12_damp 8 = .ok (.iload_n 2, 1) := by decide +kernel
theorem dX12_damp_9 : decode cX12_damp 9 = .ok (.invokevirtual 457, 3) := by decide +kernel
theorem dX12_damp_12 : decode cX12_damp 12 = .ok (.invokevirtual 171, 3) := by decide +kernel
theorem dX12_damp_15 : decode cX12_damp 15 = .ok (.ireturn, 1) := by decide +kernel
theorem dX12_buy_0 : decode cX12_buy 0 = .ok (.aload_n 0, 1) := by decide +kernel
theorem dX12_buy_1 : decode cX12_buy 1 = .ok (.iconst 0, 1) := by decide +kernel
theorem dX12_buy_2 : decode cX12_buy 2 = .ok (.putfield 158, 3) := by decide +kernel
theorem dX12_buy_5 : decode cX12_buy 5 = .ok (.aload_n 0, 1) := by decide +kernel
theorem dX12_buy_6 : decode cX12_buy 6 = .ok (.aload_n 0, 1) := by decide +kernel
theorem dX12_buy_7 : decode cX12_buy 7 = .ok (.iload_n 1, 1) := by decide +kernel
theorem dX12_buy_8 : decode cX12_buy 8 = .ok (.iload_n 2, 1) := by decide +kernel
theorem dX12_buy_9 : decode cX12_buy 9 = .ok (.invokevirtual 460, 3) := by decide +kernel
theorem dX12_buy_12 : decode cX12_buy 12 = .ok (.invokevirtual 171, 3) := by decide +kernel
theorem dX12_buy_15 : decode cX12_buy 15 = .ok (.ireturn, 1) := by decide +kernel
set_option maxRecDepth 100000 in
set_option maxHeartbeats 4000000 in
theorem ggX12_burnsOf_X12_tells : GoodIn wsX12_burnsOf wsX12_tells := goodIn_q _ [5, 13, 17, 23, 35, 39, 42, 46, 50] [6, 7, 8, 9, 10, 11, 12, 4, 14, 15, 16, 18, 19, 20, 21, 22, 24, 25, 26, 27, 28, 29, 30, 31, 32, 33, 34, 36, 37, 38, 40, 41, 43, 44, 45, 47, 48, 49, 54, 55, 56, 57, 58, 59, 60, 61, 62, 63, 64, 65, 66, 67, 68, 69, 70, 71, 72, 73, 74, 75, 76, 77, 78, 79, 80, 81, 82, 83, 84, 85, 86, 87, 88, 89, 90, 91, 92, 93, 94, 95, 96, 97, 98, 99, 100, 101, 102, 103, 104, 105, 106, 107, 108, 109, 110, 111, 112, 113] rfl (by decide +kernel) (by decide +kernel)
set_option maxRecDepth 20000 in
theorem gX12_burnsOf_X12_tells : GoodIn wsX12_burnsOf (wsV RX12 415 RX12 yX12_tells wsX12_tells) := goodIn_app (goodIn_of _ (by decide +kernel)) ggX12_burnsOf_X12_tells
set_option maxRecDepth 20000 in
theorem ggX12_burnsOf_X12_within : GoodIn wsX12_burnsOf wsX12_within := goodIn_r _ [53] (by decide +kernel) (by decide +kernel)
set_option maxRecDepth 20000 in
theorem gX12_burnsOf_X12_within : GoodIn wsX12_burnsOf (va_wsS RX12 419 yX12_within wsX12_within) := goodIn_app (goodIn_of _ (by decide +kernel)) ggX12_burnsOf_X12_within
set_option maxRecDepth 100000 in
set_option maxHeartbeats 4000000 in
theorem ggX12_flaresOf_X12_tells : GoodIn wsX12_flaresOf wsX12_tells := goodIn_q _ [6, 14, 18, 24, 36, 40, 43, 47, 51] [7, 8, 9, 10, 11, 12, 13, 5, 15, 16, 17, 19, 20, 21, 22, 23, 25, 26, 27, 28, 29, 30, 31, 32, 33, 34, 35, 37, 38, 39, 41, 42, 44, 45, 46, 48, 49, 50, 55, 56, 57, 58, 59, 60, 61, 62, 63, 64, 65, 66, 67, 68, 69, 70, 71, 72, 73, 74, 75, 76, 77, 78, 79, 80, 81, 82, 83, 84, 85, 86, 87, 88, 89, 90, 91, 92, 93, 94, 95, 96, 97, 98, 99, 100, 101, 102, 103, 104, 105, 106, 107, 108, 109, 110, 111, 112, 113, 114] rfl (by decide +kernel) (by decide +kernel)
set_option maxRecDepth 20000 in
theorem gX12_flaresOf_X12_tells : GoodIn wsX12_flaresOf (wsV RX12 415 RX12 yX12_tells wsX12_tells) := goodIn_app (goodIn_of _ (by decide +kernel)) ggX12_flaresOf_X12_tells
set_option maxRecDepth 20000 in
theorem ggX12_flaresOf_X12_within : GoodIn wsX12_flaresOf wsX12_within := goodIn_r _ [54] (by decide +kernel) (by decide +kernel)
set_option maxRecDepth 20000 in
theorem gX12_flaresOf_X12_within : GoodIn wsX12_flaresOf (va_wsS RX12 419 yX12_within wsX12_within) := goodIn_app (goodIn_of _ (by decide +kernel)) ggX12_flaresOf_X12_within
set_option maxRecDepth 100000 in
set_option maxHeartbeats 4000000 in
theorem ggX12_isBarred_X12_tells : GoodIn wsX12_isBarred wsX12_tells := goodIn_q _ [6, 13, 17, 23, 35, 39, 42, 46, 50] [7, 8, 1, 9, 10, 11, 12, 5, 14, 15, 16, 18, 19, 20, 21, 22, 24, 25, 26, 27, 28, 29, 30, 31, 32, 33, 34, 36, 37, 38, 40, 41, 43, 44, 45, 47, 48, 49, 51, 52, 53, 54, 55, 56, 57, 58, 59, 60, 61, 62, 63, 64, 65, 66, 67, 68, 69, 70, 71, 72, 73, 74, 75, 76, 77, 78, 79, 80, 81, 82, 83, 84, 85, 86, 87, 88, 89, 90, 91, 92, 93, 94, 95, 96, 97, 98, 99, 100, 101, 102, 103, 104, 105, 106, 107, 108, 109, 110] rfl (by decide +kernel) (by decide +kernel)
set_option maxRecDepth 20000 in
theorem gX12_isBarred_X12_tells : GoodIn wsX12_isBarred (wsV RX12 415 RX12 yX12_tells wsX12_tells) := goodIn_app (goodIn_of _ (by decide +kernel)) ggX12_isBarred_X12_tells
set_option maxRecDepth 100000 in
set_option maxHeartbeats 4000000 in
theorem ggX12_of_X12_isHouse : GoodIn wsX12_of wsX12_isHouse := goodIn_q _ [7, 10] [2, 8, 9, 6, 68, 69, 70, 71, 72, 73, 74, 75, 76, 77, 78, 79, 80, 81, 82, 83, 84, 85, 86, 87, 88, 89, 90, 91, 92, 93, 94, 95, 96, 97, 98, 99, 100, 101, 102, 103, 104, 105, 106, 107, 108, 109, 110, 111, 112, 113, 114, 115, 116, 117, 118, 119, 120, 121, 122, 123, 124, 125, 126, 127] rfl (by decide +kernel) (by decide +kernel)
set_option maxRecDepth 20000 in
theorem gX12_of_X12_isHouse : GoodIn wsX12_of (wsV RX12 197 RX12 yX12_isHouse wsX12_isHouse) := goodIn_app (goodIn_of _ (by decide +kernel)) ggX12_of_X12_isHouse
set_option maxRecDepth 100000 in
set_option maxHeartbeats 4000000 in
theorem ggX12_of_X12_isSounding : GoodIn wsX12_of wsX12_isSounding := goodIn_q _ [14, 18, 10] [2, 15, 16, 17, 6, 8, 9, 68, 69, 70, 71, 72, 73, 74, 75, 76, 77, 78, 79, 80, 81, 82, 83, 84, 85, 86, 87, 88, 89, 90, 91, 92, 93, 94, 95, 96, 97, 98, 99, 100, 101, 102, 103, 104, 105, 106, 107, 108, 109, 110, 111, 112, 113, 114, 115, 116, 117, 118, 119, 120, 121, 122, 123, 124, 125, 126, 127] rfl (by decide +kernel) (by decide +kernel)
set_option maxRecDepth 20000 in
theorem gX12_of_X12_isSounding : GoodIn wsX12_of (wsV RX12 185 RX12 yX12_isSounding wsX12_isSounding) := goodIn_app (goodIn_of _ (by decide +kernel)) ggX12_of_X12_isSounding
set_option maxRecDepth 100000 in
set_option maxHeartbeats 4000000 in
theorem ggX12_of_X12_burnsOf : GoodIn wsX12_of wsX12_burnsOf := goodIn_q _ [22, 26, 18, 33, 39, 51, 14, 10, 7, 55, 58] [23, 24, 25, 6, 27, 28, 2, 29, 15, 16, 17, 30, 31, 32, 34, 35, 36, 37, 38, 40, 41, 42, 43, 44, 45, 46, 47, 48, 49, 50, 11, 12, 13, 8, 9, 3, 4, 5, 52, 53, 54, 56, 57, 68, 69, 70, 71, 72, 73, 74, 75, 76, 77, 78, 79, 80, 81, 82, 83, 84, 85, 86, 87, 88, 89, 90, 91, 92, 93, 94, 95, 96, 97, 98, 99, 100, 101, 102, 103, 104, 105, 106, 107, 108, 109, 110, 111, 112, 113, 114, 115, 116, 117, 118, 119, 120, 121, 122, 123, 124, 125, 126, 127] rfl (by decide +kernel) (by decide +kernel)
set_option maxRecDepth 20000 in
theorem gX12_of_X12_burnsOf : GoodIn wsX12_of (wsV RX12 200 RX12 yX12_burnsOf wsX12_burnsOf) := goodIn_app (goodIn_of _ (by decide +kernel)) ggX12_of_X12_burnsOf
set_option maxRecDepth 100000 in
set_option maxHeartbeats 4000000 in
theorem ggX12_of_X12_flaresOf : GoodIn wsX12_of wsX12_flaresOf := goodIn_q _ [62, 26, 18, 33, 39, 51, 14, 10, 7, 55, 58] [63, 23, 24, 25, 6, 27, 28, 2, 29, 15, 16, 17, 30, 31, 32, 34, 35, 36, 37, 38, 40, 41, 42, 43, 44, 45, 46, 47, 48, 49, 50, 11, 12, 13, 8, 9, 3, 4, 5, 52, 53, 54, 56, 57, 68, 69, 70, 71, 72, 73, 74, 75, 76, 77, 78, 79, 80, 81, 82, 83, 84, 85, 86, 87, 88, 89, 90, 91, 92, 93, 94, 95, 96, 97, 98, 99, 100, 101, 102, 103, 104, 105, 106, 107, 108, 109, 110, 111, 112, 113, 114, 115, 116, 117, 118, 119, 120, 121, 122, 123, 124, 125, 126, 127] rfl (by decide +kernel) (by decide +kernel)
set_option maxRecDepth 20000 in
theorem gX12_of_X12_flaresOf : GoodIn wsX12_of (wsV RX12 204 RX12 yX12_flaresOf wsX12_flaresOf) := goodIn_app (goodIn_of _ (by decide +kernel)) ggX12_of_X12_flaresOf
set_option maxRecDepth 100000 in
set_option maxHeartbeats 4000000 in
theorem ggX12_of_X12_isBarred : GoodIn wsX12_of wsX12_isBarred := goodIn_q _ [67, 26, 18, 33, 39, 51, 14, 10, 7, 55] [2, 23, 24, 25, 6, 27, 28, 29, 15, 16, 17, 30, 31, 32, 34, 35, 36, 37, 38, 40, 41, 42, 43, 44, 45, 46, 47, 48, 49, 50, 11, 12, 13, 8, 9, 3, 4, 5, 52, 53, 54, 68, 69, 70, 71, 72, 73, 74, 75, 76, 77, 78, 79, 80, 81, 82, 83, 84, 85, 86, 87, 88, 89, 90, 91, 92, 93, 94, 95, 96, 97, 98, 99, 100, 101, 102, 103, 104, 105, 106, 107, 108, 109, 110, 111, 112, 113, 114, 115, 116, 117, 118, 119, 120, 121, 122, 123, 124, 125, 126, 127] rfl (by decide +kernel) (by decide +kernel)
set_option maxRecDepth 20000 in
theorem gX12_of_X12_isBarred : GoodIn wsX12_of (wsV RX12 207 RX12 yX12_isBarred wsX12_isBarred) := goodIn_app (goodIn_of _ (by decide +kernel)) ggX12_of_X12_isBarred
set_option maxRecDepth 100000 in
set_option maxHeartbeats 4000000 in
theorem ggX12_discords_X12_isSounding : GoodIn wsX12_discords wsX12_isSounding := goodIn_q _ [6, 10, 13] [1, 7, 8, 9, 5, 11, 12, 57, 58, 59, 60, 61, 62, 63, 64, 65, 66, 67, 68, 69, 70, 71, 72, 73, 74, 75, 76, 77, 78, 79, 80, 81, 82, 83, 84, 85, 86, 87, 88, 89, 90, 91, 92, 93, 94, 95, 96, 97, 98, 99, 100, 101, 102, 103, 104, 105, 106, 107, 108, 109, 110, 111, 112, 113, 114, 115, 116] rfl (by decide +kernel) (by decide +kernel)
set_option maxRecDepth 20000 in
theorem gX12_discords_X12_isSounding : GoodIn wsX12_discords (wsV RX12 185 RX12 yX12_isSounding wsX12_isSounding) := goodIn_app (goodIn_of _ (by decide +kernel)) ggX12_discords_X12_isSounding
set_option maxRecDepth 20000 in
theorem ggX12_discords_X12_areBeside : GoodIn wsX12_discords wsX12_areBeside := goodIn_r _ [16] (by decide +kernel) (by decide +kernel)
set_option maxRecDepth 20000 in
theorem gX12_discords_X12_areBeside : GoodIn wsX12_discords (va_wsS RX12 425 yX12_areBeside wsX12_areBeside) := goodIn_app (goodIn_of _ (by decide +kernel)) ggX12_discords_X12_areBeside
set_option maxRecDepth 100000 in
set_option maxHeartbeats 4000000 in
theorem ggX12_discords_X12_tells : GoodIn wsX12_discords wsX12_tells := goodIn_q _ [20, 10, 27, 33, 45, 6, 13, 49, 53] [21, 22, 1, 23, 7, 8, 9, 5, 24, 25, 26, 28, 29, 30, 31, 32, 34, 35, 36, 37, 38, 39, 40, 41, 42, 43, 44, 2, 3, 4, 11, 12, 46, 47, 48, 50, 51, 52, 57, 58, 59, 60, 61, 62, 63, 64, 65, 66, 67, 68, 69, 70, 71, 72, 73, 74, 75, 76, 77, 78, 79, 80, 81, 82, 83, 84, 85, 86, 87, 88, 89, 90, 91, 92, 93, 94, 95, 96, 97, 98, 99, 100, 101, 102, 103, 104, 105, 106, 107, 108, 109, 110, 111, 112, 113, 114, 115, 116] rfl (by decide +kernel) (by decide +kernel)
set_option maxRecDepth 20000 in
theorem gX12_discords_X12_tells : GoodIn wsX12_discords (wsV RX12 415 RX12 yX12_tells wsX12_tells) := goodIn_app (goodIn_of _ (by decide +kernel)) ggX12_discords_X12_tells
set_option maxRecDepth 20000 in
theorem ggX12_discords_X12_within : GoodIn wsX12_discords wsX12_within := goodIn_r _ [56] (by decide +kernel) (by decide +kernel)
set_option maxRecDepth 20000 in
theorem gX12_discords_X12_within : GoodIn wsX12_discords (va_wsS RX12 419 yX12_within wsX12_within) := goodIn_app (goodIn_of _ (by decide +kernel)) ggX12_discords_X12_within
set_option maxRecDepth 100000 in
set_option maxHeartbeats 4000000 in
theorem ggX12_discord_X12_discords : GoodIn wsX12_discord wsX12_discords := goodIn_q _ [6, 11, 15, 18, 21, 25, 32, 38, 50, 54, 58, 61] [7, 8, 9, 10, 5, 12, 13, 14, 16, 17, 19, 20, 22, 23, 24, 26, 27, 28, 29, 30, 31, 33, 34, 35, 36, 37, 39, 40, 41, 42, 43, 44, 45, 46, 47, 48, 49, 51, 52, 53, 55, 56, 57, 59, 60, 62, 63, 64, 65, 66, 67, 68, 69, 70, 71, 72, 73, 74, 75, 76, 77, 78, 79, 80, 81, 82, 83, 84, 85, 86, 87, 88, 89, 90, 91, 92, 93, 94, 95, 96, 97, 98, 99, 100, 101, 102, 103, 104, 105, 106, 107, 108, 109, 110, 111, 112, 113, 114, 115, 116, 117, 118, 119, 120, 121] rfl (by decide +kernel) (by decide +kernel)
set_option maxRecDepth 20000 in
theorem gX12_discord_X12_discords : GoodIn wsX12_discord (wsV RX12 428 RX12 yX12_discords wsX12_discords) := goodIn_app (goodIn_of _ (by decide +kernel)) ggX12_discord_X12_discords
set_option maxRecDepth 100000 in
set_option maxHeartbeats 4000000 in
theorem ggX12_isMet_X12_term : GoodIn wsX12_isMet wsX12_term := goodIn_q _ [6] [1, 18, 19, 20, 21, 22, 23, 24, 25, 26, 27, 28, 29, 30, 31, 32, 33, 34, 35, 36, 37, 38, 39, 40, 41, 42, 43, 44, 45, 46, 47, 48, 49, 50, 51, 52, 53, 54, 55, 56, 57, 58, 59, 60, 61, 62, 63, 64, 65, 66, 67, 68, 69, 70, 71, 72, 73, 74, 75, 76, 77] rfl (by decide +kernel) (by decide +kernel)
set_option maxRecDepth 20000 in
theorem gX12_isMet_X12_term : GoodIn wsX12_isMet (wsV RX12 182 RX12 yX12_term wsX12_term) := goodIn_app (goodIn_of _ (by decide +kernel)) ggX12_isMet_X12_term
set_option maxRecDepth 100000 in
set_option maxHeartbeats 4000000 in
theorem ggX12_isMet_X12_soundingNotes : GoodIn wsX12_isMet wsX12_soundingNotes := goodIn_q _ [10, 14, 6, 17] [1, 11, 12, 13, 5, 2, 3, 4, 15, 16, 18, 19, 20, 21, 22, 23, 24, 25, 26, 27, 28, 29, 30, 31, 32, 33, 34, 35, 36, 37, 38, 39, 40, 41, 42, 43, 44, 45, 46, 47, 48, 49, 50, 51, 52, 53, 54, 55, 56, 57, 58, 59, 60, 61, 62, 63, 64, 65, 66, 67, 68, 69, 70, 71, 72, 73, 74, 75, 76, 77] rfl (by decide +kernel) (by decide +kernel)
set_option maxRecDepth 20000 in
theorem gX12_isMet_X12_soundingNotes : GoodIn wsX12_isMet (wsV RX12 431 RX12 yX12_soundingNotes wsX12_soundingNotes) := goodIn_app (goodIn_of _ (by decide +kernel)) ggX12_isMet_X12_soundingNotes
set_option maxRecDepth 20000 in
theorem ggX12_sounds_X12_in : GoodIn wsX12_sounds wsX12_in := goodIn_r _ [6] (by decide +kernel) (by decide +kernel)
set_option maxRecDepth 20000 in
theorem gX12_sounds_X12_in : GoodIn wsX12_sounds (va_wsS RX12 178 yX12_in wsX12_in) := goodIn_app (goodIn_of _ (by decide +kernel)) ggX12_sounds_X12_in
set_option maxRecDepth 100000 in
set_option maxHeartbeats 4000000 in
theorem ggX12_sounds_X12_soundingNotes : GoodIn wsX12_sounds wsX12_soundingNotes := goodIn_q _ [10, 15, 19, 6] [11, 12, 13, 14, 5, 16, 17, 18, 3, 4, 27, 28, 29, 30, 31, 32, 33, 34, 35, 36, 37, 38, 39, 40, 41, 42, 43, 44, 45, 46, 47, 48, 49, 50, 51, 52, 53, 54, 55, 56, 57, 58, 59, 60, 61, 62, 63, 64, 65, 66, 67, 68, 69, 70, 71, 72, 73, 74, 75, 76, 77, 78, 79, 80, 81, 82, 83, 84, 85, 86] rfl (by decide +kernel) (by decide +kernel)
set_option maxRecDepth 20000 in
theorem gX12_sounds_X12_soundingNotes : GoodIn wsX12_sounds (wsV RX12 431 RX12 yX12_soundingNotes wsX12_soundingNotes) := goodIn_app (goodIn_of _ (by decide +kernel)) ggX12_sounds_X12_soundingNotes
set_option maxRecDepth 100000 in
set_option maxHeartbeats 4000000 in
theorem ggX12_sounds_X12_isMet : GoodIn wsX12_sounds wsX12_isMet := goodIn_q _ [26, 19, 10, 15, 6] [11, 16, 17, 18, 5, 7, 8, 9, 12, 13, 14, 3, 4, 27, 28, 29, 30, 31, 32, 33, 34, 35, 36, 37, 38, 39, 40, 41, 42, 43, 44, 45, 46, 47, 48, 49, 50, 51, 52, 53, 54, 55, 56, 57, 58, 59, 60, 61, 62, 63, 64, 65, 66, 67, 68, 69, 70, 71, 72, 73, 74, 75, 76, 77, 78, 79, 80, 81, 82, 83, 84, 85, 86] rfl (by decide +kernel) (by decide +kernel)
set_option maxRecDepth 20000 in
theorem gX12_sounds_X12_isMet : GoodIn wsX12_sounds (wsV RX12 439 RX12 yX12_isMet wsX12_isMet) := goodIn_app (goodIn_of _ (by decide +kernel)) ggX12_sounds_X12_isMet
set_option maxRecDepth 20000 in
theorem ggX12_sounds_X12_is : GoodIn wsX12_sounds wsX12_is := goodIn_r _ [22] (by decide +kernel) (by decide +kernel)
set_option maxRecDepth 20000 in
theorem gX12_sounds_X12_is : GoodIn wsX12_sounds (va_wsS RX12 436 yX12_is wsX12_is) := goodIn_app (goodIn_of _ (by decide +kernel)) ggX12_sounds_X12_is
set_option maxRecDepth 100000 in
set_option maxHeartbeats 4000000 in
theorem ggX12_flare_X12_flaresOf : GoodIn wsX12_flare wsX12_flaresOf := goodIn_q _ [6, 11, 18, 22, 28, 40, 44, 47, 51, 55, 58] [7, 8, 9, 10, 5, 12, 13, 1, 14, 15, 16, 17, 19, 20, 21, 23, 24, 25, 26, 27, 29, 30, 31, 32, 33, 34, 35, 36, 37, 38, 39, 41, 42, 43, 45, 46, 48, 49, 50, 52, 53, 54, 56, 57, 59, 60, 61, 62, 63, 64, 65, 66, 67, 68, 69, 70, 71, 72, 73, 74, 75, 76, 77, 78, 79, 80, 81, 82, 83, 84, 85, 86, 87, 88, 89, 90, 91, 92, 93, 94, 95, 96, 97, 98, 99, 100, 101, 102, 103, 104, 105, 106, 107, 108, 109, 110, 111, 112, 113, 114, 115, 116, 117, 118] rfl (by decide +kernel) (by decide +kernel)
set_option maxRecDepth 20000 in
theorem gX12_flare_X12_flaresOf : GoodIn wsX12_flare (wsV RX12 204 RX12 yX12_flaresOf wsX12_flaresOf) := goodIn_app (goodIn_of _ (by decide +kernel)) ggX12_flare_X12_flaresOf
set_option maxRecDepth 20000 in
theorem ggX12_flare_X12_within : GoodIn wsX12_flare wsX12_within := goodIn_r _ [58] (by decide +kernel) (by decide +kernel)
set_option maxRecDepth 20000 in
theorem gX12_flare_X12_within : GoodIn wsX12_flare (va_wsS RX12 419 yX12_within wsX12_within) := goodIn_app (goodIn_of _ (by decide +kernel)) ggX12_flare_X12_within
set_option maxRecDepth 100000 in
set_option maxHeartbeats 4000000 in
theorem ggX12_canStoke_X12_isBarred : GoodIn wsX12_canStoke wsX12_isBarred := goodIn_q _ [6, 10, 17, 21, 27, 39, 43, 46, 50, 54] [1, 7, 8, 9, 5, 11, 12, 13, 14, 15, 16, 18, 19, 20, 22, 23, 24, 25, 26, 28, 29, 30, 31, 32, 33, 34, 35, 36, 37, 38, 40, 41, 42, 44, 45, 47, 48, 49, 51, 52, 53, 55, 56, 57, 58, 59, 60, 61, 62, 63, 64, 65, 66, 67, 68, 69, 70, 71, 72, 73, 74, 75, 76, 77, 78, 79, 80, 81, 82, 83, 84, 85, 86, 87, 88, 89, 90, 91, 92, 93, 94, 95, 96, 97, 98, 99, 100, 101, 102, 103, 104, 105, 106, 107, 108, 109, 110, 111, 112, 113, 114] rfl (by decide +kernel) (by decide +kernel)
set_option maxRecDepth 20000 in
theorem gX12_canStoke_X12_isBarred : GoodIn wsX12_canStoke (wsV RX12 207 RX12 yX12_isBarred wsX12_isBarred) := goodIn_app (goodIn_of _ (by decide +kernel)) ggX12_canStoke_X12_isBarred
set_option maxRecDepth 100000 in
set_option maxHeartbeats 4000000 in
theorem ggX12_stokeIt_X12_flare : GoodIn wsX12_stokeIt wsX12_flare := goodIn_q _ [6, 10, 15, 22, 26, 32, 44, 48, 51, 55, 59, 62] [1, 7, 8, 9, 5, 11, 12, 13, 14, 16, 17, 18, 19, 20, 21, 23, 24, 25, 27, 28, 29, 30, 31, 33, 34, 35, 36, 37, 38, 39, 40, 41, 42, 43, 45, 46, 47, 49, 50, 52, 53, 54, 56, 57, 58, 60, 61, 63, 64, 65, 66, 67, 68, 69, 70, 71, 72, 73, 74, 75, 76, 77, 78, 79, 80, 81, 82, 83, 84, 85, 86, 87, 88, 89, 90, 91, 92, 93, 94, 95, 96, 97, 98, 99, 100, 101, 102, 103, 104, 105, 106, 107, 108, 109, 110, 111, 112, 113, 114, 115, 116, 117, 118, 119, 120, 121, 122] rfl (by decide +kernel) (by decide +kernel)
set_option maxRecDepth 20000 in
theorem gX12_stokeIt_X12_flare : GoodIn wsX12_stokeIt (wsV RX12 442 RX12 yX12_flare wsX12_flare) := goodIn_app (goodIn_of _ (by decide +kernel)) ggX12_stokeIt_X12_flare
set_option maxRecDepth 100000 in
set_option maxHeartbeats 4000000 in
theorem ggX12_stokeNow_X12_isHouse : GoodIn wsX12_stokeNow wsX12_isHouse := goodIn_q _ [6, 9] [1, 7, 8, 5, 86, 87, 88, 89, 90, 91, 92, 93, 94, 95, 96, 97, 98, 99, 100, 101, 102, 103, 104, 105, 106, 107, 108, 109, 110, 111, 112, 113, 114, 115, 116, 117, 118, 119, 120, 121, 122, 123, 124, 125, 126, 127, 128, 129, 130, 131, 132, 133, 134, 135, 136, 137, 138, 139, 140, 141, 142, 143, 144, 145] rfl (by decide +kernel) (by decide +kernel)
set_option maxRecDepth 20000 in
theorem gX12_stokeNow_X12_isHouse : GoodIn wsX12_stokeNow (wsV RX12 197 RX12 yX12_isHouse wsX12_isHouse) := goodIn_app (goodIn_of _ (by decide +kernel)) ggX12_stokeNow_X12_isHouse
set_option maxRecDepth 100000 in
set_option maxHeartbeats 4000000 in
theorem ggX12_stokeNow_X12_canStoke : GoodIn wsX12_stokeNow wsX12_canStoke := goodIn_q _ [13, 17, 21, 28, 32, 38, 50, 54, 9, 6, 58] [1, 14, 15, 16, 5, 18, 19, 20, 22, 23, 24, 25, 26, 27, 29, 30, 31, 33, 34, 35, 36, 37, 39, 40, 41, 42, 43, 44, 45, 46, 47, 48, 49, 51, 52, 53, 7, 8, 2, 3, 4, 55, 56, 57, 86, 87, 88, 89, 90, 91, 92, 93, 94, 95, 96, 97, 98, 99, 100, 101, 102, 103, 104, 105, 106, 107, 108, 109, 110, 111, 112, 113, 114, 115, 116, 117, 118, 119, 120, 121, 122, 123, 124, 125, 126, 127, 128, 129, 130, 131, 132, 133, 134, 135, 136, 137, 138, 139, 140, 141, 142, 143, 144, 145] rfl (by decide +kernel) (by decide +kernel)
set_option maxRecDepth 20000 in
theorem gX12_stokeNow_X12_canStoke : GoodIn wsX12_stokeNow (wsV RX12 445 RX12 yX12_canStoke wsX12_canStoke) := goodIn_app (goodIn_of _ (by decide +kernel)) ggX12_stokeNow_X12_canStoke
set_option maxRecDepth 100000 in
set_option maxHeartbeats 4000000 in
theorem ggX12_stokeNow_X12_remember : GoodIn wsX12_stokeNow wsX12_remember := goodIn_q _ [62, 69] [63, 64, 65, 66, 67, 68, 5, 1, 86, 87, 88, 89, 90, 91, 92, 93, 94, 95, 96, 97, 98, 99, 100, 101, 102, 103, 104, 105, 106, 107, 108, 109, 110, 111, 112, 113, 114, 115, 116, 117, 118, 119, 120, 121, 122, 123, 124, 125, 126, 127, 128, 129, 130, 131, 132, 133, 134, 135, 136, 137, 138, 139, 140, 141, 142, 143, 144, 145] rfl (by decide +kernel) (by decide +kernel)
set_option maxRecDepth 20000 in
theorem gX12_stokeNow_X12_remember : GoodIn wsX12_stokeNow (wsV RX12 448 RX12 yX12_remember wsX12_remember) := goodIn_app (goodIn_of _ (by decide +kernel)) ggX12_stokeNow_X12_remember
set_option maxRecDepth 100000 in
set_option maxHeartbeats 4000000 in
theorem ggX12_stokeNow_X12_stokeIt : GoodIn wsX12_stokeNow wsX12_stokeIt := goodIn_q _ [73, 77, 81, 21, 28, 32, 38, 50, 54, 9, 6, 58, 85] [1, 74, 75, 76, 5, 78, 79, 80, 82, 18, 19, 20, 22, 23, 24, 25, 26, 27, 29, 30, 31, 33, 34, 35, 36, 37, 39, 40, 41, 42, 43, 44, 45, 46, 47, 48, 49, 51, 52, 53, 7, 8, 2, 3, 4, 55, 56, 57, 83, 84, 86, 87, 88, 89, 90, 91, 92, 93, 94, 95, 96, 97, 98, 99, 100, 101, 102, 103, 104, 105, 106, 107, 108, 109, 110, 111, 112, 113, 114, 115, 116, 117, 118, 119, 120, 121, 122, 123, 124, 125, 126, 127, 128, 129, 130, 131, 132, 133, 134, 135, 136, 137, 138, 139, 140, 141, 142, 143, 144, 145] rfl (by decide +kernel) (by decide +kernel)
set_option maxRecDepth 20000 in
theorem gX12_stokeNow_X12_stokeIt : GoodIn wsX12_stokeNow (wsV RX12 451 RX12 yX12_stokeIt wsX12_stokeIt) := goodIn_app (goodIn_of _ (by decide +kernel)) ggX12_stokeNow_X12_stokeIt
set_option maxRecDepth 20000 in
theorem ggX12_dampNow_X12_in : GoodIn wsX12_dampNow wsX12_in := goodIn_r _ [6] (by decide +kernel) (by decide +kernel)
set_option maxRecDepth 20000 in
theorem gX12_dampNow_X12_in : GoodIn wsX12_dampNow (va_wsS RX12 178 yX12_in wsX12_in) := goodIn_app (goodIn_of _ (by decide +kernel)) ggX12_dampNow_X12_in
set_option maxRecDepth 100000 in
set_option maxHeartbeats 4000000 in
theorem ggX12_dampNow_X12_isHouse : GoodIn wsX12_dampNow wsX12_isHouse := goodIn_q _ [10, 6] [2, 3, 4, 5, 25, 26, 27, 28, 29, 30, 31, 32, 33, 34, 35, 36, 37, 38, 39, 40, 41, 42, 43, 44, 45, 46, 47, 48, 49, 50, 51, 52, 53, 54, 55, 56, 57, 58, 59, 60, 61, 62, 63, 64, 65, 66, 67, 68, 69, 70, 71, 72, 73, 74, 75, 76, 77, 78, 79, 80, 81, 82, 83, 84] rfl (by decide +kernel) (by decide +kernel)
set_option maxRecDepth 20000 in
theorem gX12_dampNow_X12_isHouse : GoodIn wsX12_dampNow (wsV RX12 197 RX12 yX12_isHouse wsX12_isHouse) := goodIn_app (goodIn_of _ (by decide +kernel)) ggX12_dampNow_X12_isHouse
set_option maxRecDepth 100000 in
set_option maxHeartbeats 4000000 in
theorem ggX12_dampNow_X12_remember : GoodIn wsX12_dampNow wsX12_remember := goodIn_q _ [14, 21] [15, 16, 17, 18, 19, 20, 5, 2, 25, 26, 27, 28, 29, 30, 31, 32, 33, 34, 35, 36, 37, 38, 39, 40, 41, 42, 43, 44, 45, 46, 47, 48, 49, 50, 51, 52, 53, 54, 55, 56, 57, 58, 59, 60, 61, 62, 63, 64, 65, 66, 67, 68, 69, 70, 71, 72, 73, 74, 75, 76, 77, 78, 79, 80, 81, 82, 83, 84] rfl (by decide +kernel) (by decide +kernel)
set_option maxRecDepth 20000 in
theorem gX12_dampNow_X12_remember : GoodIn wsX12_dampNow (wsV RX12 448 RX12 yX12_remember wsX12_remember) := goodIn_app (goodIn_of _ (by decide +kernel)) ggX12_dampNow_X12_remember
set_option maxRecDepth 20000 in
theorem ggX12_dampNow_X12_within : GoodIn wsX12_dampNow wsX12_within := goodIn_r _ [24] (by decide +kernel) (by decide +kernel)
set_option maxRecDepth 20000 in
theorem gX12_dampNow_X12_within : GoodIn wsX12_dampNow (va_wsS RX12 419 yX12_within wsX12_within) := goodIn_app (goodIn_of _ (by decide +kernel)) ggX12_dampNow_X12_within
set_option maxRecDepth 20000 in
theorem ggX12_buyNow_X12_in : GoodIn wsX12_buyNow wsX12_in := goodIn_r _ [6] (by decide +kernel) (by decide +kernel)
set_option maxRecDepth 20000 in
theorem gX12_buyNow_X12_in : GoodIn wsX12_buyNow (va_wsS RX12 178 yX12_in wsX12_in) := goodIn_app (goodIn_of _ (by decide +kernel)) ggX12_buyNow_X12_in
set_option maxRecDepth 100000 in
set_option maxHeartbeats 4000000 in
theorem ggX12_buyNow_X12_isHouse : GoodIn wsX12_buyNow wsX12_isHouse := goodIn_q _ [10, 6] [2, 3, 4, 5, 25, 26, 27, 28, 29, 30, 31, 32, 33, 34, 35, 36, 37, 38, 39, 40, 41, 42, 43, 44, 45, 46, 47, 48, 49, 50, 51, 52, 53, 54, 55, 56, 57, 58, 59, 60, 61, 62, 63, 64, 65, 66, 67, 68, 69, 70, 71, 72, 73, 74, 75, 76, 77, 78, 79, 80, 81, 82, 83, 84] rfl (by decide +kernel) (by decide +kernel)
set_option maxRecDepth 20000 in
theorem gX12_buyNow_X12_isHouse : GoodIn wsX12_buyNow (wsV RX12 197 RX12 yX12_isHouse wsX12_isHouse) := goodIn_app (goodIn_of _ (by decide +kernel)) ggX12_buyNow_X12_isHouse
set_option maxRecDepth 100000 in
set_option maxHeartbeats 4000000 in
theorem ggX12_buyNow_X12_remember : GoodIn wsX12_buyNow wsX12_remember := goodIn_q _ [14, 21] [15, 16, 17, 18, 19, 20, 5, 2, 25, 26, 27, 28, 29, 30, 31, 32, 33, 34, 35, 36, 37, 38, 39, 40, 41, 42, 43, 44, 45, 46, 47, 48, 49, 50, 51, 52, 53, 54, 55, 56, 57, 58, 59, 60, 61, 62, 63, 64, 65, 66, 67, 68, 69, 70, 71, 72, 73, 74, 75, 76, 77, 78, 79, 80, 81, 82, 83, 84] rfl (by decide +kernel) (by decide +kernel)
set_option maxRecDepth 20000 in
theorem gX12_buyNow_X12_remember : GoodIn wsX12_buyNow (wsV RX12 448 RX12 yX12_remember wsX12_remember) := goodIn_app (goodIn_of _ (by decide +kernel)) ggX12_buyNow_X12_remember
set_option maxRecDepth 20000 in
theorem ggX12_buyNow_X12_within : GoodIn wsX12_buyNow wsX12_within := goodIn_r _ [24] (by decide +kernel) (by decide +kernel)
set_option maxRecDepth 20000 in
theorem gX12_buyNow_X12_within : GoodIn wsX12_buyNow (va_wsS RX12 419 yX12_within wsX12_within) := goodIn_app (goodIn_of _ (by decide +kernel)) ggX12_buyNow_X12_within
set_option maxRecDepth 100000 in
set_option maxHeartbeats 4000000 in
theorem ggX12_stoke_X12_stokeNow : GoodIn wsX12_stoke wsX12_stokeNow := goodIn_q _ [6, 11, 14, 18, 22, 26, 33, 37, 43, 55, 59, 63, 67, 74, 78, 82, 86, 90] [7, 8, 9, 10, 5, 12, 13, 15, 16, 17, 19, 20, 21, 23, 24, 25, 27, 28, 29, 30, 31, 32, 34, 35, 36, 38, 39, 40, 41, 42, 44, 45, 46, 47, 48, 49, 50, 51, 52, 53, 54, 56, 57, 58, 60, 61, 62, 64, 65, 66, 68, 69, 70, 71, 72, 73, 75, 76, 77, 79, 80, 81, 83, 84, 85, 87, 88, 89, 97, 98, 99, 100, 101, 102, 103, 104, 105, 106, 107, 108, 109, 110, 111, 112, 113, 114, 115, 116, 117, 118, 119, 120, 121, 122, 123, 124, 125, 126, 127, 128, 129, 130, 131, 132, 133, 134, 135, 136, 137, 138, 139, 140, 141, 142, 143, 144, 145, 146, 147, 148, 149, 150, 151, 152, 153, 154, 155, 156] rfl (by decide +kernel) (by decide +kernel)
set_option maxRecDepth 20000 in
theorem gX12_stoke_X12_stokeNow : GoodIn wsX12_stoke (wsV RX12 454 RX12 yX12_stokeNow wsX12_stokeNow) := goodIn_app (goodIn_of _ (by decide +kernel)) ggX12_stoke_X12_stokeNow
set_option maxRecDepth 100000 in
set_option maxHeartbeats 4000000 in
theorem ggX12_stoke_X12_tell : GoodIn wsX12_stoke wsX12_tell := goodIn_q _ [94] [95, 96, 97, 98, 99, 100, 101, 102, 103, 104, 105, 106, 107, 108, 109, 110, 111, 112, 113, 114, 115, 116, 117, 118, 119, 120, 121, 122, 123, 124, 125, 126, 127, 128, 129, 130, 131, 132, 133, 134, 135, 136, 137, 138, 139, 140, 141, 142, 143, 144, 145, 146, 147, 148, 149, 150, 151, 152, 153, 154, 155, 156] rfl (by decide +kernel) (by decide +kernel)
set_option maxRecDepth 20000 in
theorem gX12_stoke_X12_tell : GoodIn wsX12_stoke (wsV RX12 171 RX12 yX12_tell wsX12_tell) := goodIn_app (goodIn_of _ (by decide +kernel)) ggX12_stoke_X12_tell
set_option maxRecDepth 100000 in
set_option maxHeartbeats 4000000 in
theorem ggX12_damp_X12_dampNow : GoodIn wsX12_damp wsX12_dampNow := goodIn_q _ [6, 11, 15, 19, 26, 29] [7, 8, 9, 10, 5, 12, 13, 14, 16, 17, 18, 20, 21, 22, 23, 24, 25, 27, 28, 36, 37, 38, 39, 40, 41, 42, 43, 44, 45, 46, 47, 48, 49, 50, 51, 52, 53, 54, 55, 56, 57, 58, 59, 60, 61, 62, 63, 64, 65, 66, 67, 68, 69, 70, 71, 72, 73, 74, 75, 76, 77, 78, 79, 80, 81, 82, 83, 84, 85, 86, 87, 88, 89, 90, 91, 92, 93, 94, 95] rfl (by decide +kernel) (by decide +kernel)
set_option maxRecDepth 20000 in
theorem gX12_damp_X12_dampNow : GoodIn wsX12_damp (wsV RX12 457 RX12 yX12_dampNow wsX12_dampNow) := goodIn_app (goodIn_of _ (by decide +kernel)) ggX12_damp_X12_dampNow
set_option maxRecDepth 100000 in
set_option maxHeartbeats 4000000 in
theorem ggX12_damp_X12_tell : GoodIn wsX12_damp wsX12_tell := goodIn_q _ [33] [34, 35, 36, 37, 38, 39, 40, 41, 42, 43, 44, 45, 46, 47, 48, 49, 50, 51, 52, 53, 54, 55, 56, 57, 58, 59, 60, 61, 62, 63, 64, 65, 66, 67, 68, 69, 70, 71, 72, 73, 74, 75, 76, 77, 78, 79, 80, 81, 82, 83, 84, 85, 86, 87, 88, 89, 90, 91, 92, 93, 94, 95] rfl (by decide +kernel) (by decide +kernel)
set_option maxRecDepth 20000 in
theorem gX12_damp_X12_tell : GoodIn wsX12_damp (wsV RX12 171 RX12 yX12_tell wsX12_tell) := goodIn_app (goodIn_of _ (by decide +kernel)) ggX12_damp_X12_tell
set_option maxRecDepth 100000 in
set_option maxHeartbeats 4000000 in
theorem ggX12_buy_X12_buyNow : GoodIn wsX12_buy wsX12_buyNow := goodIn_q _ [6, 11, 15, 19, 26, 29] [7, 8, 9, 10, 5, 12, 13, 14, 16, 17, 18, 20, 21, 22, 23, 24, 25, 27, 28, 36, 37, 38, 39, 40, 41, 42, 43, 44, 45, 46, 47, 48, 49, 50, 51, 52, 53, 54, 55, 56, 57, 58, 59, 60, 61, 62, 63, 64, 65, 66, 67, 68, 69, 70, 71, 72, 73, 74, 75, 76, 77, 78, 79, 80, 81, 82, 83, 84, 85, 86, 87, 88, 89, 90, 91, 92, 93, 94, 95] rfl (by decide +kernel) (by decide +kernel)
set_option maxRecDepth 20000 in
theorem gX12_buy_X12_buyNow : GoodIn wsX12_buy (wsV RX12 460 RX12 yX12_buyNow wsX12_buyNow) := goodIn_app (goodIn_of _ (by decide +kernel)) ggX12_buy_X12_buyNow
set_option maxRecDepth 100000 in
set_option maxHeartbeats 4000000 in
theorem ggX12_buy_X12_tell : GoodIn wsX12_buy wsX12_tell := goodIn_q _ [33] [34, 35, 36, 37, 38, 39, 40, 41, 42, 43, 44, 45, 46, 47, 48, 49, 50, 51, 52, 53, 54, 55, 56, 57, 58, 59, 60, 61, 62, 63, 64, 65, 66, 67, 68, 69, 70, 71, 72, 73, 74, 75, 76, 77, 78, 79, 80, 81, 82, 83, 84, 85, 86, 87, 88, 89, 90, 91, 92, 93, 94, 95] rfl (by decide +kernel) (by decide +kernel)
set_option maxRecDepth 20000 in
theorem gX12_buy_X12_tell : GoodIn wsX12_buy (wsV RX12 171 RX12 yX12_tell wsX12_tell) := goodIn_app (goodIn_of _ (by decide +kernel)) ggX12_buy_X12_tell
set_option maxHeartbeats 4000000 in
set_option maxRecDepth 100000 in
theorem v_burnsOf (l : Launch) (D : va_G) (K : Nat → ClassId) (m0 : Nat) (x : Int32) (y : Int32) (m_0 : Value) (m_1 : Value) (m_2 : Value) (w0 : Nat) (m_4 : Value) (m_5 : Value) (m_6 : Value) (m_7 : Value) (m_8 : Value) (m_9 : Value) (m_10 : Value) (m_11 : Value) (m_12 : Value) (m_13 : Value) (m_14 : Value) (m_15 : Value) (m_16 : Value) (m_17 : Value) (m_18 : Value) (m_19 : Value) (m_21 : Value) (m_22 : Value) (m_23 : Value) (m_24 : Value) (m_25 : Value) (m_26 : Value) (m_27 : Value) (m_28 : Value) (m_29 : Value) (m_30 : Value) (m_31 : Value) (m_32 : Value) (m_33 : Value) (lw : Int32) (e0 : Nat) (m_36 : Value) (q0 : Nat) (bro : Int32) (val : Int64) (sm : Int64) (m_41 : Value) (m_42 : Value) (m_43 : Value) (m_44 : Value) (m_45 : Value) (m_46 : Value) (m_47 : Value) (m_48 : Value) (m_49 : Value) (m_50 : Value) (m_51 : Value) (m_52 : Value) (m_53 : Value) (m_54 : Value) (m_55 : Value) (m_56 : Value) (m_57 : Value) (m_58 : Value) (m_59 : Value) (fw : Nat → Int32) (fe : Nat → Int64) (frs : Nat → Int64) (sz : Nat) (zbro : 0 ≤ bro.toInt ∧ bro.toInt ≤ 1) (zx : (-1) ≤ x.toInt ∧ x.toInt ≤ 5) (zy : 0 ≤ y.toInt ∧ y.toInt ≤ 7) (zfw : RwOK fw) : Met l yX12_burnsOf wsX12_burnsOf ({ frames := 4, cells := 0, slots := 0, locals := 102 }) (va_Pc [.ref m0, .int x, .int y] (Pre D K [(m0, .inr (12, [m_0, m_1, m_2, .ref w0, m_4, m_5, m_6, m_7, m_8, m_9, m_10, m_11, m_12, m_13, m_14, m_15, m_16, m_17, m_18, m_19, .int 0, m_21, m_22, m_23, m_24, m_25, m_26, m_27, m_28, m_29, m_30, m_31, m_32, m_33, .int lw, .ref e0, m_36, .ref q0, .int bro, .long val, .long sm, m_41, m_42, m_43, m_44, m_45, m_46, m_47, m_48, m_49, m_50, m_51, m_52, m_53, m_54, m_55, m_56, m_57, m_58, m_59])), (w0, .inl (K 0, 5500, .inl fw)), (e0, .inl (K 2, 13, .inr (.inl fe))), (q0, .inl (K 2, 400, .inr (.inl frs)))] sz)) (va_Qi (S := Su) (fun (r : Int32) (u : Su) => (0 ≤ r.toInt ∧ r.toInt ≤ 20) ∧ (0 ≤ (u.2.2.2.1 1).toInt ∧ (u.2.2.2.1 1).toInt ≤ 1) ∧ True) (fun u t => Wd D (va_A [(m0, .inr (12, [m_0, m_1, m_2, .ref w0, m_4, m_5, m_6, m_7, m_8, m_9, m_10, m_11, m_12, m_13, m_14, m_15, m_16, m_17, m_18, m_19, .int 0, m_21, m_22, m_23, m_24, m_25, m_26, m_27, m_28, m_29, m_30, m_31, m_32, m_33, .int lw, .ref e0, m_36, .ref q0, .int bro, .long val, .long sm, m_41, m_42, m_43, m_44, m_45, m_46, m_47, m_48, m_49, m_50, m_51, m_52, m_53, m_54, m_55, m_56, m_57, m_58, m_59])), (w0, .inl (K 0, 5500, .inl fw)), (e0, .inl (K 2, 13, .inr (.inl fe))), (q0, .inl (K 2, 400, .inr (.inl frs)))] sz) ((fun u => [(m0, .inr (12, [m_0, m_1, m_2, .ref w0, m_4, m_5, m_6, m_7, m_8, m_9, m_10, m_11, m_12, m_13, m_14, m_15, m_16, m_17, m_18, m_19, .int 0, m_21, m_22, m_23, m_24, m_25, m_26, m_27, m_28, m_29, m_30, m_31, m_32, m_33, .int (u.2.2.2.1 0), .ref e0, m_36, .ref q0, .int (u.2.2.2.1 1), .long (u.2.2.2.2.1 0), .long (u.2.2.2.2.1 1), m_41, m_42, m_43, m_44, m_45, m_46, m_47, m_48, m_49, m_50, m_51, m_52, m_53, m_54, m_55, m_56, m_57, m_58, m_59])), (w0, .inl (K 0, 5500, .inl fw)), (e0, .inl (K 2, 13, .inr (.inl (u.2.2.1 0)))), (q0, .inl (K 2, 400, .inr (.inl (u.2.2.1 1))))]) u) t) (va_A [(m0, .inr (12, [m_0, m_1, m_2, .ref w0, m_4, m_5, m_6, m_7, m_8, m_9, m_10, m_11, m_12, m_13, m_14, m_15, m_16, m_17, m_18, m_19, .int 0, m_21, m_22, m_23, m_24, m_25, m_26, m_27, m_28, m_29, m_30, m_31, m_32, m_33, .int lw, .ref e0, m_36, .ref q0, .int bro, .long val, .long sm, m_41, m_42, m_43, m_44, m_45, m_46, m_47, m_48, m_49, m_50, m_51, m_52, m_53, m_54, m_55, m_56, m_57, m_58, m_59])), (w0, .inl (K 0, 5500, .inl fw)), (e0, .inl (K 2, 13, .inr (.inl fe))), (q0, .inl (K 2, 400, .inr (.inl frs)))] sz)) 0 0 (va_A [(m0, .inr (12, [m_0, m_1, m_2, .ref w0, m_4, m_5, m_6, m_7, m_8, m_9, m_10, m_11, m_12, m_13, m_14, m_15, m_16, m_17, m_18, m_19, .int 0, m_21, m_22, m_23, m_24, m_25, m_26, m_27, m_28, m_29, m_30, m_31, m_32, m_33, .int lw, .ref e0, m_36, .ref q0, .int bro, .long val, .long sm, m_41, m_42, m_43, m_44, m_45, m_46, m_47, m_48, m_49, m_50, m_51, m_52, m_53, m_54, m_55, m_56, m_57, m_58, m_59])), (w0, .inl (K 0, 5500, .inl fw)), (e0, .inl (K 2, 13, .inr (.inl fe))), (q0, .inl (K 2, 400, .inr (.inl frs)))] sz) := by
  refine Met.ofW (cc := cX12_burnsOf) (maxL := 3) (ret := (some .int)) (by decide) rfl ?_
  intro p e s m args below meth c s₁ B hml hv
  obtain ⟨rfl, hsz, hP, hK, hD0, hN⟩ := hv
  have hx := B.exec
  have hb := B.bytes
  have hr := B.returns
  have hts := atoms_spec (ws := wsX12_burnsOf) B.pre
  have hown : s.vm.findClass RX12 = some m.cls := findClass_of_methodNamed B.named
  have hlocks := B.notSynchronized
  subst hsz
  have hD := hD0.self (sz := s.heap.size)
  generalize hAe : va_A [(m0, .inr (12, [m_0, m_1, m_2, .ref w0, m_4, m_5, m_6, m_7, m_8, m_9, m_10, m_11, m_12, m_13, m_14, m_15, m_16, m_17, m_18, m_19, .int 0, m_21, m_22, m_23, m_24, m_25, m_26, m_27, m_28, m_29, m_30, m_31, m_32, m_33, .int lw, .ref e0, m_36, .ref q0, .int bro, .long val, .long sm, m_41, m_42, m_43, m_44, m_45, m_46, m_47, m_48, m_49, m_50, m_51, m_52, m_53, m_54, m_55, m_56, m_57, m_58, m_59])), (w0, .inl (K 0, 5500, .inl fw)), (e0, .inl (K 2, 13, .inr (.inl fe))), (q0, .inl (K 2, 400, .inr (.inl frs)))] s.heap.size = A at hD ⊢
  have hA : ∀ q : Nat, s.heap.size ≤ q → A q := fun q h => by rw [← hAe]; exact Or.inr h
  have hS : va_S A s.heap s.heap [] := va_S.rf
  have hP : va_P D vwCl [(m0, .inr (12, [m_0, m_1, m_2, .ref w0, m_4, m_5, m_6, m_7, m_8, m_9, m_10, m_11, m_12, m_13, m_14, m_15, m_16, m_17, m_18, m_19, .int 0, m_21, m_22, m_23, m_24, m_25, m_26, m_27, m_28, m_29, m_30, m_31, m_32, m_33, .int lw, .ref e0, m_36, .ref q0, .int bro, .long val, .long sm, m_41, m_42, m_43, m_44, m_45, m_46, m_47, m_48, m_49, m_50, m_51, m_52, m_53, m_54, m_55, m_56, m_57, m_58, m_59])), (w0, .inl (K 0, 5500, .inl fw)), (e0, .inl (K 2, 13, .inr (.inl fe))), (q0, .inl (K 2, 400, .inr (.inl frs)))] s.heap := hP
  have hl := lv_entry [.ref m0, .int x, .int y] (n := 3) (Nat.le_of_ble_eq_true rfl)
  rw [lg_entry_eq]
  generalize (lg_sl [.ref m0, .int x, .int y] ++ List.replicate (3 - (lg_sl [.ref m0, .int x, .int y]).length) Slot.unset).toArray = ls at hl ⊢
  have hl : lv_has ls 3 [(0, .ref m0), (1, .int x), (2, .int y)] := hl
  have hw12 : ∀ w ∈ wsX120, w ∈ wsX12_burnsOf := fun w h => (List.mem_cons_of_mem _ (List.mem_append_right _ h))
  generalize hQ : MQ below _ _ s _ _ _ = Q
  refine lv_aload_n hx hb dX12_burnsOf_0 rfl (lv_at hl 0 rfl) ?_
  refine lv_iload_n hx hb dX12_burnsOf_1 rfl (lv_at hl 1 rfl) ?_
  refine lv_iconst (v := 0) hx hb dX12_burnsOf_2 (by decide) ?_
  refine lv_iload_n hx hb dX12_burnsOf_3 rfl (lv_at hl 2 rfl) ?_
  refine lv_iconst (v := (-1)) hx hb dX12_burnsOf_4 (by decide) ?_
  refine lv_lconst (v := 1) hx hb dX12_burnsOf_5 (by decide) ?_
  refine kcl (S := Su) (wr := []) (va_runV (As := [.int x, .int 0, .int y, .int (-1), .long 1]) (rest := []) ⟨hx, hb, hml, hown, hts⟩ (v_tells l D K m0 x 0 y (-1) 1 m_0 m_1 m_2 w0 m_4 m_5 m_6 m_7 m_8 m_9 m_10 m_11 m_12 m_13 m_14 m_15 m_16 m_17 m_18 m_19 m_21 m_22 m_23 m_24 m_25 m_26 m_27 m_28 m_29 m_30 m_31 m_32 m_33 lw e0 m_36 q0 bro val sm m_41 m_42 m_43 m_44 m_45 m_46 m_47 m_48 m_49 m_50 m_51 m_52 m_53 m_54 m_55 m_56 m_57 m_58 m_59 fw fe frs s.heap.size (by first | omega | decide) (by first | omega | decide) (by first | omega | decide) zfw) (cwV 5 hts gX12_burnsOf_X12_tells rfl rfl rfl (by decide +kernel) ⟨Nat.le_of_ble_eq_true rfl, Nat.le_of_ble_eq_true rfl⟩) (mkV hK hN (hP.sub [0, 1, 2, 3] rfl) (hD.sub [0, 1, 2, 3] (by decide) rfl) (ci := 12) (q0 := 0) rfl rfl) rfl rfl hl.1 rfl (lv_room (Nat.le_of_ble_eq_true rfl)) dX12_burnsOf_6 ⟨Nat.le_of_ble_eq_true rfl, Nat.le_of_ble_eq_true rfl⟩) hP hD hS hA [0, 1, 2, 3] [] rfl rfl (by decide) (by decide) (fun r_71 u_72 H locs hw hP hD hS => ?_)
  have hP : va_P D vwCl [(m0, .inr (12, [m_0, m_1, m_2, .ref w0, m_4, m_5, m_6, m_7, m_8, m_9, m_10, m_11, m_12, m_13, m_14, m_15, m_16, m_17, m_18, m_19, .int 0, m_21, m_22, m_23, m_24, m_25, m_26, m_27, m_28, m_29, m_30, m_31, m_32, m_33, .int (u_72.2.2.2.1 0), .ref e0, m_36, .ref q0, .int (u_72.2.2.2.1 1), .long (u_72.2.2.2.2.1 0), .long (u_72.2.2.2.2.1 1), m_41, m_42, m_43, m_44, m_45, m_46, m_47, m_48, m_49, m_50, m_51, m_52, m_53, m_54, m_55, m_56, m_57, m_58, m_59])), (w0, .inl (K 0, 5500, .inl fw)), (e0, .inl (K 2, 13, .inr (.inl (u_72.2.2.1 0)))), (q0, .inl (K 2, 400, .inr (.inl (u_72.2.2.1 1))))] H := hP
  have hD : va_D A [(m0, .inr (12, [m_0, m_1, m_2, .ref w0, m_4, m_5, m_6, m_7, m_8, m_9, m_10, m_11, m_12, m_13, m_14, m_15, m_16, m_17, m_18, m_19, .int 0, m_21, m_22, m_23, m_24, m_25, m_26, m_27, m_28, m_29, m_30, m_31, m_32, m_33, .int (u_72.2.2.2.1 0), .ref e0, m_36, .ref q0, .int (u_72.2.2.2.1 1), .long (u_72.2.2.2.2.1 0), .long (u_72.2.2.2.2.1 1), m_41, m_42, m_43, m_44, m_45, m_46, m_47, m_48, m_49, m_50, m_51, m_52, m_53, m_54, m_55, m_56, m_57, m_58, m_59])), (w0, .inl (K 0, 5500, .inl fw)), (e0, .inl (K 2, 13, .inr (.inl (u_72.2.2.1 0)))), (q0, .inl (K 2, 400, .inr (.inl (u_72.2.2.1 1))))] := hD
  obtain ⟨k_73, -⟩ := hw
  refine lv_iconst (v := 0) hx hb dX12_burnsOf_9 (by decide) ?_
  refine lv_bipush (v := 20) hx hb dX12_burnsOf_10 (by decide) ?_
  refine pci (va_runS (As := [.long r_71, .int 0, .int 20]) (rest := []) ⟨hx, hb, hml, hown, hts⟩ (v_within_20 l D K r_71 H.size) (va_cwS 3 hts gX12_burnsOf_X12_within rfl rfl rfl (by decide +kernel) ⟨Nat.le_of_ble_eq_true rfl, Nat.le_of_ble_eq_true rfl⟩) (mkS hK hN (va_P.nil) (va_D.nil (A := fun _ => True))) rfl rfl hl.1 rfl (lv_room (Nat.le_of_ble_eq_true rfl)) dX12_burnsOf_12 ⟨Nat.le_of_ble_eq_true rfl, Nat.le_of_ble_eq_true rfl⟩) (fun r_74 hw => ?_)
  obtain ⟨h_75, -⟩ := hw
  rw [← hQ]
  have hP9 := hP.sub (ws' := [(m0, .inr (12, [m_0, m_1, m_2, .ref w0, m_4, m_5, m_6, m_7, m_8, m_9, m_10, m_11, m_12, m_13, m_14, m_15, m_16, m_17, m_18, m_19, .int 0, m_21, m_22, m_23, m_24, m_25, m_26, m_27, m_28, m_29, m_30, m_31, m_32, m_33, .int (u_72.2.2.2.1 0), .ref e0, m_36, .ref q0, .int (u_72.2.2.2.1 1), .long (u_72.2.2.2.2.1 0), .long (u_72.2.2.2.2.1 1), m_41, m_42, m_43, m_44, m_45, m_46, m_47, m_48, m_49, m_50, m_51, m_52, m_53, m_54, m_55, m_56, m_57, m_58, m_59])), (w0, .inl (K 0, 5500, .inl fw)), (e0, .inl (K 2, 13, .inr (.inl (u_72.2.2.1 0)))), (q0, .inl (K 2, 400, .inr (.inl (u_72.2.2.1 1))))]) [0, 1, 2, 3] rfl
  have hD9 := hD.sub (ws' := [(m0, .inr (12, [m_0, m_1, m_2, .ref w0, m_4, m_5, m_6, m_7, m_8, m_9, m_10, m_11, m_12, m_13, m_14, m_15, m_16, m_17, m_18, m_19, .int 0, m_21, m_22, m_23, m_24, m_25, m_26, m_27, m_28, m_29, m_30, m_31, m_32, m_33, .int (u_72.2.2.2.1 0), .ref e0, m_36, .ref q0, .int (u_72.2.2.2.1 1), .long (u_72.2.2.2.2.1 0), .long (u_72.2.2.2.2.1 1), m_41, m_42, m_43, m_44, m_45, m_46, m_47, m_48, m_49, m_50, m_51, m_52, m_53, m_54, m_55, m_56, m_57, m_58, m_59])), (w0, .inl (K 0, 5500, .inl fw)), (e0, .inl (K 2, 13, .inr (.inl (u_72.2.2.1 0)))), (q0, .inl (K 2, 400, .inr (.inl (u_72.2.2.1 1))))]) [0, 1, 2, 3] (by decide) rfl
  exact W.iret (v := r_74) hx hb hr (fun t ht hW => ⟨⟨r_74, ((fun _ => 0, fun _ => fun _ => 0, fun i => match i with | 0 => (u_72.2.2.1 0) | _ => (u_72.2.2.1 1), fun i => match i with | 0 => (u_72.2.2.2.1 0) | _ => (u_72.2.2.2.1 1), fun i => match i with | 0 => (u_72.2.2.2.2.1 0) | _ => (u_72.2.2.2.2.1 1), fun _ => fun _ => none) : Su), rfl, ⟨(show 0 ≤ r_74.toInt ∧ r_74.toInt ≤ 20 by omega), (show 0 ≤ ((u_72.2.2.2.1 1) : Int32).toInt ∧ ((u_72.2.2.2.1 1) : Int32).toInt ≤ 1 by omega), trivial⟩, (⟨by rw [ht]; exact hP9, hD9⟩ : Wd D A _ t)⟩, hS.F ht⟩) hS.2.2 dX12_burnsOf_15
set_option maxHeartbeats 4000000 in
set_option maxRecDepth 100000 in
theorem v_flaresOf (l : Launch) (D : va_G) (K : Nat → ClassId) (m0 : Nat) (x : Int32) (y : Int32) (m_0 : Value) (m_1 : Value) (m_2 : Value) (w0 : Nat) (m_4 : Value) (m_5 : Value) (m_6 : Value) (m_7 : Value) (m_8 : Value) (m_9 : Value) (m_10 : Value) (m_11 : Value) (m_12 : Value) (m_13 : Value) (m_14 : Value) (m_15 : Value) (m_16 : Value) (m_17 : Value) (m_18 : Value) (m_19 : Value) (m_21 : Value) (m_22 : Value) (m_23 : Value) (m_24 : Value) (m_25 : Value) (m_26 : Value) (m_27 : Value) (m_28 : Value) (m_29 : Value) (m_30 : Value) (m_31 : Value) (m_32 : Value) (m_33 : Value) (lw : Int32) (e0 : Nat) (m_36 : Value) (q0 : Nat) (bro : Int32) (val : Int64) (sm : Int64) (m_41 : Value) (m_42 : Value) (m_43 : Value) (m_44 : Value) (m_45 : Value) (m_46 : Value) (m_47 : Value) (m_48 : Value) (m_49 : Value) (m_50 : Value) (m_51 : Value) (m_52 : Value) (m_53 : Value) (m_54 : Value) (m_55 : Value) (m_56 : Value) (m_57 : Value) (m_58 : Value) (m_59 : Value) (fw : Nat → Int32) (fe : Nat → Int64) (frs : Nat → Int64) (sz : Nat) (zbro : 0 ≤ bro.toInt ∧ bro.toInt ≤ 1) (zx : (-1) ≤ x.toInt ∧ x.toInt ≤ 5) (zy : 0 ≤ y.toInt ∧ y.toInt ≤ 7) (zfw : RwOK fw) : Met l yX12_flaresOf wsX12_flaresOf ({ frames := 4, cells := 0, slots := 0, locals := 102 }) (va_Pc [.ref m0, .int x, .int y] (Pre D K [(m0, .inr (12, [m_0, m_1, m_2, .ref w0, m_4, m_5, m_6, m_7, m_8, m_9, m_10, m_11, m_12, m_13, m_14, m_15, m_16, m_17, m_18, m_19, .int 0, m_21, m_22, m_23, m_24, m_25, m_26, m_27, m_28, m_29, m_30, m_31, m_32, m_33, .int lw, .ref e0, m_36, .ref q0, .int bro, .long val, .long sm, m_41, m_42, m_43, m_44, m_45, m_46, m_47, m_48, m_49, m_50, m_51, m_52, m_53, m_54, m_55, m_56, m_57, m_58, m_59])), (w0, .inl (K 0, 5500, .inl fw)), (e0, .inl (K 2, 13, .inr (.inl fe))), (q0, .inl (K 2, 400, .inr (.inl frs)))] sz)) (va_Qi (S := Su) (fun (r : Int32) (u : Su) => (0 ≤ r.toInt ∧ r.toInt ≤ 20) ∧ (0 ≤ (u.2.2.2.1 1).toInt ∧ (u.2.2.2.1 1).toInt ≤ 1) ∧ True) (fun u t => Wd D (va_A [(m0, .inr (12, [m_0, m_1, m_2, .ref w0, m_4, m_5, m_6, m_7, m_8, m_9, m_10, m_11, m_12, m_13, m_14, m_15, m_16, m_17, m_18, m_19, .int 0, m_21, m_22, m_23, m_24, m_25, m_26, m_27, m_28, m_29, m_30, m_31, m_32, m_33, .int lw, .ref e0, m_36, .ref q0, .int bro, .long val, .long sm, m_41, m_42, m_43, m_44, m_45, m_46, m_47, m_48, m_49, m_50, m_51, m_52, m_53, m_54, m_55, m_56, m_57, m_58, m_59])), (w0, .inl (K 0, 5500, .inl fw)), (e0, .inl (K 2, 13, .inr (.inl fe))), (q0, .inl (K 2, 400, .inr (.inl frs)))] sz) ((fun u => [(m0, .inr (12, [m_0, m_1, m_2, .ref w0, m_4, m_5, m_6, m_7, m_8, m_9, m_10, m_11, m_12, m_13, m_14, m_15, m_16, m_17, m_18, m_19, .int 0, m_21, m_22, m_23, m_24, m_25, m_26, m_27, m_28, m_29, m_30, m_31, m_32, m_33, .int (u.2.2.2.1 0), .ref e0, m_36, .ref q0, .int (u.2.2.2.1 1), .long (u.2.2.2.2.1 0), .long (u.2.2.2.2.1 1), m_41, m_42, m_43, m_44, m_45, m_46, m_47, m_48, m_49, m_50, m_51, m_52, m_53, m_54, m_55, m_56, m_57, m_58, m_59])), (w0, .inl (K 0, 5500, .inl fw)), (e0, .inl (K 2, 13, .inr (.inl (u.2.2.1 0)))), (q0, .inl (K 2, 400, .inr (.inl (u.2.2.1 1))))]) u) t) (va_A [(m0, .inr (12, [m_0, m_1, m_2, .ref w0, m_4, m_5, m_6, m_7, m_8, m_9, m_10, m_11, m_12, m_13, m_14, m_15, m_16, m_17, m_18, m_19, .int 0, m_21, m_22, m_23, m_24, m_25, m_26, m_27, m_28, m_29, m_30, m_31, m_32, m_33, .int lw, .ref e0, m_36, .ref q0, .int bro, .long val, .long sm, m_41, m_42, m_43, m_44, m_45, m_46, m_47, m_48, m_49, m_50, m_51, m_52, m_53, m_54, m_55, m_56, m_57, m_58, m_59])), (w0, .inl (K 0, 5500, .inl fw)), (e0, .inl (K 2, 13, .inr (.inl fe))), (q0, .inl (K 2, 400, .inr (.inl frs)))] sz)) 0 0 (va_A [(m0, .inr (12, [m_0, m_1, m_2, .ref w0, m_4, m_5, m_6, m_7, m_8, m_9, m_10, m_11, m_12, m_13, m_14, m_15, m_16, m_17, m_18, m_19, .int 0, m_21, m_22, m_23, m_24, m_25, m_26, m_27, m_28, m_29, m_30, m_31, m_32, m_33, .int lw, .ref e0, m_36, .ref q0, .int bro, .long val, .long sm, m_41, m_42, m_43, m_44, m_45, m_46, m_47, m_48, m_49, m_50, m_51, m_52, m_53, m_54, m_55, m_56, m_57, m_58, m_59])), (w0, .inl (K 0, 5500, .inl fw)), (e0, .inl (K 2, 13, .inr (.inl fe))), (q0, .inl (K 2, 400, .inr (.inl frs)))] sz) := by
  refine Met.ofW (cc := cX12_flaresOf) (maxL := 3) (ret := (some .int)) (by decide) rfl ?_
  intro p e s m args below meth c s₁ B hml hv
  obtain ⟨rfl, hsz, hP, hK, hD0, hN⟩ := hv
  have hx := B.exec
  have hb := B.bytes
  have hr := B.returns
  have hts := atoms_spec (ws := wsX12_flaresOf) B.pre
  have hown : s.vm.findClass RX12 = some m.cls := findClass_of_methodNamed B.named
  have hlocks := B.notSynchronized
  subst hsz
  have hD := hD0.self (sz := s.heap.size)
  generalize hAe : va_A [(m0, .inr (12, [m_0, m_1, m_2, .ref w0, m_4, m_5, m_6, m_7, m_8, m_9, m_10, m_11, m_12, m_13, m_14, m_15, m_16, m_17, m_18, m_19, .int 0, m_21, m_22, m_23, m_24, m_25, m_26, m_27, m_28, m_29, m_30, m_31, m_32, m_33, .int lw, .ref e0, m_36, .ref q0, .int bro, .long val, .long sm, m_41, m_42, m_43, m_44, m_45, m_46, m_47, m_48, m_49, m_50, m_51, m_52, m_53, m_54, m_55, m_56, m_57, m_58, m_59])), (w0, .inl (K 0, 5500, .inl fw)), (e0, .inl (K 2, 13, .inr (.inl fe))), (q0, .inl (K 2, 400, .inr (.inl frs)))] s.heap.size = A at hD ⊢
  have hA : ∀ q : Nat, s.heap.size ≤ q → A q := fun q h => by rw [← hAe]; exact Or.inr h
  have hS : va_S A s.heap s.heap [] := va_S.rf
  have hP : va_P D vwCl [(m0, .inr (12, [m_0, m_1, m_2, .ref w0, m_4, m_5, m_6, m_7, m_8, m_9, m_10, m_11, m_12, m_13, m_14, m_15, m_16, m_17, m_18, m_19, .int 0, m_21, m_22, m_23, m_24, m_25, m_26, m_27, m_28, m_29, m_30, m_31, m_32, m_33, .int lw, .ref e0, m_36, .ref q0, .int bro, .long val, .long sm, m_41, m_42, m_43, m_44, m_45, m_46, m_47, m_48, m_49, m_50, m_51, m_52, m_53, m_54, m_55, m_56, m_57, m_58, m_59])), (w0, .inl (K 0, 5500, .inl fw)), (e0, .inl (K 2, 13, .inr (.inl fe))), (q0, .inl (K 2, 400, .inr (.inl frs)))] s.heap := hP
  have hl := lv_entry [.ref m0, .int x, .int y] (n := 3) (Nat.le_of_ble_eq_true rfl)
  rw [lg_entry_eq]
  generalize (lg_sl [.ref m0, .int x, .int y] ++ List.replicate (3 - (lg_sl [.ref m0, .int x, .int y]).length) Slot.unset).toArray = ls at hl ⊢
  have hl : lv_has ls 3 [(0, .ref m0), (1, .int x), (2, .int y)] := hl
  have hw12 : ∀ w ∈ wsX120, w ∈ wsX12_flaresOf := fun w h => (List.mem_cons_of_mem _ (List.mem_append_right _ h))
  generalize hQ : MQ below _ _ s _ _ _ = Q
  refine lv_aload_n hx hb dX12_flaresOf_0 rfl (lv_at hl 0 rfl) ?_
  refine lv_iload_n hx hb dX12_flaresOf_1 rfl (lv_at hl 1 rfl) ?_
  refine lv_iconst (v := 1) hx hb dX12_flaresOf_2 (by decide) ?_
  refine lv_iload_n hx hb dX12_flaresOf_3 rfl (lv_at hl 2 rfl) ?_
  refine lv_iconst (v := (-1)) hx hb dX12_flaresOf_4 (by decide) ?_
  refine lv_ldc2 (v := 4) hx hb hown (hts (.constantLong RX12 423 (4)) (List.mem_cons_of_mem _ (List.mem_append_left _ (List.mem_append_left _ (List.mem_of_getElem? (i := 0) rfl))))) dX12_flaresOf_5 ?_
  refine kcl (S := Su) (wr := []) (va_runV (As := [.int x, .int 1, .int y, .int (-1), .long 4]) (rest := []) ⟨hx, hb, hml, hown, hts⟩ (v_tells l D K m0 x 1 y (-1) 4 m_0 m_1 m_2 w0 m_4 m_5 m_6 m_7 m_8 m_9 m_10 m_11 m_12 m_13 m_14 m_15 m_16 m_17 m_18 m_19 m_21 m_22 m_23 m_24 m_25 m_26 m_27 m_28 m_29 m_30 m_31 m_32 m_33 lw e0 m_36 q0 bro val sm m_41 m_42 m_43 m_44 m_45 m_46 m_47 m_48 m_49 m_50 m_51 m_52 m_53 m_54 m_55 m_56 m_57 m_58 m_59 fw fe frs s.heap.size (by first | omega | decide) (by first | omega | decide) (by first | omega | decide) zfw) (cwV 5 hts gX12_flaresOf_X12_tells rfl rfl rfl (by decide +kernel) ⟨Nat.le_of_ble_eq_true rfl, Nat.le_of_ble_eq_true rfl⟩) (mkV hK hN (hP.sub [0, 1, 2, 3] rfl) (hD.sub [0, 1, 2, 3] (by decide) rfl) (ci := 12) (q0 := 0) rfl rfl) rfl rfl hl.1 rfl (lv_room (Nat.le_of_ble_eq_true rfl)) dX12_flaresOf_8 ⟨Nat.le_of_ble_eq_true rfl, Nat.le_of_ble_eq_true rfl⟩) hP hD hS hA [0, 1, 2, 3] [] rfl rfl (by decide) (by decide) (fun r_71 u_72 H locs hw hP hD hS => ?_)
  have hP : va_P D vwCl [(m0, .inr (12, [m_0, m_1, m_2, .ref w0, m_4, m_5, m_6, m_7, m_8, m_9, m_10, m_11, m_12, m_13, m_14, m_15, m_16, m_17, m_18, m_19, .int 0, m_21, m_22, m_23, m_24, m_25, m_26, m_27, m_28, m_29, m_30, m_31, m_32, m_33, .int (u_72.2.2.2.1 0), .ref e0, m_36, .ref q0, .int (u_72.2.2.2.1 1), .long (u_72.2.2.2.2.1 0), .long (u_72.2.2.2.2.1 1), m_41, m_42, m_43, m_44, m_45, m_46, m_47, m_48, m_49, m_50, m_51, m_52, m_53, m_54, m_55, m_56, m_57, m_58, m_59])), (w0, .inl (K 0, 5500, .inl fw)), (e0, .inl (K 2, 13, .inr (.inl (u_72.2.2.1 0)))), (q0, .inl (K 2, 400, .inr (.inl (u_72.2.2.1 1))))] H := hP
  have hD : va_D A [(m0, .inr (12, [m_0, m_1, m_2, .ref w0, m_4, m_5, m_6, m_7, m_8, m_9, m_10, m_11, m_12, m_13, m_14, m_15, m_16, m_17, m_18, m_19, .int 0, m_21, m_22, m_23, m_24, m_25, m_26, m_27, m_28, m_29, m_30, m_31, m_32, m_33, .int (u_72.2.2.2.1 0), .ref e0, m_36, .ref q0, .int (u_72.2.2.2.1 1), .long (u_72.2.2.2.2.1 0), .long (u_72.2.2.2.2.1 1), m_41, m_42, m_43, m_44, m_45, m_46, m_47, m_48, m_49, m_50, m_51, m_52, m_53, m_54, m_55, m_56, m_57, m_58, m_59])), (w0, .inl (K 0, 5500, .inl fw)), (e0, .inl (K 2, 13, .inr (.inl (u_72.2.2.1 0)))), (q0, .inl (K 2, 400, .inr (.inl (u_72.2.2.1 1))))] := hD
  obtain ⟨k_73, -⟩ := hw
  refine lv_iconst (v := 0) hx hb dX12_flaresOf_11 (by decide) ?_
  refine lv_bipush (v := 20) hx hb dX12_flaresOf_12 (by decide) ?_
  refine pci (va_runS (As := [.long r_71, .int 0, .int 20]) (rest := []) ⟨hx, hb, hml, hown, hts⟩ (v_within_20 l D K r_71 H.size) (va_cwS 3 hts gX12_flaresOf_X12_within rfl rfl rfl (by decide +kernel) ⟨Nat.le_of_ble_eq_true rfl, Nat.le_of_ble_eq_true rfl⟩) (mkS hK hN (va_P.nil) (va_D.nil (A := fun _ => True))) rfl rfl hl.1 rfl (lv_room (Nat.le_of_ble_eq_true rfl)) dX12_flaresOf_14 ⟨Nat.le_of_ble_eq_true rfl, Nat.le_of_ble_eq_true rfl⟩) (fun r_74 hw => ?_)
  obtain ⟨h_75, -⟩ := hw
  rw [← hQ]
  have hP9 := hP.sub (ws' := [(m0, .inr (12, [m_0, m_1, m_2, .ref w0, m_4, m_5, m_6, m_7, m_8, m_9, m_10, m_11, m_12, m_13, m_14, m_15, m_16, m_17, m_18, m_19, .int 0, m_21, m_22, m_23, m_24, m_25, m_26, m_27, m_28, m_29, m_30, m_31, m_32, m_33, .int (u_72.2.2.2.1 0), .ref e0, m_36, .ref q0, .int (u_72.2.2.2.1 1), .long (u_72.2.2.2.2.1 0), .long (u_72.2.2.2.2.1 1), m_41, m_42, m_43, m_44, m_45, m_46, m_47, m_48, m_49, m_50, m_51, m_52, m_53, m_54, m_55, m_56, m_57, m_58, m_59])), (w0, .inl (K 0, 5500, .inl fw)), (e0, .inl (K 2, 13, .inr (.inl (u_72.2.2.1 0)))), (q0, .inl (K 2, 400, .inr (.inl (u_72.2.2.1 1))))]) [0, 1, 2, 3] rfl
  have hD9 := hD.sub (ws' := [(m0, .inr (12, [m_0, m_1, m_2, .ref w0, m_4, m_5, m_6, m_7, m_8, m_9, m_10, m_11, m_12, m_13, m_14, m_15, m_16, m_17, m_18, m_19, .int 0, m_21, m_22, m_23, m_24, m_25, m_26, m_27, m_28, m_29, m_30, m_31, m_32, m_33, .int (u_72.2.2.2.1 0), .ref e0, m_36, .ref q0, .int (u_72.2.2.2.1 1), .long (u_72.2.2.2.2.1 0), .long (u_72.2.2.2.2.1 1), m_41, m_42, m_43, m_44, m_45, m_46, m_47, m_48, m_49, m_50, m_51, m_52, m_53, m_54, m_55, m_56, m_57, m_58, m_59])), (w0, .inl (K 0, 5500, .inl fw)), (e0, .inl (K 2, 13, .inr (.inl (u_72.2.2.1 0)))), (q0, .inl (K 2, 400, .inr (.inl (u_72.2.2.1 1))))]) [0, 1, 2, 3] (by decide) rfl
  exact W.iret (v := r_74) hx hb hr (fun t ht hW => ⟨⟨r_74, ((fun _ => 0, fun _ => fun _ => 0, fun i => match i with | 0 => (u_72.2.2.1 0) | _ => (u_72.2.2.1 1), fun i => match i with | 0 => (u_72.2.2.2.1 0) | _ => (u_72.2.2.2.1 1), fun i => match i with | 0 => (u_72.2.2.2.2.1 0) | _ => (u_72.2.2.2.2.1 1), fun _ => fun _ => none) : Su), rfl, ⟨(show 0 ≤ r_74.toInt ∧ r_74.toInt ≤ 20 by omega), (show 0 ≤ ((u_72.2.2.2.1 1) : Int32).toInt ∧ ((u_72.2.2.2.1 1) : Int32).toInt ≤ 1 by omega), trivial⟩, (⟨by rw [ht]; exact hP9, hD9⟩ : Wd D A _ t)⟩, hS.F ht⟩) hS.2.2 dX12_flaresOf_17
set_option maxHeartbeats 4000000 in
set_option maxRecDepth 100000 in
theorem v_isBarred (l : Launch) (D : va_G) (K : Nat → ClassId) (m0 : Nat) (x : Int32) (m_0 : Value) (m_1 : Value) (m_2 : Value) (w0 : Nat) (m_4 : Value) (m_5 : Value) (m_6 : Value) (m_7 : Value) (m_8 : Value) (m_9 : Value) (m_10 : Value) (m_11 : Value) (m_12 : Value) (m_13 : Value) (m_14 : Value) (m_15 : Value) (m_16 : Value) (m_17 : Value) (m_18 : Value) (m_19 : Value) (m_21 : Value) (m_22 : Value) (m_23 : Value) (m_24 : Value) (m_25 : Value) (m_26 : Value) (m_27 : Value) (m_28 : Value) (m_29 : Value) (m_30 : Value) (m_31 : Value) (m_32 : Value) (m_33 : Value) (lw : Int32) (e0 : Nat) (m_36 : Value) (q0 : Nat) (bro : Int32) (val : Int64) (sm : Int64) (m_41 : Value) (m_42 : Value) (m_43 : Value) (m_44 : Value) (m_45 : Value) (m_46 : Value) (m_47 : Value) (m_48 : Value) (m_49 : Value) (m_50 : Value) (m_51 : Value) (m_52 : Value) (m_53 : Value) (m_54 : Value) (m_55 : Value) (m_56 : Value) (m_57 : Value) (m_58 : Value) (m_59 : Value) (fw : Nat → Int32) (fe : Nat → Int64) (frs : Nat → Int64) (sz : Nat) (zbro : 0 ≤ bro.toInt ∧ bro.toInt ≤ 1) (zx : 0 ≤ x.toInt ∧ x.toInt ≤ 7) (zfw : RwOK fw) : Met l yX12_isBarred wsX12_isBarred ({ frames := 4, cells := 0, slots := 0, locals := 102 }) (va_Pc [.ref m0, .int x] (Pre D K [(m0, .inr (12, [m_0, m_1, m_2, .ref w0, m_4, m_5, m_6, m_7, m_8, m_9, m_10, m_11, m_12, m_13, m_14, m_15, m_16, m_17, m_18, m_19, .int 0, m_21, m_22, m_23, m_24, m_25, m_26, m_27, m_28, m_29, m_30, m_31, m_32, m_33, .int lw, .ref e0, m_36, .ref q0, .int bro, .long val, .long sm, m_41, m_42, m_43, m_44, m_45, m_46, m_47, m_48, m_49, m_50, m_51, m_52, m_53, m_54, m_55, m_56, m_57, m_58, m_59])), (w0, .inl (K 0, 5500, .inl fw)), (e0, .inl (K 2, 13, .inr (.inl fe))), (q0, .inl (K 2, 400, .inr (.inl frs)))] sz)) (va_Qi (S := Su) (fun (r : Int32) (u : Su) => (0 ≤ r.toInt ∧ r.toInt ≤ 1) ∧ (0 ≤ (u.2.2.2.1 1).toInt ∧ (u.2.2.2.1 1).toInt ≤ 1) ∧ True) (fun u t => Wd D (va_A [(m0, .inr (12, [m_0, m_1, m_2, .ref w0, m_4, m_5, m_6, m_7, m_8, m_9, m_10, m_11, m_12, m_13, m_14, m_15, m_16, m_17, m_18, m_19, .int 0, m_21, m_22, m_23, m_24, m_25, m_26, m_27, m_28, m_29, m_30, m_31, m_32, m_33, .int lw, .ref e0, m_36, .ref q0, .int bro, .long val, .long sm, m_41, m_42, m_43, m_44, m_45, m_46, m_47, m_48, m_49, m_50, m_51, m_52, m_53, m_54, m_55, m_56, m_57, m_58, m_59])), (w0, .inl (K 0, 5500, .inl fw)), (e0, .inl (K 2, 13, .inr (.inl fe))), (q0, .inl (K 2, 400, .inr (.inl frs)))] sz) ((fun u => [(m0, .inr (12, [m_0, m_1, m_2, .ref w0, m_4, m_5, m_6, m_7, m_8, m_9, m_10, m_11, m_12, m_13, m_14, m_15, m_16, m_17, m_18, m_19, .int 0, m_21, m_22, m_23, m_24, m_25, m_26, m_27, m_28, m_29, m_30, m_31, m_32, m_33, .int (u.2.2.2.1 0), .ref e0, m_36, .ref q0, .int (u.2.2.2.1 1), .long (u.2.2.2.2.1 0), .long (u.2.2.2.2.1 1), m_41, m_42, m_43, m_44, m_45, m_46, m_47, m_48, m_49, m_50, m_51, m_52, m_53, m_54, m_55, m_56, m_57, m_58, m_59])), (w0, .inl (K 0, 5500, .inl fw)), (e0, .inl (K 2, 13, .inr (.inl (u.2.2.1 0)))), (q0, .inl (K 2, 400, .inr (.inl (u.2.2.1 1))))]) u) t) (va_A [(m0, .inr (12, [m_0, m_1, m_2, .ref w0, m_4, m_5, m_6, m_7, m_8, m_9, m_10, m_11, m_12, m_13, m_14, m_15, m_16, m_17, m_18, m_19, .int 0, m_21, m_22, m_23, m_24, m_25, m_26, m_27, m_28, m_29, m_30, m_31, m_32, m_33, .int lw, .ref e0, m_36, .ref q0, .int bro, .long val, .long sm, m_41, m_42, m_43, m_44, m_45, m_46, m_47, m_48, m_49, m_50, m_51, m_52, m_53, m_54, m_55, m_56, m_57, m_58, m_59])), (w0, .inl (K 0, 5500, .inl fw)), (e0, .inl (K 2, 13, .inr (.inl fe))), (q0, .inl (K 2, 400, .inr (.inl frs)))] sz)) 0 0 (va_A [(m0, .inr (12, [m_0, m_1, m_2, .ref w0, m_4, m_5, m_6, m_7, m_8, m_9, m_10, m_11, m_12, m_13, m_14, m_15, m_16, m_17, m_18, m_19, .int 0, m_21, m_22, m_23, m_24, m_25, m_26, m_27, m_28, m_29, m_30, m_31, m_32, m_33, .int lw, .ref e0, m_36, .ref q0, .int bro, .long val, .long sm, m_41, m_42, m_43, m_44, m_45, m_46, m_47, m_48, m_49, m_50, m_51, m_52, m_53, m_54, m_55, m_56, m_57, m_58, m_59])), (w0, .inl (K 0, 5500, .inl fw)), (e0, .inl (K 2, 13, .inr (.inl fe))), (q0, .inl (K 2, 400, .inr (.inl frs)))] sz) := by
  refine Met.ofW (cc := cX12_isBarred) (maxL := 2) (ret := (some .boolean)) (by decide) rfl ?_
  intro p e s m args below meth c s₁ B hml hv
  obtain ⟨rfl, hsz, hP, hK, hD0, hN⟩ := hv
  have hx := B.exec
  have hb := B.bytes
  have hr := B.returns
  have hts := atoms_spec (ws := wsX12_isBarred) B.pre
  have hown : s.vm.findClass RX12 = some m.cls := findClass_of_methodNamed B.named
  have hlocks := B.notSynchronized
  subst hsz
  have hD := hD0.self (sz := s.heap.size)
  generalize hAe : va_A [(m0, .inr (12, [m_0, m_1, m_2, .ref w0, m_4, m_5, m_6, m_7, m_8, m_9, m_10, m_11, m_12, m_13, m_14, m_15, m_16, m_17, m_18, m_19, .int 0, m_21, m_22, m_23, m_24, m_25, m_26, m_27, m_28, m_29, m_30, m_31, m_32, m_33, .int lw, .ref e0, m_36, .ref q0, .int bro, .long val, .long sm, m_41, m_42, m_43, m_44, m_45, m_46, m_47, m_48, m_49, m_50, m_51, m_52, m_53, m_54, m_55, m_56, m_57, m_58, m_59])), (w0, .inl (K 0, 5500, .inl fw)), (e0, .inl (K 2, 13, .inr (.inl fe))), (q0, .inl (K 2, 400, .inr (.inl frs)))] s.heap.size = A at hD ⊢
  have hA : ∀ q : Nat, s.heap.size ≤ q → A q := fun q h => by rw [← hAe]; exact Or.inr h
  have hS : va_S A s.heap s.heap [] := va_S.rf
  have hP : va_P D vwCl [(m0, .inr (12, [m_0, m_1, m_2, .ref w0, m_4, m_5, m_6, m_7, m_8, m_9, m_10, m_11, m_12, m_13, m_14, m_15, m_16, m_17, m_18, m_19, .int 0, m_21, m_22, m_23, m_24, m_25, m_26, m_27, m_28, m_29, m_30, m_31, m_32, m_33, .int lw, .ref e0, m_36, .ref q0, .int bro, .long val, .long sm, m_41, m_42, m_43, m_44, m_45, m_46, m_47, m_48, m_49, m_50, m_51, m_52, m_53, m_54, m_55, m_56, m_57, m_58, m_59])), (w0, .inl (K 0, 5500, .inl fw)), (e0, .inl (K 2, 13, .inr (.inl fe))), (q0, .inl (K 2, 400, .inr (.inl frs)))] s.heap := hP
  have hl := lv_entry [.ref m0, .int x] (n := 2) (Nat.le_of_ble_eq_true rfl)
  rw [lg_entry_eq]
  generalize (lg_sl [.ref m0, .int x] ++ List.replicate (2 - (lg_sl [.ref m0, .int x]).length) Slot.unset).toArray = ls at hl ⊢
  have hl : lv_has ls 2 [(0, .ref m0), (1, .int x)] := hl
  have hw12 : ∀ w ∈ wsX120, w ∈ wsX12_isBarred := fun w h => (List.mem_cons_of_mem _ (List.mem_append_right _ h))
  generalize hQ : MQ below _ _ s _ _ _ = Q
  refine lv_aload_n hx hb dX12_isBarred_0 rfl (lv_at hl 0 rfl) ?_
  refine lv_aload_n hx hb dX12_isBarred_1 rfl (lv_at hl 0 rfl) ?_
  refine va_get (ci := 12) (v := .ref w0) (C := RX12) (T := TX12) (N := 60) hx hb hts hw12 hown hK hP 0 rfl rfl 3 (by decide) (hts (.fieldLink RX12 13 "SmokeTuneModel" "row" "[I") (List.mem_cons_of_mem _ (List.mem_append_left _ (List.mem_append_left _ (List.mem_of_getElem? (i := 0) rfl))))) (fun _ h9 => h9) rfl dX12_isBarred_2 ?_
  refine lv_iconst (v := 3) hx hb dX12_isBarred_5 (by decide) ?_
  refine va_iald hx hb hK hP 1 0 rfl rfl (i_in (x := 3) rfl (by omega)) dX12_isBarred_6 ?_
  refine lv_topi (fun x_71 ex_71 => ?_)
  have px_71 := RwOK.at zfw (show (3 : Int32).toInt = 3 from rfl) (show 0 ≤ 3 ∧ 3 < 100 by omega)
  rw [← ex_71] at px_71
  have hx_71 := PR.r_3 px_71 (by omega)
  refine lv_iconst (v := 3) hx hb dX12_isBarred_7 (by decide) ?_
  refine lv_iload_n hx hb dX12_isBarred_8 rfl (lv_at hl 1 rfl) ?_
  refine lv_iconst (v := (-1)) hx hb dX12_isBarred_9 (by decide) ?_
  refine lv_lconst (v := 0) hx hb dX12_isBarred_10 (by decide) ?_
  refine kcl (S := Su) (wr := []) (va_runV (As := [.int x_71, .int 3, .int x, .int (-1), .long 0]) (rest := []) ⟨hx, hb, hml, hown, hts⟩ (v_tells l D K m0 x_71 3 x (-1) 0 m_0 m_1 m_2 w0 m_4 m_5 m_6 m_7 m_8 m_9 m_10 m_11 m_12 m_13 m_14 m_15 m_16 m_17 m_18 m_19 m_21 m_22 m_23 m_24 m_25 m_26 m_27 m_28 m_29 m_30 m_31 m_32 m_33 lw e0 m_36 q0 bro val sm m_41 m_42 m_43 m_44 m_45 m_46 m_47 m_48 m_49 m_50 m_51 m_52 m_53 m_54 m_55 m_56 m_57 m_58 m_59 fw fe frs s.heap.size (by first | omega | decide) (by first | omega | decide) (by first | omega | decide) zfw) (cwV 5 hts gX12_isBarred_X12_tells rfl rfl rfl (by decide +kernel) ⟨Nat.le_of_ble_eq_true rfl, Nat.le_of_ble_eq_true rfl⟩) (mkV hK hN (hP.sub [0, 1, 2, 3] rfl) (hD.sub [0, 1, 2, 3] (by decide) rfl) (ci := 12) (q0 := 0) rfl rfl) rfl rfl hl.1 rfl (lv_room (Nat.le_of_ble_eq_true rfl)) dX12_isBarred_11 ⟨Nat.le_of_ble_eq_true rfl, Nat.le_of_ble_eq_true rfl⟩) hP hD hS hA [0, 1, 2, 3] [] rfl rfl (by decide) (by decide) (fun r_72 u_73 H locs hw hP hD hS => ?_)
  have hP : va_P D vwCl [(m0, .inr (12, [m_0, m_1, m_2, .ref w0, m_4, m_5, m_6, m_7, m_8, m_9, m_10, m_11, m_12, m_13, m_14, m_15, m_16, m_17, m_18, m_19, .int 0, m_21, m_22, m_23, m_24, m_25, m_26, m_27, m_28, m_29, m_30, m_31, m_32, m_33, .int (u_73.2.2.2.1 0), .ref e0, m_36, .ref q0, .int (u_73.2.2.2.1 1), .long (u_73.2.2.2.2.1 0), .long (u_73.2.2.2.2.1 1), m_41, m_42, m_43, m_44, m_45, m_46, m_47, m_48, m_49, m_50, m_51, m_52, m_53, m_54, m_55, m_56, m_57, m_58, m_59])), (w0, .inl (K 0, 5500, .inl fw)), (e0, .inl (K 2, 13, .inr (.inl (u_73.2.2.1 0)))), (q0, .inl (K 2, 400, .inr (.inl (u_73.2.2.1 1))))] H := hP
  have hD : va_D A [(m0, .inr (12, [m_0, m_1, m_2, .ref w0, m_4, m_5, m_6, m_7, m_8, m_9, m_10, m_11, m_12, m_13, m_14, m_15, m_16, m_17, m_18, m_19, .int 0, m_21, m_22, m_23, m_24, m_25, m_26, m_27, m_28, m_29, m_30, m_31, m_32, m_33, .int (u_73.2.2.2.1 0), .ref e0, m_36, .ref q0, .int (u_73.2.2.2.1 1), .long (u_73.2.2.2.2.1 0), .long (u_73.2.2.2.2.1 1), m_41, m_42, m_43, m_44, m_45, m_46, m_47, m_48, m_49, m_50, m_51, m_52, m_53, m_54, m_55, m_56, m_57, m_58, m_59])), (w0, .inl (K 0, 5500, .inl fw)), (e0, .inl (K 2, 13, .inr (.inl (u_73.2.2.1 0)))), (q0, .inl (K 2, 400, .inr (.inl (u_73.2.2.1 1))))] := hD
  obtain ⟨k_74, -⟩ := hw
  refine lv_lconst (v := 1) hx hb dX12_isBarred_14 (by decide) ?_
  refine W.lcmp hx hb dX12_isBarred_15 ?_
  refine lv_if_ne (tgt := 23) hx hb dX12_isBarred_16 (by decide) (fun c_75 => ?_) (fun c_75 => ?_)
  · have c_75i := l_ne (x := r_72.toInt) (y := 1) rfl rfl (fun q => c_75 ((lg_cmp_eq r_72 1).mpr q))
    refine lv_iconst (v := 0) hx hb dX12_isBarred_23 (by decide) ?_
    rw [← hQ]
    have hP9 := hP.sub (ws' := [(m0, .inr (12, [m_0, m_1, m_2, .ref w0, m_4, m_5, m_6, m_7, m_8, m_9, m_10, m_11, m_12, m_13, m_14, m_15, m_16, m_17, m_18, m_19, .int 0, m_21, m_22, m_23, m_24, m_25, m_26, m_27, m_28, m_29, m_30, m_31, m_32, m_33, .int (u_73.2.2.2.1 0), .ref e0, m_36, .ref q0, .int (u_73.2.2.2.1 1), .long (u_73.2.2.2.2.1 0), .long (u_73.2.2.2.2.1 1), m_41, m_42, m_43, m_44, m_45, m_46, m_47, m_48, m_49, m_50, m_51, m_52, m_53, m_54, m_55, m_56, m_57, m_58, m_59])), (w0, .inl (K 0, 5500, .inl fw)), (e0, .inl (K 2, 13, .inr (.inl (u_73.2.2.1 0)))), (q0, .inl (K 2, 400, .inr (.inl (u_73.2.2.1 1))))]) [0, 1, 2, 3] rfl
    have hD9 := hD.sub (ws' := [(m0, .inr (12, [m_0, m_1, m_2, .ref w0, m_4, m_5, m_6, m_7, m_8, m_9, m_10, m_11, m_12, m_13, m_14, m_15, m_16, m_17, m_18, m_19, .int 0, m_21, m_22, m_23, m_24, m_25, m_26, m_27, m_28, m_29, m_30, m_31, m_32, m_33, .int (u_73.2.2.2.1 0), .ref e0, m_36, .ref q0, .int (u_73.2.2.2.1 1), .long (u_73.2.2.2.2.1 0), .long (u_73.2.2.2.2.1 1), m_41, m_42, m_43, m_44, m_45, m_46, m_47, m_48, m_49, m_50, m_51, m_52, m_53, m_54, m_55, m_56, m_57, m_58, m_59])), (w0, .inl (K 0, 5500, .inl fw)), (e0, .inl (K 2, 13, .inr (.inl (u_73.2.2.1 0)))), (q0, .inl (K 2, 400, .inr (.inl (u_73.2.2.1 1))))]) [0, 1, 2, 3] (by decide) rfl
    exact W.zret (v := 0) hx hb hr (by decide) (fun t ht hW => ⟨⟨0, ((fun _ => 0, fun _ => fun _ => 0, fun i => match i with | 0 => (u_73.2.2.1 0) | _ => (u_73.2.2.1 1), fun i => match i with | 0 => (u_73.2.2.2.1 0) | _ => (u_73.2.2.2.1 1), fun i => match i with | 0 => (u_73.2.2.2.2.1 0) | _ => (u_73.2.2.2.2.1 1), fun _ => fun _ => none) : Su), rfl, ⟨(show 0 ≤ (0 : Int32).toInt ∧ (0 : Int32).toInt ≤ 1 by decide), (show 0 ≤ ((u_73.2.2.2.1 1) : Int32).toInt ∧ ((u_73.2.2.2.1 1) : Int32).toInt ≤ 1 by omega), trivial⟩, (⟨by rw [ht]; exact hP9, hD9⟩ : Wd D A _ t)⟩, hS.F ht⟩) hS.2.2 dX12_isBarred_24
  · have c_75i := l_eq (x := r_72.toInt) (y := 1) rfl rfl ((lg_cmp_eq r_72 1).mp c_75)
    refine lv_iconst (v := 1) hx hb dX12_isBarred_19 (by decide) ?_
    refine lv_goto (tgt := 24) hx hb dX12_isBarred_20 (by decide) ?_
    rw [← hQ]
    have hP9 := hP.sub (ws' := [(m0, .inr (12, [m_0, m_1, m_2, .ref w0, m_4, m_5, m_6, m_7, m_8, m_9, m_10, m_11, m_12, m_13, m_14, m_15, m_16, m_17, m_18, m_19, .int 0, m_21, m_22, m_23, m_24, m_25, m_26, m_27, m_28, m_29, m_30, m_31, m_32, m_33, .int (u_73.2.2.2.1 0), .ref e0, m_36, .ref q0, .int (u_73.2.2.2.1 1), .long (u_73.2.2.2.2.1 0), .long (u_73.2.2.2.2.1 1), m_41, m_42, m_43, m_44, m_45, m_46, m_47, m_48, m_49, m_50, m_51, m_52, m_53, m_54, m_55, m_56, m_57, m_58, m_59])), (w0, .inl (K 0, 5500, .inl fw)), (e0, .inl (K 2, 13, .inr (.inl (u_73.2.2.1 0)))), (q0, .inl (K 2, 400, .inr (.inl (u_73.2.2.1 1))))]) [0, 1, 2, 3] rfl
    have hD9 := hD.sub (ws' := [(m0, .inr (12, [m_0, m_1, m_2, .ref w0, m_4, m_5, m_6, m_7, m_8, m_9, m_10, m_11, m_12, m_13, m_14, m_15, m_16, m_17, m_18, m_19, .int 0, m_21, m_22, m_23, m_24, m_25, m_26, m_27, m_28, m_29, m_30, m_31, m_32, m_33, .int (u_73.2.2.2.1 0), .ref e0, m_36, .ref q0, .int (u_73.2.2.2.1 1), .long (u_73.2.2.2.2.1 0), .long (u_73.2.2.2.2.1 1), m_41, m_42, m_43, m_44, m_45, m_46, m_47, m_48, m_49, m_50, m_51, m_52, m_53, m_54, m_55, m_56, m_57, m_58, m_59])), (w0, .inl (K 0, 5500, .inl fw)), (e0, .inl (K 2, 13, .inr (.inl (u_73.2.2.1 0)))), (q0, .inl (K 2, 400, .inr (.inl (u_73.2.2.1 1))))]) [0, 1, 2, 3] (by decide) rfl
    exact W.zret (v := 1) hx hb hr (by decide) (fun t ht hW => ⟨⟨1, ((fun _ => 0, fun _ => fun _ => 0, fun i => match i with | 0 => (u_73.2.2.1 0) | _ => (u_73.2.2.1 1), fun i => match i with | 0 => (u_73.2.2.2.1 0) | _ => (u_73.2.2.2.1 1), fun i => match i with | 0 => (u_73.2.2.2.2.1 0) | _ => (u_73.2.2.2.2.1 1), fun _ => fun _ => none) : Su), rfl, ⟨(show 0 ≤ (1 : Int32).toInt ∧ (1 : Int32).toInt ≤ 1 by decide), (show 0 ≤ ((u_73.2.2.2.1 1) : Int32).toInt ∧ ((u_73.2.2.2.1 1) : Int32).toInt ≤ 1 by omega), trivial⟩, (⟨by rw [ht]; exact hP9, hD9⟩ : Wd D A _ t)⟩, hS.F ht⟩) hS.2.2 dX12_isBarred_24
set_option maxHeartbeats 4000000 in
set_option maxRecDepth 100000 in
theorem v_of (l : Launch) (D : va_G) (K : Nat → ClassId) (m0 : Nat) (x : Int32) (y : Int32) (thr : Int32) (m_1 : Value) (m_2 : Value) (w0 : Nat) (m_4 : Value) (m_5 : Value) (m_6 : Value) (m_7 : Value) (m_8 : Value) (m_9 : Value) (m_10 : Value) (m_11 : Value) (m_12 : Value) (m_13 : Value) (m_14 : Value) (m_15 : Value) (m_16 : Value) (m_17 : Value) (m_18 : Value) (m_19 : Value) (m_21 : Value) (m_22 : Value) (m_23 : Value) (m_24 : Value) (m_25 : Value) (m_26 : Value) (m_27 : Value) (m_28 : Value) (m_29 : Value) (m_30 : Value) (m_31 : Value) (m_32 : Value) (m_33 : Value) (lw : Int32) (e0 : Nat) (m_36 : Value) (q0 : Nat) (bro : Int32) (val : Int64) (sm : Int64) (m_41 : Value) (m_42 : Value) (m_43 : Value) (m_44 : Value) (m_45 : Value) (m_46 : Value) (m_47 : Value) (m_48 : Value) (m_49 : Value) (m_50 : Value) (m_51 : Value) (m_52 : Value) (m_53 : Value) (m_54 : Value) (m_55 : Value) (m_56 : Value) (m_57 : Value) (m_58 : Value) (m_59 : Value) (fw : Nat → Int32) (fe : Nat → Int64) (frs : Nat → Int64) (sz : Nat) (zbro : 0 ≤ bro.toInt ∧ bro.toInt ≤ 1) (zfw : RwOK fw) : Met l yX12_of wsX12_of ({ frames := 5, cells := 0, slots := 0, locals := 124 }) (va_Pc [.ref m0, .int x, .int y] (Pre D K [(m0, .inr (12, [.int thr, m_1, m_2, .ref w0, m_4, m_5, m_6, m_7, m_8, m_9, m_10, m_11, m_12, m_13, m_14, m_15, m_16, m_17, m_18, m_19, .int 0, m_21, m_22, m_23, m_24, m_25, m_26, m_27, m_28, m_29, m_30, m_31, m_32, m_33, .int lw, .ref e0, m_36, .ref q0, .int bro, .long val, .long sm, m_41, m_42, m_43, m_44, m_45, m_46, m_47, m_48, m_49, m_50, m_51, m_52, m_53, m_54, m_55, m_56, m_57, m_58, m_59])), (w0, .inl (K 0, 5500, .inl fw)), (e0, .inl (K 2, 13, .inr (.inl fe))), (q0, .inl (K 2, 400, .inr (.inl frs)))] sz)) (va_Qi (S := Su) (fun (r : Int32) (u : Su) => (0 ≤ (u.2.2.2.1 1).toInt ∧ (u.2.2.2.1 1).toInt ≤ 1) ∧ True) (fun u t => Wd D (va_A [(m0, .inr (12, [.int thr, m_1, m_2, .ref w0, m_4, m_5, m_6, m_7, m_8, m_9, m_10, m_11, m_12, m_13, m_14, m_15, m_16, m_17, m_18, m_19, .int 0, m_21, m_22, m_23, m_24, m_25, m_26, m_27, m_28, m_29, m_30, m_31, m_32, m_33, .int lw, .ref e0, m_36, .ref q0, .int bro, .long val, .long sm, m_41, m_42, m_43, m_44, m_45, m_46, m_47, m_48, m_49, m_50, m_51, m_52, m_53, m_54, m_55, m_56, m_57, m_58, m_59])), (w0, .inl (K 0, 5500, .inl fw)), (e0, .inl (K 2, 13, .inr (.inl fe))), (q0, .inl (K 2, 400, .inr (.inl frs)))] sz) ((fun u => [(m0, .inr (12, [.int 0, m_1, m_2, .ref w0, m_4, m_5, m_6, m_7, m_8, m_9, m_10, m_11, m_12, m_13, m_14, m_15, m_16, m_17, m_18, m_19, .int 0, m_21, m_22, m_23, m_24, m_25, m_26, m_27, m_28, m_29, m_30, m_31, m_32, m_33, .int (u.2.2.2.1 0), .ref e0, m_36, .ref q0, .int (u.2.2.2.1 1), .long (u.2.2.2.2.1 0), .long (u.2.2.2.2.1 1), m_41, m_42, m_43, m_44, m_45, m_46, m_47, m_48, m_49, m_50, m_51, m_52, m_53, m_54, m_55, m_56, m_57, m_58, m_59])), (w0, .inl (K 0, 5500, .inl fw)), (e0, .inl (K 2, 13, .inr (.inl (u.2.2.1 0)))), (q0, .inl (K 2, 400, .inr (.inl (u.2.2.1 1))))]) u) t) (va_A [(m0, .inr (12, [.int thr, m_1, m_2, .ref w0, m_4, m_5, m_6, m_7, m_8, m_9, m_10, m_11, m_12, m_13, m_14, m_15, m_16, m_17, m_18, m_19, .int 0, m_21, m_22, m_23, m_24, m_25, m_26, m_27, m_28, m_29, m_30, m_31, m_32, m_33, .int lw, .ref e0, m_36, .ref q0, .int bro, .long val, .long sm, m_41, m_42, m_43, m_44, m_45, m_46, m_47, m_48, m_49, m_50, m_51, m_52, m_53, m_54, m_55, m_56, m_57, m_58, m_59])), (w0, .inl (K 0, 5500, .inl fw)), (e0, .inl (K 2, 13, .inr (.inl fe))), (q0, .inl (K 2, 400, .inr (.inl frs)))] sz)) 0 0 (va_A [(m0, .inr (12, [.int thr, m_1, m_2, .ref w0, m_4, m_5, m_6, m_7, m_8, m_9, m_10, m_11, m_12, m_13, m_14, m_15, m_16, m_17, m_18, m_19, .int 0, m_21, m_22, m_23, m_24, m_25, m_26, m_27, m_28, m_29, m_30, m_31, m_32, m_33, .int lw, .ref e0, m_36, .ref q0, .int bro, .long val, .long sm, m_41, m_42, m_43, m_44, m_45, m_46, m_47, m_48, m_49, m_50, m_51, m_52, m_53, m_54, m_55, m_56, m_57, m_58, m_59])), (w0, .inl (K 0, 5500, .inl fw)), (e0, .inl (K 2, 13, .inr (.inl fe))), (q0, .inl (K 2, 400, .inr (.inl frs)))] sz) := by
  refine Met.ofW (cc := cX12_of) (maxL := 3) (ret := (some .int)) (by decide) rfl ?_
  intro p e s m args below meth c s₁ B hml hv
  obtain ⟨rfl, hsz, hP, hK, hD0, hN⟩ := hv
  have hx := B.exec
  have hb := B.bytes
  have hr := B.returns
  have hts := atoms_spec (ws := wsX12_of) B.pre
  have hown : s.vm.findClass RX12 = some m.cls := findClass_of_methodNamed B.named
  have hlocks := B.notSynchronized
  subst hsz
  have hD := hD0.self (sz := s.heap.size)
  generalize hAe : va_A [(m0, .inr (12, [.int thr, m_1, m_2, .ref w0, m_4, m_5, m_6, m_7, m_8, m_9, m_10, m_11, m_12, m_13, m_14, m_15, m_16, m_17, m_18, m_19, .int 0, m_21, m_22, m_23, m_24, m_25, m_26, m_27, m_28, m_29, m_30, m_31, m_32, m_33, .int lw, .ref e0, m_36, .ref q0, .int bro, .long val, .long sm, m_41, m_42, m_43, m_44, m_45, m_46, m_47, m_48, m_49, m_50, m_51, m_52, m_53, m_54, m_55, m_56, m_57, m_58, m_59])), (w0, .inl (K 0, 5500, .inl fw)), (e0, .inl (K 2, 13, .inr (.inl fe))), (q0, .inl (K 2, 400, .inr (.inl frs)))] s.heap.size = A at hD ⊢
  have hA : ∀ q : Nat, s.heap.size ≤ q → A q := fun q h => by rw [← hAe]; exact Or.inr h
  have hS : va_S A s.heap s.heap [] := va_S.rf
  have hP : va_P D vwCl [(m0, .inr (12, [.int thr, m_1, m_2, .ref w0, m_4, m_5, m_6, m_7, m_8, m_9, m_10, m_11, m_12, m_13, m_14, m_15, m_16, m_17, m_18, m_19, .int 0, m_21, m_22, m_23, m_24, m_25, m_26, m_27, m_28, m_29, m_30, m_31, m_32, m_33, .int lw, .ref e0, m_36, .ref q0, .int bro, .long val, .long sm, m_41, m_42, m_43, m_44, m_45, m_46, m_47, m_48, m_49, m_50, m_51, m_52, m_53, m_54, m_55, m_56, m_57, m_58, m_59])), (w0, .inl (K 0, 5500, .inl fw)), (e0, .inl (K 2, 13, .inr (.inl fe))), (q0, .inl (K 2, 400, .inr (.inl frs)))] s.heap := hP
  have hl := lv_entry [.ref m0, .int x, .int y] (n := 3) (Nat.le_of_ble_eq_true rfl)
  rw [lg_entry_eq]
  generalize (lg_sl [.ref m0, .int x, .int y] ++ List.replicate (3 - (lg_sl [.ref m0, .int x, .int y]).length) Slot.unset).toArray = ls at hl ⊢
  have hl : lv_has ls 3 [(0, .ref m0), (1, .int x), (2, .int y)] := hl
  have hw12 : ∀ w ∈ wsX120, w ∈ wsX12_of := fun w h => (List.mem_cons_of_mem _ (List.mem_append_right _ h))
  generalize hQ : MQ below _ _ s _ _ _ = Q
  refine lv_aload_n hx hb dX12_of_0 rfl (lv_at hl 0 rfl) ?_
  refine lv_iconst (v := 0) hx hb dX12_of_1 (by decide) ?_
  refine va_put (ci := 12) (v := .int 0) (ty := .int) (C := RX12) (T := TX12) (N := 60) hx hb hts hw12 tyX12 tyX12_ok nmX12 hown hK hP hD hS 0 rfl rfl 0 (by decide) (hts (.fieldLink RX12 158 "SmokeTuneModel" "thrown" "I") (List.mem_cons_of_mem _ (List.mem_append_left _ (List.mem_append_left _ (List.mem_of_getElem? (i := 0) rfl))))) (fun _ h9 => h9) rfl (by decide +kernel) (by first | rfl | decide) (by first | rfl | decide) (Nat.le_of_ble_eq_true rfl) dX12_of_2 (fun H locs hP hD hS => ?_)
  have hP : va_P D vwCl [(m0, .inr (12, [.int 0, m_1, m_2, .ref w0, m_4, m_5, m_6, m_7, m_8, m_9, m_10, m_11, m_12, m_13, m_14, m_15, m_16, m_17, m_18, m_19, .int 0, m_21, m_22, m_23, m_24, m_25, m_26, m_27, m_28, m_29, m_30, m_31, m_32, m_33, .int lw, .ref e0, m_36, .ref q0, .int bro, .long val, .long sm, m_41, m_42, m_43, m_44, m_45, m_46, m_47, m_48, m_49, m_50, m_51, m_52, m_53, m_54, m_55, m_56, m_57, m_58, m_59])), (w0, .inl (K 0, 5500, .inl fw)), (e0, .inl (K 2, 13, .inr (.inl fe))), (q0, .inl (K 2, 400, .inr (.inl frs)))] H := hP
  have hD : va_D A [(m0, .inr (12, [.int 0, m_1, m_2, .ref w0, m_4, m_5, m_6, m_7, m_8, m_9, m_10, m_11, m_12, m_13, m_14, m_15, m_16, m_17, m_18, m_19, .int 0, m_21, m_22, m_23, m_24, m_25, m_26, m_27, m_28, m_29, m_30, m_31, m_32, m_33, .int lw, .ref e0, m_36, .ref q0, .int bro, .long val, .long sm, m_41, m_42, m_43, m_44, m_45, m_46, m_47, m_48, m_49, m_50, m_51, m_52, m_53, m_54, m_55, m_56, m_57, m_58, m_59])), (w0, .inl (K 0, 5500, .inl fw)), (e0, .inl (K 2, 13, .inr (.inl fe))), (q0, .inl (K 2, 400, .inr (.inl frs)))] := hD
  refine lv_aload_n hx hb dX12_of_5 rfl (lv_at hl 0 rfl) ?_
  refine lv_iload_n hx hb dX12_of_6 rfl (lv_at hl 1 rfl) ?_
  refine pci (va_runV (As := [.int x]) (rest := []) ⟨hx, hb, hml, hown, hts⟩ (v_isHouse l D K x.toInt m0 x (.int 0) m_1 m_2 w0 m_4 m_5 m_6 m_7 m_8 m_9 m_10 m_11 m_12 m_13 m_14 m_15 m_16 m_17 m_18 m_19 (.int 0) m_21 m_22 m_23 m_24 m_25 m_26 m_27 m_28 m_29 m_30 m_31 m_32 m_33 (.int lw) (.ref e0) m_36 (.ref q0) (.int bro) (.long val) (.long sm) m_41 m_42 m_43 m_44 m_45 m_46 m_47 m_48 m_49 m_50 m_51 m_52 m_53 m_54 m_55 m_56 m_57 m_58 m_59 fw H.size rfl zfw) (cwV 1 hts gX12_of_X12_isHouse rfl rfl rfl (by decide +kernel) ⟨Nat.le_of_ble_eq_true rfl, Nat.le_of_ble_eq_true rfl⟩) (mkV hK hN (hP.sub [0, 1] rfl) (hD.sub [0, 1] (by decide) rfl) (ci := 12) (q0 := 0) rfl rfl) rfl rfl hl.1 rfl (lv_room (Nat.le_of_ble_eq_true rfl)) dX12_of_7 ⟨Nat.le_of_ble_eq_true rfl, Nat.le_of_ble_eq_true rfl⟩) (fun r_137 hw => ?_)
  obtain ⟨hw, -⟩ := hw
  rcases hw with ⟨rfl, h_138, h_139⟩ | rfl
  · refine lv_if_ne (tgt := 15) hx hb dX12_of_10 (by decide) (fun c_140 => ?_) (fun c_140 => absurd c_140 (by decide))
    refine lv_iload_n hx hb dX12_of_15 rfl (lv_at hl 2 rfl) ?_
    have w_141 : y.toInt = 0 ∨ y.toInt = 1 ∨ y.toInt = 2 ∨ y.toInt = 3 ∨ y.toInt = 4 ∨ y.toInt = 5 ∨ y.toInt = 6 ∨ y.toInt = 7 ∨ y.toInt = 8 ∨ y.toInt = 9 ∨ y.toInt = 10 ∨ (y.toInt < 0 ∨ 10 < y.toInt) := by omega
    rcases w_141 with w_141 | w_141 | w_141 | w_141 | w_141 | w_141 | w_141 | w_141 | w_141 | w_141 | w_141 | w_141
    · refine lv_tableIn (tgt := 76) hx hb dX12_of_16 (by omega) (by omega) (by rw [w_141]; rfl) (by decide) ?_
      refine lv_aload_n hx hb dX12_of_76 rfl (lv_at hl 0 rfl) ?_
      refine va_get (ci := 12) (v := .ref w0) (C := RX12) (T := TX12) (N := 60) hx hb hts hw12 hown hK hP 0 rfl rfl 3 (by decide) (hts (.fieldLink RX12 13 "SmokeTuneModel" "row" "[I") (List.mem_cons_of_mem _ (List.mem_append_left _ (List.mem_append_left _ (List.mem_of_getElem? (i := 1) rfl))))) (fun _ h9 => h9) rfl dX12_of_77 ?_
      refine lv_bipush (v := 35) hx hb dX12_of_80 (by decide) ?_
      refine lv_iload_n hx hb dX12_of_82 rfl (lv_at hl 1 rfl) ?_
      refine lv_iadd hx hb dX12_of_83 ?_
      refine lv_topi (fun x_142 ex_142 => ?_)
      have hx_142 : x_142.toInt = (35 + x.toInt) := by rw [ex_142]; exact i_add (show (35 : Int32).toInt = 35 from rfl) rfl (by omega)
      refine va_iald hx hb hK hP 1 0 rfl rfl (i_in hx_142 (by omega)) dX12_of_84 ?_
      refine lv_topi (fun x_143 ex_143 => ?_)
      have px_143 := RwOK.at zfw hx_142 (show 0 ≤ (35 + x.toInt) ∧ (35 + x.toInt) < 100 by omega)
      rw [← ex_143] at px_143
      have hx_143 := PR.r_35 px_143 (by omega)
      rw [← hQ]
      have hP9 := hP.sub (ws' := [(m0, .inr (12, [.int 0, m_1, m_2, .ref w0, m_4, m_5, m_6, m_7, m_8, m_9, m_10, m_11, m_12, m_13, m_14, m_15, m_16, m_17, m_18, m_19, .int 0, m_21, m_22, m_23, m_24, m_25, m_26, m_27, m_28, m_29, m_30, m_31, m_32, m_33, .int lw, .ref e0, m_36, .ref q0, .int bro, .long val, .long sm, m_41, m_42, m_43, m_44, m_45, m_46, m_47, m_48, m_49, m_50, m_51, m_52, m_53, m_54, m_55, m_56, m_57, m_58, m_59])), (w0, .inl (K 0, 5500, .inl fw)), (e0, .inl (K 2, 13, .inr (.inl fe))), (q0, .inl (K 2, 400, .inr (.inl frs)))]) [0, 1, 2, 3] rfl
      have hD9 := hD.sub (ws' := [(m0, .inr (12, [.int 0, m_1, m_2, .ref w0, m_4, m_5, m_6, m_7, m_8, m_9, m_10, m_11, m_12, m_13, m_14, m_15, m_16, m_17, m_18, m_19, .int 0, m_21, m_22, m_23, m_24, m_25, m_26, m_27, m_28, m_29, m_30, m_31, m_32, m_33, .int lw, .ref e0, m_36, .ref q0, .int bro, .long val, .long sm, m_41, m_42, m_43, m_44, m_45, m_46, m_47, m_48, m_49, m_50, m_51, m_52, m_53, m_54, m_55, m_56, m_57, m_58, m_59])), (w0, .inl (K 0, 5500, .inl fw)), (e0, .inl (K 2, 13, .inr (.inl fe))), (q0, .inl (K 2, 400, .inr (.inl frs)))]) [0, 1, 2, 3] (by decide) rfl
      exact W.iret (v := x_143) hx hb hr (fun t ht hW => ⟨⟨x_143, ((fun _ => 0, fun _ => fun _ => 0, fun i => match i with | 0 => fe | _ => frs, fun i => match i with | 0 => lw | _ => bro, fun i => match i with | 0 => val | _ => sm, fun _ => fun _ => none) : Su), rfl, ⟨(show 0 ≤ (bro : Int32).toInt ∧ (bro : Int32).toInt ≤ 1 by omega), trivial⟩, (⟨by rw [ht]; exact hP9, hD9⟩ : Wd D A _ t)⟩, hS.F ht⟩) hS.2.2 dX12_of_85
    · refine lv_tableIn (tgt := 86) hx hb dX12_of_16 (by omega) (by omega) (by rw [w_141]; rfl) (by decide) ?_
      refine lv_aload_n hx hb dX12_of_86 rfl (lv_at hl 0 rfl) ?_
      refine va_get (ci := 12) (v := .ref w0) (C := RX12) (T := TX12) (N := 60) hx hb hts hw12 hown hK hP 0 rfl rfl 3 (by decide) (hts (.fieldLink RX12 13 "SmokeTuneModel" "row" "[I") (List.mem_cons_of_mem _ (List.mem_append_left _ (List.mem_append_left _ (List.mem_of_getElem? (i := 1) rfl))))) (fun _ h9 => h9) rfl dX12_of_87 ?_
      refine lv_bipush (v := 43) hx hb dX12_of_90 (by decide) ?_
      refine lv_iload_n hx hb dX12_of_92 rfl (lv_at hl 1 rfl) ?_
      refine lv_iadd hx hb dX12_of_93 ?_
      refine lv_topi (fun x_144 ex_144 => ?_)
      have hx_144 : x_144.toInt = (43 + x.toInt) := by rw [ex_144]; exact i_add (show (43 : Int32).toInt = 43 from rfl) rfl (by omega)
      refine va_iald hx hb hK hP 1 0 rfl rfl (i_in hx_144 (by omega)) dX12_of_94 ?_
      refine lv_topi (fun x_145 ex_145 => ?_)
      have px_145 := RwOK.at zfw hx_144 (show 0 ≤ (43 + x.toInt) ∧ (43 + x.toInt) < 100 by omega)
      rw [← ex_145] at px_145
      rw [← hQ]
      have hP9 := hP.sub (ws' := [(m0, .inr (12, [.int 0, m_1, m_2, .ref w0, m_4, m_5, m_6, m_7, m_8, m_9, m_10, m_11, m_12, m_13, m_14, m_15, m_16, m_17, m_18, m_19, .int 0, m_21, m_22, m_23, m_24, m_25, m_26, m_27, m_28, m_29, m_30, m_31, m_32, m_33, .int lw, .ref e0, m_36, .ref q0, .int bro, .long val, .long sm, m_41, m_42, m_43, m_44, m_45, m_46, m_47, m_48, m_49, m_50, m_51, m_52, m_53, m_54, m_55, m_56, m_57, m_58, m_59])), (w0, .inl (K 0, 5500, .inl fw)), (e0, .inl (K 2, 13, .inr (.inl fe))), (q0, .inl (K 2, 400, .inr (.inl frs)))]) [0, 1, 2, 3] rfl
      have hD9 := hD.sub (ws' := [(m0, .inr (12, [.int 0, m_1, m_2, .ref w0, m_4, m_5, m_6, m_7, m_8, m_9, m_10, m_11, m_12, m_13, m_14, m_15, m_16, m_17, m_18, m_19, .int 0, m_21, m_22, m_23, m_24, m_25, m_26, m_27, m_28, m_29, m_30, m_31, m_32, m_33, .int lw, .ref e0, m_36, .ref q0, .int bro, .long val, .long sm, m_41, m_42, m_43, m_44, m_45, m_46, m_47, m_48, m_49, m_50, m_51, m_52, m_53, m_54, m_55, m_56, m_57, m_58, m_59])), (w0, .inl (K 0, 5500, .inl fw)), (e0, .inl (K 2, 13, .inr (.inl fe))), (q0, .inl (K 2, 400, .inr (.inl frs)))]) [0, 1, 2, 3] (by decide) rfl
      exact W.iret (v := x_145) hx hb hr (fun t ht hW => ⟨⟨x_145, ((fun _ => 0, fun _ => fun _ => 0, fun i => match i with | 0 => fe | _ => frs, fun i => match i with | 0 => lw | _ => bro, fun i => match i with | 0 => val | _ => sm, fun _ => fun _ => none) : Su), rfl, ⟨(show 0 ≤ (bro : Int32).toInt ∧ (bro : Int32).toInt ≤ 1 by omega), trivial⟩, (⟨by rw [ht]; exact hP9, hD9⟩ : Wd D A _ t)⟩, hS.F ht⟩) hS.2.2 dX12_of_95
    · refine lv_tableIn (tgt := 96) hx hb dX12_of_16 (by omega) (by omega) (by rw [w_141]; rfl) (by decide) ?_
      refine lv_aload_n hx hb dX12_of_96 rfl (lv_at hl 0 rfl) ?_
      refine va_get (ci := 12) (v := .ref w0) (C := RX12) (T := TX12) (N := 60) hx hb hts hw12 hown hK hP 0 rfl rfl 3 (by decide) (hts (.fieldLink RX12 13 "SmokeTuneModel" "row" "[I") (List.mem_cons_of_mem _ (List.mem_append_left _ (List.mem_append_left _ (List.mem_of_getElem? (i := 1) rfl))))) (fun _ h9 => h9) rfl dX12_of_97 ?_
      refine lv_bipush (v := 19) hx hb dX12_of_100 (by decide) ?_
      refine lv_iload_n hx hb dX12_of_102 rfl (lv_at hl 1 rfl) ?_
      refine lv_iadd hx hb dX12_of_103 ?_
      refine lv_topi (fun x_146 ex_146 => ?_)
      have hx_146 : x_146.toInt = (19 + x.toInt) := by rw [ex_146]; exact i_add (show (19 : Int32).toInt = 19 from rfl) rfl (by omega)
      refine va_iald hx hb hK hP 1 0 rfl rfl (i_in hx_146 (by omega)) dX12_of_104 ?_
      refine lv_topi (fun x_147 ex_147 => ?_)
      have px_147 := RwOK.at zfw hx_146 (show 0 ≤ (19 + x.toInt) ∧ (19 + x.toInt) < 100 by omega)
      rw [← ex_147] at px_147
      rw [← hQ]
      have hP9 := hP.sub (ws' := [(m0, .inr (12, [.int 0, m_1, m_2, .ref w0, m_4, m_5, m_6, m_7, m_8, m_9, m_10, m_11, m_12, m_13, m_14, m_15, m_16, m_17, m_18, m_19, .int 0, m_21, m_22, m_23, m_24, m_25, m_26, m_27, m_28, m_29, m_30, m_31, m_32, m_33, .int lw, .ref e0, m_36, .ref q0, .int bro, .long val, .long sm, m_41, m_42, m_43, m_44, m_45, m_46, m_47, m_48, m_49, m_50, m_51, m_52, m_53, m_54, m_55, m_56, m_57, m_58, m_59])), (w0, .inl (K 0, 5500, .inl fw)), (e0, .inl (K 2, 13, .inr (.inl fe))), (q0, .inl (K 2, 400, .inr (.inl frs)))]) [0, 1, 2, 3] rfl
      have hD9 := hD.sub (ws' := [(m0, .inr (12, [.int 0, m_1, m_2, .ref w0, m_4, m_5, m_6, m_7, m_8, m_9, m_10, m_11, m_12, m_13, m_14, m_15, m_16, m_17, m_18, m_19, .int 0, m_21, m_22, m_23, m_24, m_25, m_26, m_27, m_28, m_29, m_30, m_31, m_32, m_33, .int lw, .ref e0, m_36, .ref q0, .int bro, .long val, .long sm, m_41, m_42, m_43, m_44, m_45, m_46, m_47, m_48, m_49, m_50, m_51, m_52, m_53, m_54, m_55, m_56, m_57, m_58, m_59])), (w0, .inl (K 0, 5500, .inl fw)), (e0, .inl (K 2, 13, .inr (.inl fe))), (q0, .inl (K 2, 400, .inr (.inl frs)))]) [0, 1, 2, 3] (by decide) rfl
      exact W.iret (v := x_147) hx hb hr (fun t ht hW => ⟨⟨x_147, ((fun _ => 0, fun _ => fun _ => 0, fun i => match i with | 0 => fe | _ => frs, fun i => match i with | 0 => lw | _ => bro, fun i => match i with | 0 => val | _ => sm, fun _ => fun _ => none) : Su), rfl, ⟨(show 0 ≤ (bro : Int32).toInt ∧ (bro : Int32).toInt ≤ 1 by omega), trivial⟩, (⟨by rw [ht]; exact hP9, hD9⟩ : Wd D A _ t)⟩, hS.F ht⟩) hS.2.2 dX12_of_105
    · refine lv_tableIn (tgt := 106) hx hb dX12_of_16 (by omega) (by omega) (by rw [w_141]; rfl) (by decide) ?_
      refine lv_aload_n hx hb dX12_of_106 rfl (lv_at hl 0 rfl) ?_
      refine va_get (ci := 12) (v := .ref w0) (C := RX12) (T := TX12) (N := 60) hx hb hts hw12 hown hK hP 0 rfl rfl 3 (by decide) (hts (.fieldLink RX12 13 "SmokeTuneModel" "row" "[I") (List.mem_cons_of_mem _ (List.mem_append_left _ (List.mem_append_left _ (List.mem_of_getElem? (i := 1) rfl))))) (fun _ h9 => h9) rfl dX12_of_107 ?_
      refine lv_bipush (v := 51) hx hb dX12_of_110 (by decide) ?_
      refine lv_iload_n hx hb dX12_of_112 rfl (lv_at hl 1 rfl) ?_
      refine lv_iadd hx hb dX12_of_113 ?_
      refine lv_topi (fun x_148 ex_148 => ?_)
      have hx_148 : x_148.toInt = (51 + x.toInt) := by rw [ex_148]; exact i_add (show (51 : Int32).toInt = 51 from rfl) rfl (by omega)
      refine va_iald hx hb hK hP 1 0 rfl rfl (i_in hx_148 (by omega)) dX12_of_114 ?_
      refine lv_topi (fun x_149 ex_149 => ?_)
      have px_149 := RwOK.at zfw hx_148 (show 0 ≤ (51 + x.toInt) ∧ (51 + x.toInt) < 100 by omega)
      rw [← ex_149] at px_149
      rw [← hQ]
      have hP9 := hP.sub (ws' := [(m0, .inr (12, [.int 0, m_1, m_2, .ref w0, m_4, m_5, m_6, m_7, m_8, m_9, m_10, m_11, m_12, m_13, m_14, m_15, m_16, m_17, m_18, m_19, .int 0, m_21, m_22, m_23, m_24, m_25, m_26, m_27, m_28, m_29, m_30, m_31, m_32, m_33, .int lw, .ref e0, m_36, .ref q0, .int bro, .long val, .long sm, m_41, m_42, m_43, m_44, m_45, m_46, m_47, m_48, m_49, m_50, m_51, m_52, m_53, m_54, m_55, m_56, m_57, m_58, m_59])), (w0, .inl (K 0, 5500, .inl fw)), (e0, .inl (K 2, 13, .inr (.inl fe))), (q0, .inl (K 2, 400, .inr (.inl frs)))]) [0, 1, 2, 3] rfl
      have hD9 := hD.sub (ws' := [(m0, .inr (12, [.int 0, m_1, m_2, .ref w0, m_4, m_5, m_6, m_7, m_8, m_9, m_10, m_11, m_12, m_13, m_14, m_15, m_16, m_17, m_18, m_19, .int 0, m_21, m_22, m_23, m_24, m_25, m_26, m_27, m_28, m_29, m_30, m_31, m_32, m_33, .int lw, .ref e0, m_36, .ref q0, .int bro, .long val, .long sm, m_41, m_42, m_43, m_44, m_45, m_46, m_47, m_48, m_49, m_50, m_51, m_52, m_53, m_54, m_55, m_56, m_57, m_58, m_59])), (w0, .inl (K 0, 5500, .inl fw)), (e0, .inl (K 2, 13, .inr (.inl fe))), (q0, .inl (K 2, 400, .inr (.inl frs)))]) [0, 1, 2, 3] (by decide) rfl
      exact W.iret (v := x_149) hx hb hr (fun t ht hW => ⟨⟨x_149, ((fun _ => 0, fun _ => fun _ => 0, fun i => match i with | 0 => fe | _ => frs, fun i => match i with | 0 => lw | _ => bro, fun i => match i with | 0 => val | _ => sm, fun _ => fun _ => none) : Su), rfl, ⟨(show 0 ≤ (bro : Int32).toInt ∧ (bro : Int32).toInt ≤ 1 by omega), trivial⟩, (⟨by rw [ht]; exact hP9, hD9⟩ : Wd D A _ t)⟩, hS.F ht⟩) hS.2.2 dX12_of_115
    · refine lv_tableIn (tgt := 116) hx hb dX12_of_16 (by omega) (by omega) (by rw [w_141]; rfl) (by decide) ?_
      refine lv_aload_n hx hb dX12_of_116 rfl (lv_at hl 0 rfl) ?_
      refine va_get (ci := 12) (v := .ref w0) (C := RX12) (T := TX12) (N := 60) hx hb hts hw12 hown hK hP 0 rfl rfl 3 (by decide) (hts (.fieldLink RX12 13 "SmokeTuneModel" "row" "[I") (List.mem_cons_of_mem _ (List.mem_append_left _ (List.mem_append_left _ (List.mem_of_getElem? (i := 1) rfl))))) (fun _ h9 => h9) rfl dX12_of_117 ?_
      refine lv_bipush (v := 59) hx hb dX12_of_120 (by decide) ?_
      refine lv_iload_n hx hb dX12_of_122 rfl (lv_at hl 1 rfl) ?_
      refine lv_iadd hx hb dX12_of_123 ?_
      refine lv_topi (fun x_150 ex_150 => ?_)
      have hx_150 : x_150.toInt = (59 + x.toInt) := by rw [ex_150]; exact i_add (show (59 : Int32).toInt = 59 from rfl) rfl (by omega)
      refine va_iald hx hb hK hP 1 0 rfl rfl (i_in hx_150 (by omega)) dX12_of_124 ?_
      refine lv_topi (fun x_151 ex_151 => ?_)
      have px_151 := RwOK.at zfw hx_150 (show 0 ≤ (59 + x.toInt) ∧ (59 + x.toInt) < 100 by omega)
      rw [← ex_151] at px_151
      rw [← hQ]
      have hP9 := hP.sub (ws' := [(m0, .inr (12, [.int 0, m_1, m_2, .ref w0, m_4, m_5, m_6, m_7, m_8, m_9, m_10, m_11, m_12, m_13, m_14, m_15, m_16, m_17, m_18, m_19, .int 0, m_21, m_22, m_23, m_24, m_25, m_26, m_27, m_28, m_29, m_30, m_31, m_32, m_33, .int lw, .ref e0, m_36, .ref q0, .int bro, .long val, .long sm, m_41, m_42, m_43, m_44, m_45, m_46, m_47, m_48, m_49, m_50, m_51, m_52, m_53, m_54, m_55, m_56, m_57, m_58, m_59])), (w0, .inl (K 0, 5500, .inl fw)), (e0, .inl (K 2, 13, .inr (.inl fe))), (q0, .inl (K 2, 400, .inr (.inl frs)))]) [0, 1, 2, 3] rfl
      have hD9 := hD.sub (ws' := [(m0, .inr (12, [.int 0, m_1, m_2, .ref w0, m_4, m_5, m_6, m_7, m_8, m_9, m_10, m_11, m_12, m_13, m_14, m_15, m_16, m_17, m_18, m_19, .int 0, m_21, m_22, m_23, m_24, m_25, m_26, m_27, m_28, m_29, m_30, m_31, m_32, m_33, .int lw, .ref e0, m_36, .ref q0, .int bro, .long val, .long sm, m_41, m_42, m_43, m_44, m_45, m_46, m_47, m_48, m_49, m_50, m_51, m_52, m_53, m_54, m_55, m_56, m_57, m_58, m_59])), (w0, .inl (K 0, 5500, .inl fw)), (e0, .inl (K 2, 13, .inr (.inl fe))), (q0, .inl (K 2, 400, .inr (.inl frs)))]) [0, 1, 2, 3] (by decide) rfl
      exact W.iret (v := x_151) hx hb hr (fun t ht hW => ⟨⟨x_151, ((fun _ => 0, fun _ => fun _ => 0, fun i => match i with | 0 => fe | _ => frs, fun i => match i with | 0 => lw | _ => bro, fun i => match i with | 0 => val | _ => sm, fun _ => fun _ => none) : Su), rfl, ⟨(show 0 ≤ (bro : Int32).toInt ∧ (bro : Int32).toInt ≤ 1 by omega), trivial⟩, (⟨by rw [ht]; exact hP9, hD9⟩ : Wd D A _ t)⟩, hS.F ht⟩) hS.2.2 dX12_of_125
    · refine lv_tableIn (tgt := 126) hx hb dX12_of_16 (by omega) (by omega) (by rw [w_141]; rfl) (by decide) ?_
      refine lv_aload_n hx hb dX12_of_126 rfl (lv_at hl 0 rfl) ?_
      refine va_get (ci := 12) (v := .ref w0) (C := RX12) (T := TX12) (N := 60) hx hb hts hw12 hown hK hP 0 rfl rfl 3 (by decide) (hts (.fieldLink RX12 13 "SmokeTuneModel" "row" "[I") (List.mem_cons_of_mem _ (List.mem_append_left _ (List.mem_append_left _ (List.mem_of_getElem? (i := 1) rfl))))) (fun _ h9 => h9) rfl dX12_of_127 ?_
      refine lv_bipush (v := 11) hx hb dX12_of_130 (by decide) ?_
      refine lv_iload_n hx hb dX12_of_132 rfl (lv_at hl 1 rfl) ?_
      refine lv_iadd hx hb dX12_of_133 ?_
      refine lv_topi (fun x_152 ex_152 => ?_)
      have hx_152 : x_152.toInt = (11 + x.toInt) := by rw [ex_152]; exact i_add (show (11 : Int32).toInt = 11 from rfl) rfl (by omega)
      refine va_iald hx hb hK hP 1 0 rfl rfl (i_in hx_152 (by omega)) dX12_of_134 ?_
      refine lv_topi (fun x_153 ex_153 => ?_)
      have px_153 := RwOK.at zfw hx_152 (show 0 ≤ (11 + x.toInt) ∧ (11 + x.toInt) < 100 by omega)
      rw [← ex_153] at px_153
      have hx_153 := PR.r_11 px_153 (by omega)
      rw [← hQ]
      have hP9 := hP.sub (ws' := [(m0, .inr (12, [.int 0, m_1, m_2, .ref w0, m_4, m_5, m_6, m_7, m_8, m_9, m_10, m_11, m_12, m_13, m_14, m_15, m_16, m_17, m_18, m_19, .int 0, m_21, m_22, m_23, m_24, m_25, m_26, m_27, m_28, m_29, m_30, m_31, m_32, m_33, .int lw, .ref e0, m_36, .ref q0, .int bro, .long val, .long sm, m_41, m_42, m_43, m_44, m_45, m_46, m_47, m_48, m_49, m_50, m_51, m_52, m_53, m_54, m_55, m_56, m_57, m_58, m_59])), (w0, .inl (K 0, 5500, .inl fw)), (e0, .inl (K 2, 13, .inr (.inl fe))), (q0, .inl (K 2, 400, .inr (.inl frs)))]) [0, 1, 2, 3] rfl
      have hD9 := hD.sub (ws' := [(m0, .inr (12, [.int 0, m_1, m_2, .ref w0, m_4, m_5, m_6, m_7, m_8, m_9, m_10, m_11, m_12, m_13, m_14, m_15, m_16, m_17, m_18, m_19, .int 0, m_21, m_22, m_23, m_24, m_25, m_26, m_27, m_28, m_29, m_30, m_31, m_32, m_33, .int lw, .ref e0, m_36, .ref q0, .int bro, .long val, .long sm, m_41, m_42, m_43, m_44, m_45, m_46, m_47, m_48, m_49, m_50, m_51, m_52, m_53, m_54, m_55, m_56, m_57, m_58, m_59])), (w0, .inl (K 0, 5500, .inl fw)), (e0, .inl (K 2, 13, .inr (.inl fe))), (q0, .inl (K 2, 400, .inr (.inl frs)))]) [0, 1, 2, 3] (by decide) rfl
      exact W.iret (v := x_153) hx hb hr (fun t ht hW => ⟨⟨x_153, ((fun _ => 0, fun _ => fun _ => 0, fun i => match i with | 0 => fe | _ => frs, fun i => match i with | 0 => lw | _ => bro, fun i => match i with | 0 => val | _ => sm, fun _ => fun _ => none) : Su), rfl, ⟨(show 0 ≤ (bro : Int32).toInt ∧ (bro : Int32).toInt ≤ 1 by omega), trivial⟩, (⟨by rw [ht]; exact hP9, hD9⟩ : Wd D A _ t)⟩, hS.F ht⟩) hS.2.2 dX12_of_135
    · refine lv_tableIn (tgt := 136) hx hb dX12_of_16 (by omega) (by omega) (by rw [w_141]; rfl) (by decide) ?_
      refine lv_aload_n hx hb dX12_of_136 rfl (lv_at hl 0 rfl) ?_
      refine va_get (ci := 12) (v := .ref w0) (C := RX12) (T := TX12) (N := 60) hx hb hts hw12 hown hK hP 0 rfl rfl 3 (by decide) (hts (.fieldLink RX12 13 "SmokeTuneModel" "row" "[I") (List.mem_cons_of_mem _ (List.mem_append_left _ (List.mem_append_left _ (List.mem_of_getElem? (i := 1) rfl))))) (fun _ h9 => h9) rfl dX12_of_137 ?_
      refine lv_bipush (v := 27) hx hb dX12_of_140 (by decide) ?_
      refine lv_iload_n hx hb dX12_of_142 rfl (lv_at hl 1 rfl) ?_
      refine lv_iadd hx hb dX12_of_143 ?_
      refine lv_topi (fun x_154 ex_154 => ?_)
      have hx_154 : x_154.toInt = (27 + x.toInt) := by rw [ex_154]; exact i_add (show (27 : Int32).toInt = 27 from rfl) rfl (by omega)
      refine va_iald hx hb hK hP 1 0 rfl rfl (i_in hx_154 (by omega)) dX12_of_144 ?_
      refine lv_topi (fun x_155 ex_155 => ?_)
      have px_155 := RwOK.at zfw hx_154 (show 0 ≤ (27 + x.toInt) ∧ (27 + x.toInt) < 100 by omega)
      rw [← ex_155] at px_155
      rw [← hQ]
      have hP9 := hP.sub (ws' := [(m0, .inr (12, [.int 0, m_1, m_2, .ref w0, m_4, m_5, m_6, m_7, m_8, m_9, m_10, m_11, m_12, m_13, m_14, m_15, m_16, m_17, m_18, m_19, .int 0, m_21, m_22, m_23, m_24, m_25, m_26, m_27, m_28, m_29, m_30, m_31, m_32, m_33, .int lw, .ref e0, m_36, .ref q0, .int bro, .long val, .long sm, m_41, m_42, m_43, m_44, m_45, m_46, m_47, m_48, m_49, m_50, m_51, m_52, m_53, m_54, m_55, m_56, m_57, m_58, m_59])), (w0, .inl (K 0, 5500, .inl fw)), (e0, .inl (K 2, 13, .inr (.inl fe))), (q0, .inl (K 2, 400, .inr (.inl frs)))]) [0, 1, 2, 3] rfl
      have hD9 := hD.sub (ws' := [(m0, .inr (12, [.int 0, m_1, m_2, .ref w0, m_4, m_5, m_6, m_7, m_8, m_9, m_10, m_11, m_12, m_13, m_14, m_15, m_16, m_17, m_18, m_19, .int 0, m_21, m_22, m_23, m_24, m_25, m_26, m_27, m_28, m_29, m_30, m_31, m_32, m_33, .int lw, .ref e0, m_36, .ref q0, .int bro, .long val, .long sm, m_41, m_42, m_43, m_44, m_45, m_46, m_47, m_48, m_49, m_50, m_51, m_52, m_53, m_54, m_55, m_56, m_57, m_58, m_59])), (w0, .inl (K 0, 5500, .inl fw)), (e0, .inl (K 2, 13, .inr (.inl fe))), (q0, .inl (K 2, 400, .inr (.inl frs)))]) [0, 1, 2, 3] (by decide) rfl
      exact W.iret (v := x_155) hx hb hr (fun t ht hW => ⟨⟨x_155, ((fun _ => 0, fun _ => fun _ => 0, fun i => match i with | 0 => fe | _ => frs, fun i => match i with | 0 => lw | _ => bro, fun i => match i with | 0 => val | _ => sm, fun _ => fun _ => none) : Su), rfl, ⟨(show 0 ≤ (bro : Int32).toInt ∧ (bro : Int32).toInt ≤ 1 by omega), trivial⟩, (⟨by rw [ht]; exact hP9, hD9⟩ : Wd D A _ t)⟩, hS.F ht⟩) hS.2.2 dX12_of_145
    · refine lv_tableIn (tgt := 146) hx hb dX12_of_16 (by omega) (by omega) (by rw [w_141]; rfl) (by decide) ?_
      refine lv_aload_n hx hb dX12_of_146 rfl (lv_at hl 0 rfl) ?_
      refine lv_iload_n hx hb dX12_of_147 rfl (lv_at hl 1 rfl) ?_
      refine pci (va_runV (As := [.int x]) (rest := []) ⟨hx, hb, hml, hown, hts⟩ (v_isSounding l D K m0 x (.int 0) m_1 m_2 w0 m_4 m_5 m_6 m_7 m_8 m_9 m_10 m_11 m_12 m_13 m_14 m_15 m_16 m_17 m_18 m_19 (.int 0) m_21 m_22 m_23 m_24 m_25 m_26 m_27 m_28 m_29 m_30 m_31 m_32 m_33 (.int lw) (.ref e0) m_36 (.ref q0) (.int bro) (.long val) (.long sm) m_41 m_42 m_43 m_44 m_45 m_46 m_47 m_48 m_49 m_50 m_51 m_52 m_53 m_54 m_55 m_56 m_57 m_58 m_59 fw H.size (by first | omega | decide) zfw) (cwV 1 hts gX12_of_X12_isSounding rfl rfl rfl (by decide +kernel) ⟨Nat.le_of_ble_eq_true rfl, Nat.le_of_ble_eq_true rfl⟩) (mkV hK hN (hP.sub [0, 1] rfl) (hD.sub [0, 1] (by decide) rfl) (ci := 12) (q0 := 0) rfl rfl) rfl rfl hl.1 rfl (lv_room (Nat.le_of_ble_eq_true rfl)) dX12_of_148 ⟨Nat.le_of_ble_eq_true rfl, Nat.le_of_ble_eq_true rfl⟩) (fun r_156 hw => ?_)
      obtain ⟨h_157, -⟩ := hw
      refine lv_if_eq (tgt := 158) hx hb dX12_of_151 (by decide) (fun c_158 => ?_) (fun c_158 => ?_)
      · have c_158i := i_eq (x := r_156.toInt) (y := 0) rfl rfl c_158
        refine lv_iconst (v := 0) hx hb dX12_of_158 (by decide) ?_
        rw [← hQ]
        have hP9 := hP.sub (ws' := [(m0, .inr (12, [.int 0, m_1, m_2, .ref w0, m_4, m_5, m_6, m_7, m_8, m_9, m_10, m_11, m_12, m_13, m_14, m_15, m_16, m_17, m_18, m_19, .int 0, m_21, m_22, m_23, m_24, m_25, m_26, m_27, m_28, m_29, m_30, m_31, m_32, m_33, .int lw, .ref e0, m_36, .ref q0, .int bro, .long val, .long sm, m_41, m_42, m_43, m_44, m_45, m_46, m_47, m_48, m_49, m_50, m_51, m_52, m_53, m_54, m_55, m_56, m_57, m_58, m_59])), (w0, .inl (K 0, 5500, .inl fw)), (e0, .inl (K 2, 13, .inr (.inl fe))), (q0, .inl (K 2, 400, .inr (.inl frs)))]) [0, 1, 2, 3] rfl
        have hD9 := hD.sub (ws' := [(m0, .inr (12, [.int 0, m_1, m_2, .ref w0, m_4, m_5, m_6, m_7, m_8, m_9, m_10, m_11, m_12, m_13, m_14, m_15, m_16, m_17, m_18, m_19, .int 0, m_21, m_22, m_23, m_24, m_25, m_26, m_27, m_28, m_29, m_30, m_31, m_32, m_33, .int lw, .ref e0, m_36, .ref q0, .int bro, .long val, .long sm, m_41, m_42, m_43, m_44, m_45, m_46, m_47, m_48, m_49, m_50, m_51, m_52, m_53, m_54, m_55, m_56, m_57, m_58, m_59])), (w0, .inl (K 0, 5500, .inl fw)), (e0, .inl (K 2, 13, .inr (.inl fe))), (q0, .inl (K 2, 400, .inr (.inl frs)))]) [0, 1, 2, 3] (by decide) rfl
        exact W.iret (v := 0) hx hb hr (fun t ht hW => ⟨⟨0, ((fun _ => 0, fun _ => fun _ => 0, fun i => match i with | 0 => fe | _ => frs, fun i => match i with | 0 => lw | _ => bro, fun i => match i with | 0 => val | _ => sm, fun _ => fun _ => none) : Su), rfl, ⟨(show 0 ≤ (bro : Int32).toInt ∧ (bro : Int32).toInt ≤ 1 by omega), trivial⟩, (⟨by rw [ht]; exact hP9, hD9⟩ : Wd D A _ t)⟩, hS.F ht⟩) hS.2.2 dX12_of_159
      · have c_158i := i_ne (x := r_156.toInt) (y := 0) rfl rfl c_158
        refine lv_iconst (v := 1) hx hb dX12_of_154 (by decide) ?_
        refine lv_goto (tgt := 159) hx hb dX12_of_155 (by decide) ?_
        rw [← hQ]
        have hP9 := hP.sub (ws' := [(m0, .inr (12, [.int 0, m_1, m_2, .ref w0, m_4, m_5, m_6, m_7, m_8, m_9, m_10, m_11, m_12, m_13, m_14, m_15, m_16, m_17, m_18, m_19, .int 0, m_21, m_22, m_23, m_24, m_25, m_26, m_27, m_28, m_29, m_30, m_31, m_32, m_33, .int lw, .ref e0, m_36, .ref q0, .int bro, .long val, .long sm, m_41, m_42, m_43, m_44, m_45, m_46, m_47, m_48, m_49, m_50, m_51, m_52, m_53, m_54, m_55, m_56, m_57, m_58, m_59])), (w0, .inl (K 0, 5500, .inl fw)), (e0, .inl (K 2, 13, .inr (.inl fe))), (q0, .inl (K 2, 400, .inr (.inl frs)))]) [0, 1, 2, 3] rfl
        have hD9 := hD.sub (ws' := [(m0, .inr (12, [.int 0, m_1, m_2, .ref w0, m_4, m_5, m_6, m_7, m_8, m_9, m_10, m_11, m_12, m_13, m_14, m_15, m_16, m_17, m_18, m_19, .int 0, m_21, m_22, m_23, m_24, m_25, m_26, m_27, m_28, m_29, m_30, m_31, m_32, m_33, .int lw, .ref e0, m_36, .ref q0, .int bro, .long val, .long sm, m_41, m_42, m_43, m_44, m_45, m_46, m_47, m_48, m_49, m_50, m_51, m_52, m_53, m_54, m_55, m_56, m_57, m_58, m_59])), (w0, .inl (K 0, 5500, .inl fw)), (e0, .inl (K 2, 13, .inr (.inl fe))), (q0, .inl (K 2, 400, .inr (.inl frs)))]) [0, 1, 2, 3] (by decide) rfl
        exact W.iret (v := 1) hx hb hr (fun t ht hW => ⟨⟨1, ((fun _ => 0, fun _ => fun _ => 0, fun i => match i with | 0 => fe | _ => frs, fun i => match i with | 0 => lw | _ => bro, fun i => match i with | 0 => val | _ => sm, fun _ => fun _ => none) : Su), rfl, ⟨(show 0 ≤ (bro : Int32).toInt ∧ (bro : Int32).toInt ≤ 1 by omega), trivial⟩, (⟨by rw [ht]; exact hP9, hD9⟩ : Wd D A _ t)⟩, hS.F ht⟩) hS.2.2 dX12_of_159
    · refine lv_tableIn (tgt := 160) hx hb dX12_of_16 (by omega) (by omega) (by rw [w_141]; rfl) (by decide) ?_
      refine lv_aload_n hx hb dX12_of_160 rfl (lv_at hl 0 rfl) ?_
      refine lv_aload_n hx hb dX12_of_161 rfl (lv_at hl 0 rfl) ?_
      refine va_get (ci := 12) (v := .ref w0) (C := RX12) (T := TX12) (N := 60) hx hb hts hw12 hown hK hP 0 rfl rfl 3 (by decide) (hts (.fieldLink RX12 13 "SmokeTuneModel" "row" "[I") (List.mem_cons_of_mem _ (List.mem_append_left _ (List.mem_append_left _ (List.mem_of_getElem? (i := 1) rfl))))) (fun _ h9 => h9) rfl dX12_of_162 ?_
      refine lv_iconst (v := 3) hx hb dX12_of_165 (by decide) ?_
      refine va_iald hx hb hK hP 1 0 rfl rfl (i_in (x := 3) rfl (by omega)) dX12_of_166 ?_
      refine lv_topi (fun x_159 ex_159 => ?_)
      have px_159 := RwOK.at zfw (show (3 : Int32).toInt = 3 from rfl) (show 0 ≤ 3 ∧ 3 < 100 by omega)
      rw [← ex_159] at px_159
      have hx_159 := PR.r_3 px_159 (by omega)
      refine lv_iload_n hx hb dX12_of_167 rfl (lv_at hl 1 rfl) ?_
      refine kci (S := Su) (wr := []) (va_runV (As := [.int x_159, .int x]) (rest := []) ⟨hx, hb, hml, hown, hts⟩ (v_burnsOf l D K m0 x_159 x (.int 0) m_1 m_2 w0 m_4 m_5 m_6 m_7 m_8 m_9 m_10 m_11 m_12 m_13 m_14 m_15 m_16 m_17 m_18 m_19 m_21 m_22 m_23 m_24 m_25 m_26 m_27 m_28 m_29 m_30 m_31 m_32 m_33 lw e0 m_36 q0 bro val sm m_41 m_42 m_43 m_44 m_45 m_46 m_47 m_48 m_49 m_50 m_51 m_52 m_53 m_54 m_55 m_56 m_57 m_58 m_59 fw fe frs H.size (by first | omega | decide) (by first | omega | decide) (by first | omega | decide) zfw) (cwV 2 hts gX12_of_X12_burnsOf rfl rfl rfl (by decide +kernel) ⟨Nat.le_of_ble_eq_true rfl, Nat.le_of_ble_eq_true rfl⟩) (mkV hK hN (hP.sub [0, 1, 2, 3] rfl) (hD.sub [0, 1, 2, 3] (by decide) rfl) (ci := 12) (q0 := 0) rfl rfl) rfl rfl hl.1 rfl (lv_room (Nat.le_of_ble_eq_true rfl)) dX12_of_168 ⟨Nat.le_of_ble_eq_true rfl, Nat.le_of_ble_eq_true rfl⟩) hP hD hS hA [0, 1, 2, 3] [] rfl rfl (by decide) (by decide) (fun r_160 u_161 H locs hw hP hD hS => ?_)
      have hP : va_P D vwCl [(m0, .inr (12, [.int 0, m_1, m_2, .ref w0, m_4, m_5, m_6, m_7, m_8, m_9, m_10, m_11, m_12, m_13, m_14, m_15, m_16, m_17, m_18, m_19, .int 0, m_21, m_22, m_23, m_24, m_25, m_26, m_27, m_28, m_29, m_30, m_31, m_32, m_33, .int (u_161.2.2.2.1 0), .ref e0, m_36, .ref q0, .int (u_161.2.2.2.1 1), .long (u_161.2.2.2.2.1 0), .long (u_161.2.2.2.2.1 1), m_41, m_42, m_43, m_44, m_45, m_46, m_47, m_48, m_49, m_50, m_51, m_52, m_53, m_54, m_55, m_56, m_57, m_58, m_59])), (w0, .inl (K 0, 5500, .inl fw)), (e0, .inl (K 2, 13, .inr (.inl (u_161.2.2.1 0)))), (q0, .inl (K 2, 400, .inr (.inl (u_161.2.2.1 1))))] H := hP
      have hD : va_D A [(m0, .inr (12, [.int 0, m_1, m_2, .ref w0, m_4, m_5, m_6, m_7, m_8, m_9, m_10, m_11, m_12, m_13, m_14, m_15, m_16, m_17, m_18, m_19, .int 0, m_21, m_22, m_23, m_24, m_25, m_26, m_27, m_28, m_29, m_30, m_31, m_32, m_33, .int (u_161.2.2.2.1 0), .ref e0, m_36, .ref q0, .int (u_161.2.2.2.1 1), .long (u_161.2.2.2.2.1 0), .long (u_161.2.2.2.2.1 1), m_41, m_42, m_43, m_44, m_45, m_46, m_47, m_48, m_49, m_50, m_51, m_52, m_53, m_54, m_55, m_56, m_57, m_58, m_59])), (w0, .inl (K 0, 5500, .inl fw)), (e0, .inl (K 2, 13, .inr (.inl (u_161.2.2.1 0)))), (q0, .inl (K 2, 400, .inr (.inl (u_161.2.2.1 1))))] := hD
      obtain ⟨h_163, k_162, -⟩ := hw
      rw [← hQ]
      have hP9 := hP.sub (ws' := [(m0, .inr (12, [.int 0, m_1, m_2, .ref w0, m_4, m_5, m_6, m_7, m_8, m_9, m_10, m_11, m_12, m_13, m_14, m_15, m_16, m_17, m_18, m_19, .int 0, m_21, m_22, m_23, m_24, m_25, m_26, m_27, m_28, m_29, m_30, m_31, m_32, m_33, .int (u_161.2.2.2.1 0), .ref e0, m_36, .ref q0, .int (u_161.2.2.2.1 1), .long (u_161.2.2.2.2.1 0), .long (u_161.2.2.2.2.1 1), m_41, m_42, m_43, m_44, m_45, m_46, m_47, m_48, m_49, m_50, m_51, m_52, m_53, m_54, m_55, m_56, m_57, m_58, m_59])), (w0, .inl (K 0, 5500, .inl fw)), (e0, .inl (K 2, 13, .inr (.inl (u_161.2.2.1 0)))), (q0, .inl (K 2, 400, .inr (.inl (u_161.2.2.1 1))))]) [0, 1, 2, 3] rfl
      have hD9 := hD.sub (ws' := [(m0, .inr (12, [.int 0, m_1, m_2, .ref w0, m_4, m_5, m_6, m_7, m_8, m_9, m_10, m_11, m_12, m_13, m_14, m_15, m_16, m_17, m_18, m_19, .int 0, m_21, m_22, m_23, m_24, m_25, m_26, m_27, m_28, m_29, m_30, m_31, m_32, m_33, .int (u_161.2.2.2.1 0), .ref e0, m_36, .ref q0, .int (u_161.2.2.2.1 1), .long (u_161.2.2.2.2.1 0), .long (u_161.2.2.2.2.1 1), m_41, m_42, m_43, m_44, m_45, m_46, m_47, m_48, m_49, m_50, m_51, m_52, m_53, m_54, m_55, m_56, m_57, m_58, m_59])), (w0, .inl (K 0, 5500, .inl fw)), (e0, .inl (K 2, 13, .inr (.inl (u_161.2.2.1 0)))), (q0, .inl (K 2, 400, .inr (.inl (u_161.2.2.1 1))))]) [0, 1, 2, 3] (by decide) rfl
      exact W.iret (v := r_160) hx hb hr (fun t ht hW => ⟨⟨r_160, ((fun _ => 0, fun _ => fun _ => 0, fun i => match i with | 0 => (u_161.2.2.1 0) | _ => (u_161.2.2.1 1), fun i => match i with | 0 => (u_161.2.2.2.1 0) | _ => (u_161.2.2.2.1 1), fun i => match i with | 0 => (u_161.2.2.2.2.1 0) | _ => (u_161.2.2.2.2.1 1), fun _ => fun _ => none) : Su), rfl, ⟨(show 0 ≤ ((u_161.2.2.2.1 1) : Int32).toInt ∧ ((u_161.2.2.2.1 1) : Int32).toInt ≤ 1 by omega), trivial⟩, (⟨by rw [ht]; exact hP9, hD9⟩ : Wd D A _ t)⟩, hS.F ht⟩) hS.2.2 dX12_of_171
    · refine lv_tableIn (tgt := 172) hx hb dX12_of_16 (by omega) (by omega) (by rw [w_141]; rfl) (by decide) ?_
      refine lv_aload_n hx hb dX12_of_172 rfl (lv_at hl 0 rfl) ?_
      refine lv_aload_n hx hb dX12_of_173 rfl (lv_at hl 0 rfl) ?_
      refine va_get (ci := 12) (v := .ref w0) (C := RX12) (T := TX12) (N := 60) hx hb hts hw12 hown hK hP 0 rfl rfl 3 (by decide) (hts (.fieldLink RX12 13 "SmokeTuneModel" "row" "[I") (List.mem_cons_of_mem _ (List.mem_append_left _ (List.mem_append_left _ (List.mem_of_getElem? (i := 1) rfl))))) (fun _ h9 => h9) rfl dX12_of_174 ?_
      refine lv_iconst (v := 3) hx hb dX12_of_177 (by decide) ?_
      refine va_iald hx hb hK hP 1 0 rfl rfl (i_in (x := 3) rfl (by omega)) dX12_of_178 ?_
      refine lv_topi (fun x_164 ex_164 => ?_)
      have px_164 := RwOK.at zfw (show (3 : Int32).toInt = 3 from rfl) (show 0 ≤ 3 ∧ 3 < 100 by omega)
      rw [← ex_164] at px_164
      have hx_164 := PR.r_3 px_164 (by omega)
      refine lv_iload_n hx hb dX12_of_179 rfl (lv_at hl 1 rfl) ?_
      refine kci (S := Su) (wr := []) (va_runV (As := [.int x_164, .int x]) (rest := []) ⟨hx, hb, hml, hown, hts⟩ (v_flaresOf l D K m0 x_164 x (.int 0) m_1 m_2 w0 m_4 m_5 m_6 m_7 m_8 m_9 m_10 m_11 m_12 m_13 m_14 m_15 m_16 m_17 m_18 m_19 m_21 m_22 m_23 m_24 m_25 m_26 m_27 m_28 m_29 m_30 m_31 m_32 m_33 lw e0 m_36 q0 bro val sm m_41 m_42 m_43 m_44 m_45 m_46 m_47 m_48 m_49 m_50 m_51 m_52 m_53 m_54 m_55 m_56 m_57 m_58 m_59 fw fe frs H.size (by first | omega | decide) (by first | omega | decide) (by first | omega | decide) zfw) (cwV 2 hts gX12_of_X12_flaresOf rfl rfl rfl (by decide +kernel) ⟨Nat.le_of_ble_eq_true rfl, Nat.le_of_ble_eq_true rfl⟩) (mkV hK hN (hP.sub [0, 1, 2, 3] rfl) (hD.sub [0, 1, 2, 3] (by decide) rfl) (ci := 12) (q0 := 0) rfl rfl) rfl rfl hl.1 rfl (lv_room (Nat.le_of_ble_eq_true rfl)) dX12_of_180 ⟨Nat.le_of_ble_eq_true rfl, Nat.le_of_ble_eq_true rfl⟩) hP hD hS hA [0, 1, 2, 3] [] rfl rfl (by decide) (by decide) (fun r_165 u_166 H locs hw hP hD hS => ?_)
      have hP : va_P D vwCl [(m0, .inr (12, [.int 0, m_1, m_2, .ref w0, m_4, m_5, m_6, m_7, m_8, m_9, m_10, m_11, m_12, m_13, m_14, m_15, m_16, m_17, m_18, m_19, .int 0, m_21, m_22, m_23, m_24, m_25, m_26, m_27, m_28, m_29, m_30, m_31, m_32, m_33, .int (u_166.2.2.2.1 0), .ref e0, m_36, .ref q0, .int (u_166.2.2.2.1 1), .long (u_166.2.2.2.2.1 0), .long (u_166.2.2.2.2.1 1), m_41, m_42, m_43, m_44, m_45, m_46, m_47, m_48, m_49, m_50, m_51, m_52, m_53, m_54, m_55, m_56, m_57, m_58, m_59])), (w0, .inl (K 0, 5500, .inl fw)), (e0, .inl (K 2, 13, .inr (.inl (u_166.2.2.1 0)))), (q0, .inl (K 2, 400, .inr (.inl (u_166.2.2.1 1))))] H := hP
      have hD : va_D A [(m0, .inr (12, [.int 0, m_1, m_2, .ref w0, m_4, m_5, m_6, m_7, m_8, m_9, m_10, m_11, m_12, m_13, m_14, m_15, m_16, m_17, m_18, m_19, .int 0, m_21, m_22, m_23, m_24, m_25, m_26, m_27, m_28, m_29, m_30, m_31, m_32, m_33, .int (u_166.2.2.2.1 0), .ref e0, m_36, .ref q0, .int (u_166.2.2.2.1 1), .long (u_166.2.2.2.2.1 0), .long (u_166.2.2.2.2.1 1), m_41, m_42, m_43, m_44, m_45, m_46, m_47, m_48, m_49, m_50, m_51, m_52, m_53, m_54, m_55, m_56, m_57, m_58, m_59])), (w0, .inl (K 0, 5500, .inl fw)), (e0, .inl (K 2, 13, .inr (.inl (u_166.2.2.1 0)))), (q0, .inl (K 2, 400, .inr (.inl (u_166.2.2.1 1))))] := hD
      obtain ⟨h_168, k_167, -⟩ := hw
      rw [← hQ]
      have hP9 := hP.sub (ws' := [(m0, .inr (12, [.int 0, m_1, m_2, .ref w0, m_4, m_5, m_6, m_7, m_8, m_9, m_10, m_11, m_12, m_13, m_14, m_15, m_16, m_17, m_18, m_19, .int 0, m_21, m_22, m_23, m_24, m_25, m_26, m_27, m_28, m_29, m_30, m_31, m_32, m_33, .int (u_166.2.2.2.1 0), .ref e0, m_36, .ref q0, .int (u_166.2.2.2.1 1), .long (u_166.2.2.2.2.1 0), .long (u_166.2.2.2.2.1 1), m_41, m_42, m_43, m_44, m_45, m_46, m_47, m_48, m_49, m_50, m_51, m_52, m_53, m_54, m_55, m_56, m_57, m_58, m_59])), (w0, .inl (K 0, 5500, .inl fw)), (e0, .inl (K 2, 13, .inr (.inl (u_166.2.2.1 0)))), (q0, .inl (K 2, 400, .inr (.inl (u_166.2.2.1 1))))]) [0, 1, 2, 3] rfl
      have hD9 := hD.sub (ws' := [(m0, .inr (12, [.int 0, m_1, m_2, .ref w0, m_4, m_5, m_6, m_7, m_8, m_9, m_10, m_11, m_12, m_13, m_14, m_15, m_16, m_17, m_18, m_19, .int 0, m_21, m_22, m_23, m_24, m_25, m_26, m_27, m_28, m_29, m_30, m_31, m_32, m_33, .int (u_166.2.2.2.1 0), .ref e0, m_36, .ref q0, .int (u_166.2.2.2.1 1), .long (u_166.2.2.2.2.1 0), .long (u_166.2.2.2.2.1 1), m_41, m_42, m_43, m_44, m_45, m_46, m_47, m_48, m_49, m_50, m_51, m_52, m_53, m_54, m_55, m_56, m_57, m_58, m_59])), (w0, .inl (K 0, 5500, .inl fw)), (e0, .inl (K 2, 13, .inr (.inl (u_166.2.2.1 0)))), (q0, .inl (K 2, 400, .inr (.inl (u_166.2.2.1 1))))]) [0, 1, 2, 3] (by decide) rfl
      exact W.iret (v := r_165) hx hb hr (fun t ht hW => ⟨⟨r_165, ((fun _ => 0, fun _ => fun _ => 0, fun i => match i with | 0 => (u_166.2.2.1 0) | _ => (u_166.2.2.1 1), fun i => match i with | 0 => (u_166.2.2.2.1 0) | _ => (u_166.2.2.2.1 1), fun i => match i with | 0 => (u_166.2.2.2.2.1 0) | _ => (u_166.2.2.2.2.1 1), fun _ => fun _ => none) : Su), rfl, ⟨(show 0 ≤ ((u_166.2.2.2.1 1) : Int32).toInt ∧ ((u_166.2.2.2.1 1) : Int32).toInt ≤ 1 by omega), trivial⟩, (⟨by rw [ht]; exact hP9, hD9⟩ : Wd D A _ t)⟩, hS.F ht⟩) hS.2.2 dX12_of_183
    · refine lv_tableIn (tgt := 184) hx hb dX12_of_16 (by omega) (by omega) (by rw [w_141]; rfl) (by decide) ?_
      refine lv_aload_n hx hb dX12_of_184 rfl (lv_at hl 0 rfl) ?_
      refine lv_iload_n hx hb dX12_of_185 rfl (lv_at hl 1 rfl) ?_
      refine kci (S := Su) (wr := []) (va_runV (As := [.int x]) (rest := []) ⟨hx, hb, hml, hown, hts⟩ (v_isBarred l D K m0 x (.int 0) m_1 m_2 w0 m_4 m_5 m_6 m_7 m_8 m_9 m_10 m_11 m_12 m_13 m_14 m_15 m_16 m_17 m_18 m_19 m_21 m_22 m_23 m_24 m_25 m_26 m_27 m_28 m_29 m_30 m_31 m_32 m_33 lw e0 m_36 q0 bro val sm m_41 m_42 m_43 m_44 m_45 m_46 m_47 m_48 m_49 m_50 m_51 m_52 m_53 m_54 m_55 m_56 m_57 m_58 m_59 fw fe frs H.size (by first | omega | decide) (by first | omega | decide) zfw) (cwV 1 hts gX12_of_X12_isBarred rfl rfl rfl (by decide +kernel) ⟨Nat.le_of_ble_eq_true rfl, Nat.le_of_ble_eq_true rfl⟩) (mkV hK hN (hP.sub [0, 1, 2, 3] rfl) (hD.sub [0, 1, 2, 3] (by decide) rfl) (ci := 12) (q0 := 0) rfl rfl) rfl rfl hl.1 rfl (lv_room (Nat.le_of_ble_eq_true rfl)) dX12_of_186 ⟨Nat.le_of_ble_eq_true rfl, Nat.le_of_ble_eq_true rfl⟩) hP hD hS hA [0, 1, 2, 3] [] rfl rfl (by decide) (by decide) (fun r_169 u_170 H locs hw hP hD hS => ?_)
      have hP : va_P D vwCl [(m0, .inr (12, [.int 0, m_1, m_2, .ref w0, m_4, m_5, m_6, m_7, m_8, m_9, m_10, m_11, m_12, m_13, m_14, m_15, m_16, m_17, m_18, m_19, .int 0, m_21, m_22, m_23, m_24, m_25, m_26, m_27, m_28, m_29, m_30, m_31, m_32, m_33, .int (u_170.2.2.2.1 0), .ref e0, m_36, .ref q0, .int (u_170.2.2.2.1 1), .long (u_170.2.2.2.2.1 0), .long (u_170.2.2.2.2.1 1), m_41, m_42, m_43, m_44, m_45, m_46, m_47, m_48, m_49, m_50, m_51, m_52, m_53, m_54, m_55, m_56, m_57, m_58, m_59])), (w0, .inl (K 0, 5500, .inl fw)), (e0, .inl (K 2, 13, .inr (.inl (u_170.2.2.1 0)))), (q0, .inl (K 2, 400, .inr (.inl (u_170.2.2.1 1))))] H := hP
      have hD : va_D A [(m0, .inr (12, [.int 0, m_1, m_2, .ref w0, m_4, m_5, m_6, m_7, m_8, m_9, m_10, m_11, m_12, m_13, m_14, m_15, m_16, m_17, m_18, m_19, .int 0, m_21, m_22, m_23, m_24, m_25, m_26, m_27, m_28, m_29, m_30, m_31, m_32, m_33, .int (u_170.2.2.2.1 0), .ref e0, m_36, .ref q0, .int (u_170.2.2.2.1 1), .long (u_170.2.2.2.2.1 0), .long (u_170.2.2.2.2.1 1), m_41, m_42, m_43, m_44, m_45, m_46, m_47, m_48, m_49, m_50, m_51, m_52, m_53, m_54, m_55, m_56, m_57, m_58, m_59])), (w0, .inl (K 0, 5500, .inl fw)), (e0, .inl (K 2, 13, .inr (.inl (u_170.2.2.1 0)))), (q0, .inl (K 2, 400, .inr (.inl (u_170.2.2.1 1))))] := hD
      obtain ⟨h_172, k_171, -⟩ := hw
      refine lv_if_eq (tgt := 196) hx hb dX12_of_189 (by decide) (fun c_173 => ?_) (fun c_173 => ?_)
      · have c_173i := i_eq (x := r_169.toInt) (y := 0) rfl rfl c_173
        refine lv_iconst (v := 0) hx hb dX12_of_196 (by decide) ?_
        rw [← hQ]
        have hP9 := hP.sub (ws' := [(m0, .inr (12, [.int 0, m_1, m_2, .ref w0, m_4, m_5, m_6, m_7, m_8, m_9, m_10, m_11, m_12, m_13, m_14, m_15, m_16, m_17, m_18, m_19, .int 0, m_21, m_22, m_23, m_24, m_25, m_26, m_27, m_28, m_29, m_30, m_31, m_32, m_33, .int (u_170.2.2.2.1 0), .ref e0, m_36, .ref q0, .int (u_170.2.2.2.1 1), .long (u_170.2.2.2.2.1 0), .long (u_170.2.2.2.2.1 1), m_41, m_42, m_43, m_44, m_45, m_46, m_47, m_48, m_49, m_50, m_51, m_52, m_53, m_54, m_55, m_56, m_57, m_58, m_59])), (w0, .inl (K 0, 5500, .inl fw)), (e0, .inl (K 2, 13, .inr (.inl (u_170.2.2.1 0)))), (q0, .inl (K 2, 400, .inr (.inl (u_170.2.2.1 1))))]) [0, 1, 2, 3] rfl
        have hD9 := hD.sub (ws' := [(m0, .inr (12, [.int 0, m_1, m_2, .ref w0, m_4, m_5, m_6, m_7, m_8, m_9, m_10, m_11, m_12, m_13, m_14, m_15, m_16, m_17, m_18, m_19, .int 0, m_21, m_22, m_23, m_24, m_25, m_26, m_27, m_28, m_29, m_30, m_31, m_32, m_33, .int (u_170.2.2.2.1 0), .ref e0, m_36, .ref q0, .int (u_170.2.2.2.1 1), .long (u_170.2.2.2.2.1 0), .long (u_170.2.2.2.2.1 1), m_41, m_42, m_43, m_44, m_45, m_46, m_47, m_48, m_49, m_50, m_51, m_52, m_53, m_54, m_55, m_56, m_57, m_58, m_59])), (w0, .inl (K 0, 5500, .inl fw)), (e0, .inl (K 2, 13, .inr (.inl (u_170.2.2.1 0)))), (q0, .inl (K 2, 400, .inr (.inl (u_170.2.2.1 1))))]) [0, 1, 2, 3] (by decide) rfl
        exact W.iret (v := 0) hx hb hr (fun t ht hW => ⟨⟨0, ((fun _ => 0, fun _ => fun _ => 0, fun i => match i with | 0 => (u_170.2.2.1 0) | _ => (u_170.2.2.1 1), fun i => match i with | 0 => (u_170.2.2.2.1 0) | _ => (u_170.2.2.2.1 1), fun i => match i with | 0 => (u_170.2.2.2.2.1 0) | _ => (u_170.2.2.2.2.1 1), fun _ => fun _ => none) : Su), rfl, ⟨(show 0 ≤ ((u_170.2.2.2.1 1) : Int32).toInt ∧ ((u_170.2.2.2.1 1) : Int32).toInt ≤ 1 by omega), trivial⟩, (⟨by rw [ht]; exact hP9, hD9⟩ : Wd D A _ t)⟩, hS.F ht⟩) hS.2.2 dX12_of_197
      · have c_173i := i_ne (x := r_169.toInt) (y := 0) rfl rfl c_173
        refine lv_iconst (v := 1) hx hb dX12_of_192 (by decide) ?_
        refine lv_goto (tgt := 197) hx hb dX12_of_193 (by decide) ?_
        rw [← hQ]
        have hP9 := hP.sub (ws' := [(m0, .inr (12, [.int 0, m_1, m_2, .ref w0, m_4, m_5, m_6, m_7, m_8, m_9, m_10, m_11, m_12, m_13, m_14, m_15, m_16, m_17, m_18, m_19, .int 0, m_21, m_22, m_23, m_24, m_25, m_26, m_27, m_28, m_29, m_30, m_31, m_32, m_33, .int (u_170.2.2.2.1 0), .ref e0, m_36, .ref q0, .int (u_170.2.2.2.1 1), .long (u_170.2.2.2.2.1 0), .long (u_170.2.2.2.2.1 1), m_41, m_42, m_43, m_44, m_45, m_46, m_47, m_48, m_49, m_50, m_51, m_52, m_53, m_54, m_55, m_56, m_57, m_58, m_59])), (w0, .inl (K 0, 5500, .inl fw)), (e0, .inl (K 2, 13, .inr (.inl (u_170.2.2.1 0)))), (q0, .inl (K 2, 400, .inr (.inl (u_170.2.2.1 1))))]) [0, 1, 2, 3] rfl
        have hD9 := hD.sub (ws' := [(m0, .inr (12, [.int 0, m_1, m_2, .ref w0, m_4, m_5, m_6, m_7, m_8, m_9, m_10, m_11, m_12, m_13, m_14, m_15, m_16, m_17, m_18, m_19, .int 0, m_21, m_22, m_23, m_24, m_25, m_26, m_27, m_28, m_29, m_30, m_31, m_32, m_33, .int (u_170.2.2.2.1 0), .ref e0, m_36, .ref q0, .int (u_170.2.2.2.1 1), .long (u_170.2.2.2.2.1 0), .long (u_170.2.2.2.2.1 1), m_41, m_42, m_43, m_44, m_45, m_46, m_47, m_48, m_49, m_50, m_51, m_52, m_53, m_54, m_55, m_56, m_57, m_58, m_59])), (w0, .inl (K 0, 5500, .inl fw)), (e0, .inl (K 2, 13, .inr (.inl (u_170.2.2.1 0)))), (q0, .inl (K 2, 400, .inr (.inl (u_170.2.2.1 1))))]) [0, 1, 2, 3] (by decide) rfl
        exact W.iret (v := 1) hx hb hr (fun t ht hW => ⟨⟨1, ((fun _ => 0, fun _ => fun _ => 0, fun i => match i with | 0 => (u_170.2.2.1 0) | _ => (u_170.2.2.1 1), fun i => match i with | 0 => (u_170.2.2.2.1 0) | _ => (u_170.2.2.2.1 1), fun i => match i with | 0 => (u_170.2.2.2.2.1 0) | _ => (u_170.2.2.2.2.1 1), fun _ => fun _ => none) : Su), rfl, ⟨(show 0 ≤ ((u_170.2.2.2.1 1) : Int32).toInt ∧ ((u_170.2.2.2.1 1) : Int32).toInt ≤ 1 by omega), trivial⟩, (⟨by rw [ht]; exact hP9, hD9⟩ : Wd D A _ t)⟩, hS.F ht⟩) hS.2.2 dX12_of_197
    · refine lv_tableOut (tgt := 198) hx hb dX12_of_16 (by omega) (by decide) ?_
      refine lv_iconst (v := (-1)) hx hb dX12_of_198 (by decide) ?_
      rw [← hQ]
      have hP9 := hP.sub (ws' := [(m0, .inr (12, [.int 0, m_1, m_2, .ref w0, m_4, m_5, m_6, m_7, m_8, m_9, m_10, m_11, m_12, m_13, m_14, m_15, m_16, m_17, m_18, m_19, .int 0, m_21, m_22, m_23, m_24, m_25, m_26, m_27, m_28, m_29, m_30, m_31, m_32, m_33, .int lw, .ref e0, m_36, .ref q0, .int bro, .long val, .long sm, m_41, m_42, m_43, m_44, m_45, m_46, m_47, m_48, m_49, m_50, m_51, m_52, m_53, m_54, m_55, m_56, m_57, m_58, m_59])), (w0, .inl (K 0, 5500, .inl fw)), (e0, .inl (K 2, 13, .inr (.inl fe))), (q0, .inl (K 2, 400, .inr (.inl frs)))]) [0, 1, 2, 3] rfl
      have hD9 := hD.sub (ws' := [(m0, .inr (12, [.int 0, m_1, m_2, .ref w0, m_4, m_5, m_6, m_7, m_8, m_9, m_10, m_11, m_12, m_13, m_14, m_15, m_16, m_17, m_18, m_19, .int 0, m_21, m_22, m_23, m_24, m_25, m_26, m_27, m_28, m_29, m_30, m_31, m_32, m_33, .int lw, .ref e0, m_36, .ref q0, .int bro, .long val, .long sm, m_41, m_42, m_43, m_44, m_45, m_46, m_47, m_48, m_49, m_50, m_51, m_52, m_53, m_54, m_55, m_56, m_57, m_58, m_59])), (w0, .inl (K 0, 5500, .inl fw)), (e0, .inl (K 2, 13, .inr (.inl fe))), (q0, .inl (K 2, 400, .inr (.inl frs)))]) [0, 1, 2, 3] (by decide) rfl
      exact W.iret (v := (-1)) hx hb hr (fun t ht hW => ⟨⟨(-1), ((fun _ => 0, fun _ => fun _ => 0, fun i => match i with | 0 => fe | _ => frs, fun i => match i with | 0 => lw | _ => bro, fun i => match i with | 0 => val | _ => sm, fun _ => fun _ => none) : Su), rfl, ⟨(show 0 ≤ (bro : Int32).toInt ∧ (bro : Int32).toInt ≤ 1 by omega), trivial⟩, (⟨by rw [ht]; exact hP9, hD9⟩ : Wd D A _ t)⟩, hS.F ht⟩) hS.2.2 dX12_of_199
  · refine lv_if_ne (tgt := 15) hx hb dX12_of_10 (by decide) (fun c_174 => absurd (by decide) c_174) (fun c_174 => ?_)
    refine lv_iconst (v := (-1)) hx hb dX12_of_13 (by decide) ?_
    rw [← hQ]
    have hP9 := hP.sub (ws' := [(m0, .inr (12, [.int 0, m_1, m_2, .ref w0, m_4, m_5, m_6, m_7, m_8, m_9, m_10, m_11, m_12, m_13, m_14, m_15, m_16, m_17, m_18, m_19, .int 0, m_21, m_22, m_23, m_24, m_25, m_26, m_27, m_28, m_29, m_30, m_31, m_32, m_33, .int lw, .ref e0, m_36, .ref q0, .int bro, .long val, .long sm, m_41, m_42, m_43, m_44, m_45, m_46, m_47, m_48, m_49, m_50, m_51, m_52, m_53, m_54, m_55, m_56, m_57, m_58, m_59])), (w0, .inl (K 0, 5500, .inl fw)), (e0, .inl (K 2, 13, .inr (.inl fe))), (q0, .inl (K 2, 400, .inr (.inl frs)))]) [0, 1, 2, 3] rfl
    have hD9 := hD.sub (ws' := [(m0, .inr (12, [.int 0, m_1, m_2, .ref w0, m_4, m_5, m_6, m_7, m_8, m_9, m_10, m_11, m_12, m_13, m_14, m_15, m_16, m_17, m_18, m_19, .int 0, m_21, m_22, m_23, m_24, m_25, m_26, m_27, m_28, m_29, m_30, m_31, m_32, m_33, .int lw, .ref e0, m_36, .ref q0, .int bro, .long val, .long sm, m_41, m_42, m_43, m_44, m_45, m_46, m_47, m_48, m_49, m_50, m_51, m_52, m_53, m_54, m_55, m_56, m_57, m_58, m_59])), (w0, .inl (K 0, 5500, .inl fw)), (e0, .inl (K 2, 13, .inr (.inl fe))), (q0, .inl (K 2, 400, .inr (.inl frs)))]) [0, 1, 2, 3] (by decide) rfl
    exact W.iret (v := (-1)) hx hb hr (fun t ht hW => ⟨⟨(-1), ((fun _ => 0, fun _ => fun _ => 0, fun i => match i with | 0 => fe | _ => frs, fun i => match i with | 0 => lw | _ => bro, fun i => match i with | 0 => val | _ => sm, fun _ => fun _ => none) : Su), rfl, ⟨(show 0 ≤ (bro : Int32).toInt ∧ (bro : Int32).toInt ≤ 1 by omega), trivial⟩, (⟨by rw [ht]; exact hP9, hD9⟩ : Wd D A _ t)⟩, hS.F ht⟩) hS.2.2 dX12_of_14
set_option maxHeartbeats 4000000 in
set_option maxRecDepth 100000 in
theorem v_discords (l : Launch) (D : va_G) (K : Nat → ClassId) (m0 : Nat) (m_0 : Value) (m_1 : Value) (m_2 : Value) (w0 : Nat) (m_4 : Value) (m_5 : Value) (m_6 : Value) (m_7 : Value) (m_8 : Value) (m_9 : Value) (m_10 : Value) (m_11 : Value) (m_12 : Value) (m_13 : Value) (m_14 : Value) (m_15 : Value) (m_16 : Value) (m_17 : Value) (m_18 : Value) (m_19 : Value) (m_21 : Value) (m_22 : Value) (m_23 : Value) (m_24 : Value) (m_25 : Value) (m_26 : Value) (m_27 : Value) (m_28 : Value) (m_29 : Value) (m_30 : Value) (m_31 : Value) (m_32 : Value) (m_33 : Value) (lw : Int32) (e0 : Nat) (m_36 : Value) (q0 : Nat) (bro : Int32) (val : Int64) (sm : Int64) (m_41 : Value) (m_42 : Value) (m_43 : Value) (m_44 : Value) (m_45 : Value) (m_46 : Value) (m_47 : Value) (m_48 : Value) (m_49 : Value) (m_50 : Value) (m_51 : Value) (m_52 : Value) (m_53 : Value) (m_54 : Value) (m_55 : Value) (m_56 : Value) (m_57 : Value) (m_58 : Value) (m_59 : Value) (fw : Nat → Int32) (fe : Nat → Int64) (frs : Nat → Int64) (sz : Nat) (zbro : 0 ≤ bro.toInt ∧ bro.toInt ≤ 1) (zfw : RwOK fw) : Met l yX12_discords wsX12_discords ({ frames := 4, cells := 0, slots := 0, locals := 102 }) (va_Pc [.ref m0] (Pre D K [(m0, .inr (12, [m_0, m_1, m_2, .ref w0, m_4, m_5, m_6, m_7, m_8, m_9, m_10, m_11, m_12, m_13, m_14, m_15, m_16, m_17, m_18, m_19, .int 0, m_21, m_22, m_23, m_24, m_25, m_26, m_27, m_28, m_29, m_30, m_31, m_32, m_33, .int lw, .ref e0, m_36, .ref q0, .int bro, .long val, .long sm, m_41, m_42, m_43, m_44, m_45, m_46, m_47, m_48, m_49, m_50, m_51, m_52, m_53, m_54, m_55, m_56, m_57, m_58, m_59])), (w0, .inl (K 0, 5500, .inl fw)), (e0, .inl (K 2, 13, .inr (.inl fe))), (q0, .inl (K 2, 400, .inr (.inl frs)))] sz)) (va_Qi (S := Su) (fun (r : Int32) (u : Su) => (0 ≤ (u.2.2.2.1 1).toInt ∧ (u.2.2.2.1 1).toInt ≤ 1) ∧ True) (fun u t => Wd D (va_A [(m0, .inr (12, [m_0, m_1, m_2, .ref w0, m_4, m_5, m_6, m_7, m_8, m_9, m_10, m_11, m_12, m_13, m_14, m_15, m_16, m_17, m_18, m_19, .int 0, m_21, m_22, m_23, m_24, m_25, m_26, m_27, m_28, m_29, m_30, m_31, m_32, m_33, .int lw, .ref e0, m_36, .ref q0, .int bro, .long val, .long sm, m_41, m_42, m_43, m_44, m_45, m_46, m_47, m_48, m_49, m_50, m_51, m_52, m_53, m_54, m_55, m_56, m_57, m_58, m_59])), (w0, .inl (K 0, 5500, .inl fw)), (e0, .inl (K 2, 13, .inr (.inl fe))), (q0, .inl (K 2, 400, .inr (.inl frs)))] sz) ((fun u => [(m0, .inr (12, [m_0, m_1, m_2, .ref w0, m_4, m_5, m_6, m_7, m_8, m_9, m_10, m_11, m_12, m_13, m_14, m_15, m_16, m_17, m_18, m_19, .int 0, m_21, m_22, m_23, m_24, m_25, m_26, m_27, m_28, m_29, m_30, m_31, m_32, m_33, .int (u.2.2.2.1 0), .ref e0, m_36, .ref q0, .int (u.2.2.2.1 1), .long (u.2.2.2.2.1 0), .long (u.2.2.2.2.1 1), m_41, m_42, m_43, m_44, m_45, m_46, m_47, m_48, m_49, m_50, m_51, m_52, m_53, m_54, m_55, m_56, m_57, m_58, m_59])), (w0, .inl (K 0, 5500, .inl fw)), (e0, .inl (K 2, 13, .inr (.inl (u.2.2.1 0)))), (q0, .inl (K 2, 400, .inr (.inl (u.2.2.1 1))))]) u) t) (va_A [(m0, .inr (12, [m_0, m_1, m_2, .ref w0, m_4, m_5, m_6, m_7, m_8, m_9, m_10, m_11, m_12, m_13, m_14, m_15, m_16, m_17, m_18, m_19, .int 0, m_21, m_22, m_23, m_24, m_25, m_26, m_27, m_28, m_29, m_30, m_31, m_32, m_33, .int lw, .ref e0, m_36, .ref q0, .int bro, .long val, .long sm, m_41, m_42, m_43, m_44, m_45, m_46, m_47, m_48, m_49, m_50, m_51, m_52, m_53, m_54, m_55, m_56, m_57, m_58, m_59])), (w0, .inl (K 0, 5500, .inl fw)), (e0, .inl (K 2, 13, .inr (.inl fe))), (q0, .inl (K 2, 400, .inr (.inl frs)))] sz)) 0 0 (va_A [(m0, .inr (12, [m_0, m_1, m_2, .ref w0, m_4, m_5, m_6, m_7, m_8, m_9, m_10, m_11, m_12, m_13, m_14, m_15, m_16, m_17, m_18, m_19, .int 0, m_21, m_22, m_23, m_24, m_25, m_26, m_27, m_28, m_29, m_30, m_31, m_32, m_33, .int lw, .ref e0, m_36, .ref q0, .int bro, .long val, .long sm, m_41, m_42, m_43, m_44, m_45, m_46, m_47, m_48, m_49, m_50, m_51, m_52, m_53, m_54, m_55, m_56, m_57, m_58, m_59])), (w0, .inl (K 0, 5500, .inl fw)), (e0, .inl (K 2, 13, .inr (.inl fe))), (q0, .inl (K 2, 400, .inr (.inl frs)))] sz) := by
  refine Met.ofW (cc := cX12_discords) (maxL := 4) (ret := (some .int)) (by decide) rfl ?_
  intro p e s m args below meth c s₁ B hml hv
  obtain ⟨rfl, hsz, hP, hK, hD0, hN⟩ := hv
  have hx := B.exec
  have hb := B.bytes
  have hr := B.returns
  have hts := atoms_spec (ws := wsX12_discords) B.pre
  have hown : s.vm.findClass RX12 = some m.cls := findClass_of_methodNamed B.named
  have hlocks := B.notSynchronized
  subst hsz
  have hD := hD0.self (sz := s.heap.size)
  generalize hAe : va_A [(m0, .inr (12, [m_0, m_1, m_2, .ref w0, m_4, m_5, m_6, m_7, m_8, m_9, m_10, m_11, m_12, m_13, m_14, m_15, m_16, m_17, m_18, m_19, .int 0, m_21, m_22, m_23, m_24, m_25, m_26, m_27, m_28, m_29, m_30, m_31, m_32, m_33, .int lw, .ref e0, m_36, .ref q0, .int bro, .long val, .long sm, m_41, m_42, m_43, m_44, m_45, m_46, m_47, m_48, m_49, m_50, m_51, m_52, m_53, m_54, m_55, m_56, m_57, m_58, m_59])), (w0, .inl (K 0, 5500, .inl fw)), (e0, .inl (K 2, 13, .inr (.inl fe))), (q0, .inl (K 2, 400, .inr (.inl frs)))] s.heap.size = A at hD ⊢
  have hA : ∀ q : Nat, s.heap.size ≤ q → A q := fun q h => by rw [← hAe]; exact Or.inr h
  have hS : va_S A s.heap s.heap [] := va_S.rf
  have hP : va_P D vwCl [(m0, .inr (12, [m_0, m_1, m_2, .ref w0, m_4, m_5, m_6, m_7, m_8, m_9, m_10, m_11, m_12, m_13, m_14, m_15, m_16, m_17, m_18, m_19, .int 0, m_21, m_22, m_23, m_24, m_25, m_26, m_27, m_28, m_29, m_30, m_31, m_32, m_33, .int lw, .ref e0, m_36, .ref q0, .int bro, .long val, .long sm, m_41, m_42, m_43, m_44, m_45, m_46, m_47, m_48, m_49, m_50, m_51, m_52, m_53, m_54, m_55, m_56, m_57, m_58, m_59])), (w0, .inl (K 0, 5500, .inl fw)), (e0, .inl (K 2, 13, .inr (.inl fe))), (q0, .inl (K 2, 400, .inr (.inl frs)))] s.heap := hP
  have hl := lv_entry [.ref m0] (n := 4) (Nat.le_of_ble_eq_true rfl)
  rw [lg_entry_eq]
  generalize (lg_sl [.ref m0] ++ List.replicate (4 - (lg_sl [.ref m0]).length) Slot.unset).toArray = ls at hl ⊢
  have hl : lv_has ls 4 [(0, .ref m0)] := hl
  have hw12 : ∀ w ∈ wsX120, w ∈ wsX12_discords := fun w h => (List.mem_cons_of_mem _ (List.mem_append_right _ h))
  generalize hQ : MQ below _ _ s _ _ _ = Q
  refine lv_iconst (v := 0) hx hb dX12_discords_0 (by decide) ?_
  refine lv_istore_n (lv' := [(1, .int 0), (0, .ref m0)]) hx hb dX12_discords_1 rfl hl (by decide) rfl (fun ls hl => ?_)
  refine lv_iconst (v := 0) hx hb dX12_discords_2 (by decide) ?_
  refine lv_istore_n (lv' := [(2, .int 0), (1, .int 0), (0, .ref m0)]) hx hb dX12_discords_3 rfl hl (by decide) rfl (fun ls hl => ?_)
  have lp_8256 : ∀ (nn_ : Nat) (v_7540 : Int32) (v_7541 : Int32) (v_7542 : Int32) (v_7543 : Int32) (v_7544 : Int64) (v_7545 : Int64) (f_7546 : Nat → Int64) (f_7547 : Nat → Int64) (hv_7540 : 0 ≤ v_7540.toInt ∧ v_7540.toInt ≤ 8) (hv_7543 : 0 ≤ v_7543.toInt ∧ v_7543.toInt ≤ 1) (hn : (9 - v_7540.toInt : Int).toNat < nn_) (H : Heap) (locs : List Loc) (hP : va_P D vwCl [(m0, .inr (12, [m_0, m_1, m_2, .ref w0, m_4, m_5, m_6, m_7, m_8, m_9, m_10, m_11, m_12, m_13, m_14, m_15, m_16, m_17, m_18, m_19, .int 0, m_21, m_22, m_23, m_24, m_25, m_26, m_27, m_28, m_29, m_30, m_31, m_32, m_33, .int v_7542, .ref e0, m_36, .ref q0, .int v_7543, .long v_7544, .long v_7545, m_41, m_42, m_43, m_44, m_45, m_46, m_47, m_48, m_49, m_50, m_51, m_52, m_53, m_54, m_55, m_56, m_57, m_58, m_59])), (w0, .inl (K 0, 5500, .inl fw)), (e0, .inl (K 2, 13, .inr (.inl f_7546))), (q0, .inl (K 2, 400, .inr (.inl f_7547)))] H) (hD : va_D A [(m0, .inr (12, [m_0, m_1, m_2, .ref w0, m_4, m_5, m_6, m_7, m_8, m_9, m_10, m_11, m_12, m_13, m_14, m_15, m_16, m_17, m_18, m_19, .int 0, m_21, m_22, m_23, m_24, m_25, m_26, m_27, m_28, m_29, m_30, m_31, m_32, m_33, .int v_7542, .ref e0, m_36, .ref q0, .int v_7543, .long v_7544, .long v_7545, m_41, m_42, m_43, m_44, m_45, m_46, m_47, m_48, m_49, m_50, m_51, m_52, m_53, m_54, m_55, m_56, m_57, m_58, m_59])), (w0, .inl (K 0, 5500, .inl fw)), (e0, .inl (K 2, 13, .inr (.inl f_7546))), (q0, .inl (K 2, 400, .inr (.inl f_7547)))]) (hS : va_S A s.heap H locs) (ls : Array Slot) (hl : lv_has ls 4 [(2, .int v_7540), (1, .int v_7541), (0, .ref m0)]), W p l e ({ frames := 4, cells := 0, slots := 0, locals := 102 }) s m (([.ref m0] : List Value).toArray) below meth c H locs 0 0 Q (F0 m 4 ls []) := by
    intro nn_
    induction nn_ with
    | zero =>
      intro v_7540 v_7541 v_7542 v_7543 v_7544 v_7545 f_7546 f_7547 hv_7540 hv_7543 hn H locs hP hD hS ls hl
      exact absurd hn (Nat.not_lt_zero _)
    | succ nn_ ih_8257 =>
      intro v_7540 v_7541 v_7542 v_7543 v_7544 v_7545 f_7546 f_7547 hv_7540 hv_7543 hn H locs hP hD hS ls hl
      refine lv_iload_n hx hb dX12_discords_4 rfl (lv_at hl 0 rfl) ?_
      refine lv_aload_n hx hb dX12_discords_5 rfl (lv_at hl 2 rfl) ?_
      refine va_get (ci := 12) (v := .ref w0) (C := RX12) (T := TX12) (N := 60) hx hb hts hw12 hown hK hP 0 rfl rfl 3 (by decide) (hts (.fieldLink RX12 13 "SmokeTuneModel" "row" "[I") (List.mem_cons_of_mem _ (List.mem_append_left _ (List.mem_append_left _ (List.mem_of_getElem? (i := 0) rfl))))) (fun _ h9 => h9) rfl dX12_discords_6 ?_
      refine lv_iconst (v := 0) hx hb dX12_discords_9 (by decide) ?_
      refine va_iald hx hb hK hP 1 0 rfl rfl (i_in (x := 0) rfl (by omega)) dX12_discords_10 ?_
      refine lv_topi (fun x_8258 ex_8258 => ?_)
      have px_8258 := RwOK.at zfw (show (0 : Int32).toInt = 0 from rfl) (show 0 ≤ 0 ∧ 0 < 100 by omega)
      rw [← ex_8258] at px_8258
      have hx_8258 := PR.r_0 px_8258 (by omega)
      refine lv_icmp_ge (tgt := 133) hx hb dX12_discords_11 (by decide) (fun c_8259 => ?_) (fun c_8259 => ?_)
      · have c_8259i := i_le (x := x_8258.toInt) (y := v_7540.toInt) rfl rfl c_8259
        refine lv_iload_n hx hb dX12_discords_133 rfl (lv_at hl 1 rfl) ?_
        rw [← hQ]
        have hP9 := hP.sub (ws' := [(m0, .inr (12, [m_0, m_1, m_2, .ref w0, m_4, m_5, m_6, m_7, m_8, m_9, m_10, m_11, m_12, m_13, m_14, m_15, m_16, m_17, m_18, m_19, .int 0, m_21, m_22, m_23, m_24, m_25, m_26, m_27, m_28, m_29, m_30, m_31, m_32, m_33, .int v_7542, .ref e0, m_36, .ref q0, .int v_7543, .long v_7544, .long v_7545, m_41, m_42, m_43, m_44, m_45, m_46, m_47, m_48, m_49, m_50, m_51, m_52, m_53, m_54, m_55, m_56, m_57, m_58, m_59])), (w0, .inl (K 0, 5500, .inl fw)), (e0, .inl (K 2, 13, .inr (.inl f_7546))), (q0, .inl (K 2, 400, .inr (.inl f_7547)))]) [0, 1, 2, 3] rfl
        have hD9 := hD.sub (ws' := [(m0, .inr (12, [m_0, m_1, m_2, .ref w0, m_4, m_5, m_6, m_7, m_8, m_9, m_10, m_11, m_12, m_13, m_14, m_15, m_16, m_17, m_18, m_19, .int 0, m_21, m_22, m_23, m_24, m_25, m_26, m_27, m_28, m_29, m_30, m_31, m_32, m_33, .int v_7542, .ref e0, m_36, .ref q0, .int v_7543, .long v_7544, .long v_7545, m_41, m_42, m_43, m_44, m_45, m_46, m_47, m_48, m_49, m_50, m_51, m_52, m_53, m_54, m_55, m_56, m_57, m_58, m_59])), (w0, .inl (K 0, 5500, .inl fw)), (e0, .inl (K 2, 13, .inr (.inl f_7546))), (q0, .inl (K 2, 400, .inr (.inl f_7547)))]) [0, 1, 2, 3] (by decide) rfl
        exact W.iret (v := v_7541) hx hb hr (fun t ht hW => ⟨⟨v_7541, ((fun _ => 0, fun _ => fun _ => 0, fun i => match i with | 0 => f_7546 | _ => f_7547, fun i => match i with | 0 => v_7542 | _ => v_7543, fun i => match i with | 0 => v_7544 | _ => v_7545, fun _ => fun _ => none) : Su), rfl, ⟨(show 0 ≤ (v_7543 : Int32).toInt ∧ (v_7543 : Int32).toInt ≤ 1 by omega), trivial⟩, (⟨by rw [ht]; exact hP9, hD9⟩ : Wd D A _ t)⟩, hS.F ht⟩) hS.2.2 dX12_discords_134
      · have c_8259i := i_nle (x := x_8258.toInt) (y := v_7540.toInt) rfl rfl c_8259
        refine lv_iload_n hx hb dX12_discords_14 rfl (lv_at hl 0 rfl) ?_
        refine lv_iconst (v := 1) hx hb dX12_discords_15 (by decide) ?_
        refine lv_iadd hx hb dX12_discords_16 ?_
        refine lv_topi (fun x_8260 ex_8260 => ?_)
        have hx_8260 : x_8260.toInt = (v_7540.toInt + 1) := by rw [ex_8260]; exact i_add rfl (show (1 : Int32).toInt = 1 from rfl) (by omega)
        refine lv_istore_n (lv' := [(3, .int x_8260), (2, .int v_7540), (1, .int v_7541), (0, .ref m0)]) hx hb dX12_discords_17 rfl hl (by decide) rfl (fun ls hl => ?_)
        have lp_8541 : ∀ (nn_ : Nat) (v_8397 : Int32) (v_8398 : Int32) (v_8399 : Int32) (v_8400 : Int32) (v_8401 : Int64) (v_8402 : Int64) (f_8403 : Nat → Int64) (f_8404 : Nat → Int64) (hv_8397 : 1 ≤ v_8397.toInt ∧ v_8397.toInt ≤ 8) (hv_8400 : 0 ≤ v_8400.toInt ∧ v_8400.toInt ≤ 1) (hn : (9 - v_8397.toInt : Int).toNat < nn_) (H : Heap) (locs : List Loc) (hP : va_P D vwCl [(m0, .inr (12, [m_0, m_1, m_2, .ref w0, m_4, m_5, m_6, m_7, m_8, m_9, m_10, m_11, m_12, m_13, m_14, m_15, m_16, m_17, m_18, m_19, .int 0, m_21, m_22, m_23, m_24, m_25, m_26, m_27, m_28, m_29, m_30, m_31, m_32, m_33, .int v_8399, .ref e0, m_36, .ref q0, .int v_8400, .long v_8401, .long v_8402, m_41, m_42, m_43, m_44, m_45, m_46, m_47, m_48, m_49, m_50, m_51, m_52, m_53, m_54, m_55, m_56, m_57, m_58, m_59])), (w0, .inl (K 0, 5500, .inl fw)), (e0, .inl (K 2, 13, .inr (.inl f_8403))), (q0, .inl (K 2, 400, .inr (.inl f_8404)))] H) (hD : va_D A [(m0, .inr (12, [m_0, m_1, m_2, .ref w0, m_4, m_5, m_6, m_7, m_8, m_9, m_10, m_11, m_12, m_13, m_14, m_15, m_16, m_17, m_18, m_19, .int 0, m_21, m_22, m_23, m_24, m_25, m_26, m_27, m_28, m_29, m_30, m_31, m_32, m_33, .int v_8399, .ref e0, m_36, .ref q0, .int v_8400, .long v_8401, .long v_8402, m_41, m_42, m_43, m_44, m_45, m_46, m_47, m_48, m_49, m_50, m_51, m_52, m_53, m_54, m_55, m_56, m_57, m_58, m_59])), (w0, .inl (K 0, 5500, .inl fw)), (e0, .inl (K 2, 13, .inr (.inl f_8403))), (q0, .inl (K 2, 400, .inr (.inl f_8404)))]) (hS : va_S A s.heap H locs) (ls : Array Slot) (hl : lv_has ls 4 [(3, .int v_8397), (2, .int v_7540), (1, .int v_8398), (0, .ref m0)]), W p l e ({ frames := 4, cells := 0, slots := 0, locals := 102 }) s m (([.ref m0] : List Value).toArray) below meth c H locs 0 0 Q (F0 m 18 ls []) := by
          intro nn_
          induction nn_ with
          | zero =>
            intro v_8397 v_8398 v_8399 v_8400 v_8401 v_8402 f_8403 f_8404 hv_8397 hv_8400 hn H locs hP hD hS ls hl
            exact absurd hn (Nat.not_lt_zero _)
          | succ nn_ ih_8542 =>
            intro v_8397 v_8398 v_8399 v_8400 v_8401 v_8402 f_8403 f_8404 hv_8397 hv_8400 hn H locs hP hD hS ls hl
            refine lv_iload_n hx hb dX12_discords_18 rfl (lv_at hl 0 rfl) ?_
            refine lv_aload_n hx hb dX12_discords_19 rfl (lv_at hl 3 rfl) ?_
            refine va_get (ci := 12) (v := .ref w0) (C := RX12) (T := TX12) (N := 60) hx hb hts hw12 hown hK hP 0 rfl rfl 3 (by decide) (hts (.fieldLink RX12 13 "SmokeTuneModel" "row" "[I") (List.mem_cons_of_mem _ (List.mem_append_left _ (List.mem_append_left _ (List.mem_of_getElem? (i := 0) rfl))))) (fun _ h9 => h9) rfl dX12_discords_20 ?_
            refine lv_iconst (v := 0) hx hb dX12_discords_23 (by decide) ?_
            refine va_iald hx hb hK hP 1 0 rfl rfl (i_in (x := 0) rfl (by omega)) dX12_discords_24 ?_
            refine lv_topi (fun x_8543 ex_8543 => ?_)
            have px_8543 := RwOK.at zfw (show (0 : Int32).toInt = 0 from rfl) (show 0 ≤ 0 ∧ 0 < 100 by omega)
            rw [← ex_8543] at px_8543
            have hx_8543 := PR.r_0 px_8543 (by omega)
            refine lv_icmp_ge (tgt := 127) hx hb dX12_discords_25 (by decide) (fun c_8544 => ?_) (fun c_8544 => ?_)
            · have c_8544i := i_le (x := x_8543.toInt) (y := v_8397.toInt) rfl rfl c_8544
              obtain ⟨x_8545, ex_8545⟩ : ∃ y : Int32, y = v_7540 + Int32.ofInt 1 := ⟨_, rfl⟩
              have hx_8545 : x_8545.toInt = (v_7540.toInt + 1) := by rw [ex_8545]; exact i_add rfl (show (Int32.ofInt 1).toInt = 1 from rfl) (by omega)
              refine lv_iinc (v := x_8545) (lv' := [(2, .int x_8545), (3, .int v_8397), (1, .int v_8398), (0, .ref m0)]) hx hb dX12_discords_127 hl (k := 1) rfl (by rw [ex_8545]) (by decide) rfl (fun ls hl => ?_)
              refine lv_goto (tgt := 4) hx hb dX12_discords_130 (by decide) ?_
              exact ih_8257 x_8545 v_8398 v_8399 v_8400 v_8401 v_8402 f_8403 f_8404 (by rw [hx_8545]; omega) (by omega) (by omega) _ _ hP hD hS ls (lv_sub hl [0, 2, 3] rfl)
            · have c_8544i := i_nle (x := x_8543.toInt) (y := v_8397.toInt) rfl rfl c_8544
              refine lv_aload_n hx hb dX12_discords_28 rfl (lv_at hl 3 rfl) ?_
              refine lv_iload_n hx hb dX12_discords_29 rfl (lv_at hl 1 rfl) ?_
              refine pci (va_runV (As := [.int v_7540]) (rest := []) ⟨hx, hb, hml, hown, hts⟩ (v_isSounding l D K m0 v_7540 m_0 m_1 m_2 w0 m_4 m_5 m_6 m_7 m_8 m_9 m_10 m_11 m_12 m_13 m_14 m_15 m_16 m_17 m_18 m_19 (.int 0) m_21 m_22 m_23 m_24 m_25 m_26 m_27 m_28 m_29 m_30 m_31 m_32 m_33 (.int v_8399) (.ref e0) m_36 (.ref q0) (.int v_8400) (.long v_8401) (.long v_8402) m_41 m_42 m_43 m_44 m_45 m_46 m_47 m_48 m_49 m_50 m_51 m_52 m_53 m_54 m_55 m_56 m_57 m_58 m_59 fw H.size (by first | omega | decide) zfw) (cwV 1 hts gX12_discords_X12_isSounding rfl rfl rfl (by decide +kernel) ⟨Nat.le_of_ble_eq_true rfl, Nat.le_of_ble_eq_true rfl⟩) (mkV hK hN (hP.sub [0, 1] rfl) (hD.sub [0, 1] (by decide) rfl) (ci := 12) (q0 := 0) rfl rfl) rfl rfl hl.1 rfl (lv_room (Nat.le_of_ble_eq_true rfl)) dX12_discords_30 ⟨Nat.le_of_ble_eq_true rfl, Nat.le_of_ble_eq_true rfl⟩) (fun r_8546 hw => ?_)
              obtain ⟨h_8547, -⟩ := hw
              have j_8581 : ∀ (v_8573 : Int32) (v_8574 : Int32) (v_8575 : Int32) (v_8576 : Int64) (v_8577 : Int64) (f_8578 : Nat → Int64) (f_8579 : Nat → Int64) (hv_8575 : 0 ≤ v_8575.toInt ∧ v_8575.toInt ≤ 1) (H : Heap) (locs : List Loc) (hP : va_P D vwCl [(m0, .inr (12, [m_0, m_1, m_2, .ref w0, m_4, m_5, m_6, m_7, m_8, m_9, m_10, m_11, m_12, m_13, m_14, m_15, m_16, m_17, m_18, m_19, .int 0, m_21, m_22, m_23, m_24, m_25, m_26, m_27, m_28, m_29, m_30, m_31, m_32, m_33, .int v_8574, .ref e0, m_36, .ref q0, .int v_8575, .long v_8576, .long v_8577, m_41, m_42, m_43, m_44, m_45, m_46, m_47, m_48, m_49, m_50, m_51, m_52, m_53, m_54, m_55, m_56, m_57, m_58, m_59])), (w0, .inl (K 0, 5500, .inl fw)), (e0, .inl (K 2, 13, .inr (.inl f_8578))), (q0, .inl (K 2, 400, .inr (.inl f_8579)))] H) (hD : va_D A [(m0, .inr (12, [m_0, m_1, m_2, .ref w0, m_4, m_5, m_6, m_7, m_8, m_9, m_10, m_11, m_12, m_13, m_14, m_15, m_16, m_17, m_18, m_19, .int 0, m_21, m_22, m_23, m_24, m_25, m_26, m_27, m_28, m_29, m_30, m_31, m_32, m_33, .int v_8574, .ref e0, m_36, .ref q0, .int v_8575, .long v_8576, .long v_8577, m_41, m_42, m_43, m_44, m_45, m_46, m_47, m_48, m_49, m_50, m_51, m_52, m_53, m_54, m_55, m_56, m_57, m_58, m_59])), (w0, .inl (K 0, 5500, .inl fw)), (e0, .inl (K 2, 13, .inr (.inl f_8578))), (q0, .inl (K 2, 400, .inr (.inl f_8579)))]) (hS : va_S A s.heap H locs) (ls : Array Slot) (hl : lv_has ls 4 [(3, .int v_8397), (2, .int v_7540), (1, .int v_8573), (0, .ref m0)]), W p l e ({ frames := 4, cells := 0, slots := 0, locals := 102 }) s m (([.ref m0] : List Value).toArray) below meth c H locs 0 0 Q (F0 m 121 ls []) := by
                intro v_8573 v_8574 v_8575 v_8576 v_8577 f_8578 f_8579 hv_8575 H locs hP hD hS ls hl
                obtain ⟨x_8582, ex_8582⟩ : ∃ y : Int32, y = v_8397 + Int32.ofInt 1 := ⟨_, rfl⟩
                have hx_8582 : x_8582.toInt = (v_8397.toInt + 1) := by rw [ex_8582]; exact i_add rfl (show (Int32.ofInt 1).toInt = 1 from rfl) (by omega)
                refine lv_iinc (v := x_8582) (lv' := [(3, .int x_8582), (2, .int v_7540), (1, .int v_8573), (0, .ref m0)]) hx hb dX12_discords_121 hl (k := 0) rfl (by rw [ex_8582]) (by decide) rfl (fun ls hl => ?_)
                refine lv_goto (tgt := 18) hx hb dX12_discords_124 (by decide) ?_
                exact ih_8542 x_8582 v_8573 v_8574 v_8575 v_8576 v_8577 f_8578 f_8579 (by rw [hx_8582]; omega) (by omega) (by omega) _ _ hP hD hS ls (lv_sub hl [0, 1, 2, 3] rfl)
              refine lv_if_eq (tgt := 121) hx hb dX12_discords_33 (by decide) (fun c_8583 => ?_) (fun c_8583 => ?_)
              · have c_8583i := i_eq (x := r_8546.toInt) (y := 0) rfl rfl c_8583
                exact j_8581 v_8398 v_8399 v_8400 v_8401 v_8402 f_8403 f_8404 (by omega) _ _ hP hD hS ls (lv_sub hl [0, 1, 2, 3] rfl)
              · have c_8583i := i_ne (x := r_8546.toInt) (y := 0) rfl rfl c_8583
                refine lv_aload_n hx hb dX12_discords_36 rfl (lv_at hl 3 rfl) ?_
                refine lv_iload_n hx hb dX12_discords_37 rfl (lv_at hl 0 rfl) ?_
                refine pci (va_runV (As := [.int v_8397]) (rest := []) ⟨hx, hb, hml, hown, hts⟩ (v_isSounding l D K m0 v_8397 m_0 m_1 m_2 w0 m_4 m_5 m_6 m_7 m_8 m_9 m_10 m_11 m_12 m_13 m_14 m_15 m_16 m_17 m_18 m_19 (.int 0) m_21 m_22 m_23 m_24 m_25 m_26 m_27 m_28 m_29 m_30 m_31 m_32 m_33 (.int v_8399) (.ref e0) m_36 (.ref q0) (.int v_8400) (.long v_8401) (.long v_8402) m_41 m_42 m_43 m_44 m_45 m_46 m_47 m_48 m_49 m_50 m_51 m_52 m_53 m_54 m_55 m_56 m_57 m_58 m_59 fw H.size (by first | omega | decide) zfw) (cwV 1 hts gX12_discords_X12_isSounding rfl rfl rfl (by decide +kernel) ⟨Nat.le_of_ble_eq_true rfl, Nat.le_of_ble_eq_true rfl⟩) (mkV hK hN (hP.sub [0, 1] rfl) (hD.sub [0, 1] (by decide) rfl) (ci := 12) (q0 := 0) rfl rfl) rfl rfl hl.1 rfl (lv_room (Nat.le_of_ble_eq_true rfl)) dX12_discords_38 ⟨Nat.le_of_ble_eq_true rfl, Nat.le_of_ble_eq_true rfl⟩) (fun r_8584 hw => ?_)
                obtain ⟨h_8585, -⟩ := hw
                refine lv_if_eq (tgt := 121) hx hb dX12_discords_41 (by decide) (fun c_8586 => ?_) (fun c_8586 => ?_)
                · have c_8586i := i_eq (x := r_8584.toInt) (y := 0) rfl rfl c_8586
                  exact j_8581 v_8398 v_8399 v_8400 v_8401 v_8402 f_8403 f_8404 (by omega) _ _ hP hD hS ls (lv_sub hl [0, 1, 2, 3] rfl)
                · have c_8586i := i_ne (x := r_8584.toInt) (y := 0) rfl rfl c_8586
                  refine lv_aload_n hx hb dX12_discords_44 rfl (lv_at hl 3 rfl) ?_
                  refine va_get (ci := 12) (v := .ref w0) (C := RX12) (T := TX12) (N := 60) hx hb hts hw12 hown hK hP 0 rfl rfl 3 (by decide) (hts (.fieldLink RX12 13 "SmokeTuneModel" "row" "[I") (List.mem_cons_of_mem _ (List.mem_append_left _ (List.mem_append_left _ (List.mem_of_getElem? (i := 0) rfl))))) (fun _ h9 => h9) rfl dX12_discords_45 ?_
                  refine lv_bipush (v := 43) hx hb dX12_discords_48 (by decide) ?_
                  refine lv_iload_n hx hb dX12_discords_50 rfl (lv_at hl 1 rfl) ?_
                  refine lv_iadd hx hb dX12_discords_51 ?_
                  refine lv_topi (fun x_8587 ex_8587 => ?_)
                  have hx_8587 : x_8587.toInt = (43 + v_7540.toInt) := by rw [ex_8587]; exact i_add (show (43 : Int32).toInt = 43 from rfl) rfl (by omega)
                  refine va_iald hx hb hK hP 1 0 rfl rfl (i_in hx_8587 (by omega)) dX12_discords_52 ?_
                  refine lv_topi (fun x_8588 ex_8588 => ?_)
                  have px_8588 := RwOK.at zfw hx_8587 (show 0 ≤ (43 + v_7540.toInt) ∧ (43 + v_7540.toInt) < 100 by omega)
                  rw [← ex_8588] at px_8588
                  refine lv_aload_n hx hb dX12_discords_53 rfl (lv_at hl 3 rfl) ?_
                  refine va_get (ci := 12) (v := .ref w0) (C := RX12) (T := TX12) (N := 60) hx hb hts hw12 hown hK hP 0 rfl rfl 3 (by decide) (hts (.fieldLink RX12 13 "SmokeTuneModel" "row" "[I") (List.mem_cons_of_mem _ (List.mem_append_left _ (List.mem_append_left _ (List.mem_of_getElem? (i := 0) rfl))))) (fun _ h9 => h9) rfl dX12_discords_54 ?_
                  refine lv_bipush (v := 43) hx hb dX12_discords_57 (by decide) ?_
                  refine lv_iload_n hx hb dX12_discords_59 rfl (lv_at hl 0 rfl) ?_
                  refine lv_iadd hx hb dX12_discords_60 ?_
                  refine lv_topi (fun x_8589 ex_8589 => ?_)
                  have hx_8589 : x_8589.toInt = (43 + v_8397.toInt) := by rw [ex_8589]; exact i_add (show (43 : Int32).toInt = 43 from rfl) rfl (by omega)
                  refine va_iald hx hb hK hP 1 0 rfl rfl (i_in hx_8589 (by omega)) dX12_discords_61 ?_
                  refine lv_topi (fun x_8590 ex_8590 => ?_)
                  have px_8590 := RwOK.at zfw hx_8589 (show 0 ≤ (43 + v_8397.toInt) ∧ (43 + v_8397.toInt) < 100 by omega)
                  rw [← ex_8590] at px_8590
                  refine lv_icmp_ne (tgt := 121) hx hb dX12_discords_62 (by decide) (fun c_8591 => ?_) (fun c_8591 => ?_)
                  · have c_8591i := i_ne (x := x_8588.toInt) (y := x_8590.toInt) rfl rfl c_8591
                    exact j_8581 v_8398 v_8399 v_8400 v_8401 v_8402 f_8403 f_8404 (by omega) _ _ hP hD hS ls (lv_sub hl [0, 1, 2, 3] rfl)
                  · have c_8591i := i_eq (x := x_8588.toInt) (y := x_8590.toInt) rfl rfl c_8591
                    refine lv_aload_n hx hb dX12_discords_65 rfl (lv_at hl 3 rfl) ?_
                    refine va_get (ci := 12) (v := .ref w0) (C := RX12) (T := TX12) (N := 60) hx hb hts hw12 hown hK hP 0 rfl rfl 3 (by decide) (hts (.fieldLink RX12 13 "SmokeTuneModel" "row" "[I") (List.mem_cons_of_mem _ (List.mem_append_left _ (List.mem_append_left _ (List.mem_of_getElem? (i := 0) rfl))))) (fun _ h9 => h9) rfl dX12_discords_66 ?_
                    refine lv_bipush (v := 35) hx hb dX12_discords_69 (by decide) ?_
                    refine lv_iload_n hx hb dX12_discords_71 rfl (lv_at hl 1 rfl) ?_
                    refine lv_iadd hx hb dX12_discords_72 ?_
                    refine lv_topi (fun x_8592 ex_8592 => ?_)
                    have hx_8592 : x_8592.toInt = (35 + v_7540.toInt) := by rw [ex_8592]; exact i_add (show (35 : Int32).toInt = 35 from rfl) rfl (by omega)
                    refine va_iald hx hb hK hP 1 0 rfl rfl (i_in hx_8592 (by omega)) dX12_discords_73 ?_
                    refine lv_topi (fun x_8593 ex_8593 => ?_)
                    have px_8593 := RwOK.at zfw hx_8592 (show 0 ≤ (35 + v_7540.toInt) ∧ (35 + v_7540.toInt) < 100 by omega)
                    rw [← ex_8593] at px_8593
                    have hx_8593 := PR.r_35 px_8593 (by omega)
                    refine lv_aload_n hx hb dX12_discords_74 rfl (lv_at hl 3 rfl) ?_
                    refine va_get (ci := 12) (v := .ref w0) (C := RX12) (T := TX12) (N := 60) hx hb hts hw12 hown hK hP 0 rfl rfl 3 (by decide) (hts (.fieldLink RX12 13 "SmokeTuneModel" "row" "[I") (List.mem_cons_of_mem _ (List.mem_append_left _ (List.mem_append_left _ (List.mem_of_getElem? (i := 0) rfl))))) (fun _ h9 => h9) rfl dX12_discords_75 ?_
                    refine lv_bipush (v := 35) hx hb dX12_discords_78 (by decide) ?_
                    refine lv_iload_n hx hb dX12_discords_80 rfl (lv_at hl 0 rfl) ?_
                    refine lv_iadd hx hb dX12_discords_81 ?_
                    refine lv_topi (fun x_8594 ex_8594 => ?_)
                    have hx_8594 : x_8594.toInt = (35 + v_8397.toInt) := by rw [ex_8594]; exact i_add (show (35 : Int32).toInt = 35 from rfl) rfl (by omega)
                    refine va_iald hx hb hK hP 1 0 rfl rfl (i_in hx_8594 (by omega)) dX12_discords_82 ?_
                    refine lv_topi (fun x_8595 ex_8595 => ?_)
                    have px_8595 := RwOK.at zfw hx_8594 (show 0 ≤ (35 + v_8397.toInt) ∧ (35 + v_8397.toInt) < 100 by omega)
                    rw [← ex_8595] at px_8595
                    have hx_8595 := PR.r_35 px_8595 (by omega)
                    refine pci (va_runS (As := [.int x_8593, .int x_8595]) (rest := []) ⟨hx, hb, hml, hown, hts⟩ (v_areBeside l D K x_8593 x_8595 H.size) (va_cwS 2 hts gX12_discords_X12_areBeside rfl rfl rfl (by decide +kernel) ⟨Nat.le_of_ble_eq_true rfl, Nat.le_of_ble_eq_true rfl⟩) (mkS hK hN (va_P.nil) (va_D.nil (A := fun _ => True))) rfl rfl hl.1 rfl (lv_room (Nat.le_of_ble_eq_true rfl)) dX12_discords_83 ⟨Nat.le_of_ble_eq_true rfl, Nat.le_of_ble_eq_true rfl⟩) (fun r_8596 hw => ?_)
                    obtain ⟨h_8597, -⟩ := hw
                    refine lv_if_eq (tgt := 121) hx hb dX12_discords_86 (by decide) (fun c_8598 => ?_) (fun c_8598 => ?_)
                    · have c_8598i := i_eq (x := r_8596.toInt) (y := 0) rfl rfl c_8598
                      exact j_8581 v_8398 v_8399 v_8400 v_8401 v_8402 f_8403 f_8404 (by omega) _ _ hP hD hS ls (lv_sub hl [0, 1, 2, 3] rfl)
                    · have c_8598i := i_ne (x := r_8596.toInt) (y := 0) rfl rfl c_8598
                      refine lv_iload_n hx hb dX12_discords_89 rfl (lv_at hl 2 rfl) ?_
                      refine lv_aload_n hx hb dX12_discords_90 rfl (lv_at hl 3 rfl) ?_
                      refine lv_aload_n hx hb dX12_discords_91 rfl (lv_at hl 3 rfl) ?_
                      refine va_get (ci := 12) (v := .ref w0) (C := RX12) (T := TX12) (N := 60) hx hb hts hw12 hown hK hP 0 rfl rfl 3 (by decide) (hts (.fieldLink RX12 13 "SmokeTuneModel" "row" "[I") (List.mem_cons_of_mem _ (List.mem_append_left _ (List.mem_append_left _ (List.mem_of_getElem? (i := 0) rfl))))) (fun _ h9 => h9) rfl dX12_discords_92 ?_
                      refine lv_iconst (v := 3) hx hb dX12_discords_95 (by decide) ?_
                      refine va_iald hx hb hK hP 1 0 rfl rfl (i_in (x := 3) rfl (by omega)) dX12_discords_96 ?_
                      refine lv_topi (fun x_8599 ex_8599 => ?_)
                      have px_8599 := RwOK.at zfw (show (3 : Int32).toInt = 3 from rfl) (show 0 ≤ 3 ∧ 3 < 100 by omega)
                      rw [← ex_8599] at px_8599
                      have hx_8599 := PR.r_3 px_8599 (by omega)
                      refine lv_iconst (v := 2) hx hb dX12_discords_97 (by decide) ?_
                      refine lv_iload_n hx hb dX12_discords_98 rfl (lv_at hl 1 rfl) ?_
                      refine lv_aload_n hx hb dX12_discords_99 rfl (lv_at hl 3 rfl) ?_
                      refine va_get (ci := 12) (v := .ref w0) (C := RX12) (T := TX12) (N := 60) hx hb hts hw12 hown hK hP 0 rfl rfl 3 (by decide) (hts (.fieldLink RX12 13 "SmokeTuneModel" "row" "[I") (List.mem_cons_of_mem _ (List.mem_append_left _ (List.mem_append_left _ (List.mem_of_getElem? (i := 0) rfl))))) (fun _ h9 => h9) rfl dX12_discords_100 ?_
                      refine lv_bipush (v := 35) hx hb dX12_discords_103 (by decide) ?_
                      refine lv_iload_n hx hb dX12_discords_105 rfl (lv_at hl 0 rfl) ?_
                      refine lv_iadd hx hb dX12_discords_106 ?_
                      refine lv_topi (fun x_8600 ex_8600 => ?_)
                      have hx_8600 : x_8600.toInt = (35 + v_8397.toInt) := by rw [ex_8600]; exact i_add (show (35 : Int32).toInt = 35 from rfl) rfl (by omega)
                      refine va_iald hx hb hK hP 1 0 rfl rfl (i_in hx_8600 (by omega)) dX12_discords_107 ?_
                      refine lv_topi (fun x_8601 ex_8601 => ?_)
                      have px_8601 := RwOK.at zfw hx_8600 (show 0 ≤ (35 + v_8397.toInt) ∧ (35 + v_8397.toInt) < 100 by omega)
                      rw [← ex_8601] at px_8601
                      have hx_8601 := PR.r_35 px_8601 (by omega)
                      refine lv_lconst (v := 1) hx hb dX12_discords_108 (by decide) ?_
                      refine kcl (S := Su) (wr := []) (va_runV (As := [.int x_8599, .int 2, .int v_7540, .int x_8601, .long 1]) (rest := [.int v_8398]) ⟨hx, hb, hml, hown, hts⟩ (v_tells l D K m0 x_8599 2 v_7540 x_8601 1 m_0 m_1 m_2 w0 m_4 m_5 m_6 m_7 m_8 m_9 m_10 m_11 m_12 m_13 m_14 m_15 m_16 m_17 m_18 m_19 m_21 m_22 m_23 m_24 m_25 m_26 m_27 m_28 m_29 m_30 m_31 m_32 m_33 v_8399 e0 m_36 q0 v_8400 v_8401 v_8402 m_41 m_42 m_43 m_44 m_45 m_46 m_47 m_48 m_49 m_50 m_51 m_52 m_53 m_54 m_55 m_56 m_57 m_58 m_59 fw f_8403 f_8404 H.size (by first | omega | decide) (by first | omega | decide) (by first | omega | decide) zfw) (cwV 5 hts gX12_discords_X12_tells rfl rfl rfl (by decide +kernel) ⟨Nat.le_of_ble_eq_true rfl, Nat.le_of_ble_eq_true rfl⟩) (mkV hK hN (hP.sub [0, 1, 2, 3] rfl) (hD.sub [0, 1, 2, 3] (by decide) rfl) (ci := 12) (q0 := 0) rfl rfl) rfl rfl hl.1 rfl (lv_room (Nat.le_of_ble_eq_true rfl)) dX12_discords_109 ⟨Nat.le_of_ble_eq_true rfl, Nat.le_of_ble_eq_true rfl⟩) hP hD hS hA [0, 1, 2, 3] [] rfl rfl (by decide) (by decide) (fun r_8602 u_8603 H locs hw hP hD hS => ?_)
                      have hP : va_P D vwCl [(m0, .inr (12, [m_0, m_1, m_2, .ref w0, m_4, m_5, m_6, m_7, m_8, m_9, m_10, m_11, m_12, m_13, m_14, m_15, m_16, m_17, m_18, m_19, .int 0, m_21, m_22, m_23, m_24, m_25, m_26, m_27, m_28, m_29, m_30, m_31, m_32, m_33, .int (u_8603.2.2.2.1 0), .ref e0, m_36, .ref q0, .int (u_8603.2.2.2.1 1), .long (u_8603.2.2.2.2.1 0), .long (u_8603.2.2.2.2.1 1), m_41, m_42, m_43, m_44, m_45, m_46, m_47, m_48, m_49, m_50, m_51, m_52, m_53, m_54, m_55, m_56, m_57, m_58, m_59])), (w0, .inl (K 0, 5500, .inl fw)), (e0, .inl (K 2, 13, .inr (.inl (u_8603.2.2.1 0)))), (q0, .inl (K 2, 400, .inr (.inl (u_8603.2.2.1 1))))] H := hP
                      have hD : va_D A [(m0, .inr (12, [m_0, m_1, m_2, .ref w0, m_4, m_5, m_6, m_7, m_8, m_9, m_10, m_11, m_12, m_13, m_14, m_15, m_16, m_17, m_18, m_19, .int 0, m_21, m_22, m_23, m_24, m_25, m_26, m_27, m_28, m_29, m_30, m_31, m_32, m_33, .int (u_8603.2.2.2.1 0), .ref e0, m_36, .ref q0, .int (u_8603.2.2.2.1 1), .long (u_8603.2.2.2.2.1 0), .long (u_8603.2.2.2.2.1 1), m_41, m_42, m_43, m_44, m_45, m_46, m_47, m_48, m_49, m_50, m_51, m_52, m_53, m_54, m_55, m_56, m_57, m_58, m_59])), (w0, .inl (K 0, 5500, .inl fw)), (e0, .inl (K 2, 13, .inr (.inl (u_8603.2.2.1 0)))), (q0, .inl (K 2, 400, .inr (.inl (u_8603.2.2.1 1))))] := hD
                      obtain ⟨k_8604, -⟩ := hw
                      refine lv_iconst (v := 0) hx hb dX12_discords_112 (by decide) ?_
                      refine lv_sipush (v := 999) hx hb dX12_discords_113 (by decide) ?_
                      refine pci (va_runS (As := [.long r_8602, .int 0, .int 999]) (rest := [.int v_8398]) ⟨hx, hb, hml, hown, hts⟩ (v_within_999 l D K r_8602 H.size) (va_cwS 3 hts gX12_discords_X12_within rfl rfl rfl (by decide +kernel) ⟨Nat.le_of_ble_eq_true rfl, Nat.le_of_ble_eq_true rfl⟩) (mkS hK hN (va_P.nil) (va_D.nil (A := fun _ => True))) rfl rfl hl.1 rfl (lv_room (Nat.le_of_ble_eq_true rfl)) dX12_discords_116 ⟨Nat.le_of_ble_eq_true rfl, Nat.le_of_ble_eq_true rfl⟩) (fun r_8605 hw => ?_)
                      obtain ⟨h_8606, -⟩ := hw
                      refine lv_iadd hx hb dX12_discords_119 ?_
                      refine lv_topi (fun x_8607 ex_8607 => ?_)
                      refine lv_istore_n (lv' := [(1, .int x_8607), (3, .int v_8397), (2, .int v_7540), (0, .ref m0)]) hx hb dX12_discords_120 rfl hl (by decide) rfl (fun ls hl => ?_)
                      exact j_8581 x_8607 (u_8603.2.2.2.1 0) (u_8603.2.2.2.1 1) (u_8603.2.2.2.2.1 0) (u_8603.2.2.2.2.1 1) (u_8603.2.2.1 0) (u_8603.2.2.1 1) (by omega) _ _ hP hD hS ls (lv_sub hl [1, 2, 0, 3] rfl)
        exact lp_8541 ((9 - (x_8260 : Int32).toInt : Int).toNat + 1) x_8260 v_7541 v_7542 v_7543 v_7544 v_7545 f_7546 f_7547 (by rw [hx_8260]; omega) (by omega) (Nat.lt_succ_self _) _ _ hP hD hS ls (lv_sub hl [0, 1, 2, 3] rfl)
  exact lp_8256 ((9 - (0 : Int32).toInt : Int).toNat + 1) 0 0 lw bro val sm fe frs (by decide) (by omega) (Nat.lt_succ_self _) _ _ hP hD hS ls (lv_sub hl [0, 1, 2] rfl)
set_option maxHeartbeats 4000000 in
set_option maxRecDepth 100000 in
theorem v_discord (l : Launch) (D : va_G) (K : Nat → ClassId) (m0 : Nat) (thr : Int32) (m_1 : Value) (m_2 : Value) (w0 : Nat) (m_4 : Value) (m_5 : Value) (m_6 : Value) (m_7 : Value) (m_8 : Value) (m_9 : Value) (m_10 : Value) (m_11 : Value) (m_12 : Value) (m_13 : Value) (m_14 : Value) (m_15 : Value) (m_16 : Value) (m_17 : Value) (m_18 : Value) (m_19 : Value) (m_21 : Value) (m_22 : Value) (m_23 : Value) (m_24 : Value) (m_25 : Value) (m_26 : Value) (m_27 : Value) (m_28 : Value) (m_29 : Value) (m_30 : Value) (m_31 : Value) (m_32 : Value) (m_33 : Value) (lw : Int32) (e0 : Nat) (m_36 : Value) (q0 : Nat) (bro : Int32) (val : Int64) (sm : Int64) (m_41 : Value) (m_42 : Value) (m_43 : Value) (m_44 : Value) (m_45 : Value) (m_46 : Value) (m_47 : Value) (m_48 : Value) (m_49 : Value) (m_50 : Value) (m_51 : Value) (m_52 : Value) (m_53 : Value) (m_54 : Value) (m_55 : Value) (m_56 : Value) (m_57 : Value) (m_58 : Value) (m_59 : Value) (fw : Nat → Int32) (fe : Nat → Int64) (frs : Nat → Int64) (sz : Nat) (zbro : 0 ≤ bro.toInt ∧ bro.toInt ≤ 1) (zfw : RwOK fw) : Met l yX12_discord wsX12_discord ({ frames := 5, cells := 0, slots := 0, locals := 125 }) (va_Pc [.ref m0] (Pre D K [(m0, .inr (12, [.int thr, m_1, m_2, .ref w0, m_4, m_5, m_6, m_7, m_8, m_9, m_10, m_11, m_12, m_13, m_14, m_15, m_16, m_17, m_18, m_19, .int 0, m_21, m_22, m_23, m_24, m_25, m_26, m_27, m_28, m_29, m_30, m_31, m_32, m_33, .int lw, .ref e0, m_36, .ref q0, .int bro, .long val, .long sm, m_41, m_42, m_43, m_44, m_45, m_46, m_47, m_48, m_49, m_50, m_51, m_52, m_53, m_54, m_55, m_56, m_57, m_58, m_59])), (w0, .inl (K 0, 5500, .inl fw)), (e0, .inl (K 2, 13, .inr (.inl fe))), (q0, .inl (K 2, 400, .inr (.inl frs)))] sz)) (va_Qi (S := Su) (fun (r : Int32) (u : Su) => (0 ≤ (u.2.2.2.1 1).toInt ∧ (u.2.2.2.1 1).toInt ≤ 1) ∧ True) (fun u t => Wd D (va_A [(m0, .inr (12, [.int thr, m_1, m_2, .ref w0, m_4, m_5, m_6, m_7, m_8, m_9, m_10, m_11, m_12, m_13, m_14, m_15, m_16, m_17, m_18, m_19, .int 0, m_21, m_22, m_23, m_24, m_25, m_26, m_27, m_28, m_29, m_30, m_31, m_32, m_33, .int lw, .ref e0, m_36, .ref q0, .int bro, .long val, .long sm, m_41, m_42, m_43, m_44, m_45, m_46, m_47, m_48, m_49, m_50, m_51, m_52, m_53, m_54, m_55, m_56, m_57, m_58, m_59])), (w0, .inl (K 0, 5500, .inl fw)), (e0, .inl (K 2, 13, .inr (.inl fe))), (q0, .inl (K 2, 400, .inr (.inl frs)))] sz) ((fun u => [(m0, .inr (12, [.int 0, m_1, m_2, .ref w0, m_4, m_5, m_6, m_7, m_8, m_9, m_10, m_11, m_12, m_13, m_14, m_15, m_16, m_17, m_18, m_19, .int 0, m_21, m_22, m_23, m_24, m_25, m_26, m_27, m_28, m_29, m_30, m_31, m_32, m_33, .int (u.2.2.2.1 0), .ref e0, m_36, .ref q0, .int (u.2.2.2.1 1), .long (u.2.2.2.2.1 0), .long (u.2.2.2.2.1 1), m_41, m_42, m_43, m_44, m_45, m_46, m_47, m_48, m_49, m_50, m_51, m_52, m_53, m_54, m_55, m_56, m_57, m_58, m_59])), (w0, .inl (K 0, 5500, .inl fw)), (e0, .inl (K 2, 13, .inr (.inl (u.2.2.1 0)))), (q0, .inl (K 2, 400, .inr (.inl (u.2.2.1 1))))]) u) t) (va_A [(m0, .inr (12, [.int thr, m_1, m_2, .ref w0, m_4, m_5, m_6, m_7, m_8, m_9, m_10, m_11, m_12, m_13, m_14, m_15, m_16, m_17, m_18, m_19, .int 0, m_21, m_22, m_23, m_24, m_25, m_26, m_27, m_28, m_29, m_30, m_31, m_32, m_33, .int lw, .ref e0, m_36, .ref q0, .int bro, .long val, .long sm, m_41, m_42, m_43, m_44, m_45, m_46, m_47, m_48, m_49, m_50, m_51, m_52, m_53, m_54, m_55, m_56, m_57, m_58, m_59])), (w0, .inl (K 0, 5500, .inl fw)), (e0, .inl (K 2, 13, .inr (.inl fe))), (q0, .inl (K 2, 400, .inr (.inl frs)))] sz)) 0 0 (va_A [(m0, .inr (12, [.int thr, m_1, m_2, .ref w0, m_4, m_5, m_6, m_7, m_8, m_9, m_10, m_11, m_12, m_13, m_14, m_15, m_16, m_17, m_18, m_19, .int 0, m_21, m_22, m_23, m_24, m_25, m_26, m_27, m_28, m_29, m_30, m_31, m_32, m_33, .int lw, .ref e0, m_36, .ref q0, .int bro, .long val, .long sm, m_41, m_42, m_43, m_44, m_45, m_46, m_47, m_48, m_49, m_50, m_51, m_52, m_53, m_54, m_55, m_56, m_57, m_58, m_59])), (w0, .inl (K 0, 5500, .inl fw)), (e0, .inl (K 2, 13, .inr (.inl fe))), (q0, .inl (K 2, 400, .inr (.inl frs)))] sz) := by
  refine Met.ofW (cc := cX12_discord) (maxL := 1) (ret := (some .int)) (by decide) rfl ?_
  intro p e s m args below meth c s₁ B hml hv
  obtain ⟨rfl, hsz, hP, hK, hD0, hN⟩ := hv
  have hx := B.exec
  have hb := B.bytes
  have hr := B.returns
  have hts := atoms_spec (ws := wsX12_discord) B.pre
  have hown : s.vm.findClass RX12 = some m.cls := findClass_of_methodNamed B.named
  have hlocks := B.notSynchronized
  subst hsz
  have hD := hD0.self (sz := s.heap.size)
  generalize hAe : va_A [(m0, .inr (12, [.int thr, m_1, m_2, .ref w0, m_4, m_5, m_6, m_7, m_8, m_9, m_10, m_11, m_12, m_13, m_14, m_15, m_16, m_17, m_18, m_19, .int 0, m_21, m_22, m_23, m_24, m_25, m_26, m_27, m_28, m_29, m_30, m_31, m_32, m_33, .int lw, .ref e0, m_36, .ref q0, .int bro, .long val, .long sm, m_41, m_42, m_43, m_44, m_45, m_46, m_47, m_48, m_49, m_50, m_51, m_52, m_53, m_54, m_55, m_56, m_57, m_58, m_59])), (w0, .inl (K 0, 5500, .inl fw)), (e0, .inl (K 2, 13, .inr (.inl fe))), (q0, .inl (K 2, 400, .inr (.inl frs)))] s.heap.size = A at hD ⊢
  have hA : ∀ q : Nat, s.heap.size ≤ q → A q := fun q h => by rw [← hAe]; exact Or.inr h
  have hS : va_S A s.heap s.heap [] := va_S.rf
  have hP : va_P D vwCl [(m0, .inr (12, [.int thr, m_1, m_2, .ref w0, m_4, m_5, m_6, m_7, m_8, m_9, m_10, m_11, m_12, m_13, m_14, m_15, m_16, m_17, m_18, m_19, .int 0, m_21, m_22, m_23, m_24, m_25, m_26, m_27, m_28, m_29, m_30, m_31, m_32, m_33, .int lw, .ref e0, m_36, .ref q0, .int bro, .long val, .long sm, m_41, m_42, m_43, m_44, m_45, m_46, m_47, m_48, m_49, m_50, m_51, m_52, m_53, m_54, m_55, m_56, m_57, m_58, m_59])), (w0, .inl (K 0, 5500, .inl fw)), (e0, .inl (K 2, 13, .inr (.inl fe))), (q0, .inl (K 2, 400, .inr (.inl frs)))] s.heap := hP
  have hl := lv_entry [.ref m0] (n := 1) (Nat.le_of_ble_eq_true rfl)
  rw [lg_entry_eq]
  generalize (lg_sl [.ref m0] ++ List.replicate (1 - (lg_sl [.ref m0]).length) Slot.unset).toArray = ls at hl ⊢
  have hl : lv_has ls 1 [(0, .ref m0)] := hl
  have hw12 : ∀ w ∈ wsX120, w ∈ wsX12_discord := fun w h => (List.mem_cons_of_mem _ (List.mem_append_right _ h))
  generalize hQ : MQ below _ _ s _ _ _ = Q
  refine lv_aload_n hx hb dX12_discord_0 rfl (lv_at hl 0 rfl) ?_
  refine lv_iconst (v := 0) hx hb dX12_discord_1 (by decide) ?_
  refine va_put (ci := 12) (v := .int 0) (ty := .int) (C := RX12) (T := TX12) (N := 60) hx hb hts hw12 tyX12 tyX12_ok nmX12 hown hK hP hD hS 0 rfl rfl 0 (by decide) (hts (.fieldLink RX12 158 "SmokeTuneModel" "thrown" "I") (List.mem_cons_of_mem _ (List.mem_append_left _ (List.mem_append_left _ (List.mem_of_getElem? (i := 0) rfl))))) (fun _ h9 => h9) rfl (by decide +kernel) (by first | rfl | decide) (by first | rfl | decide) (Nat.le_of_ble_eq_true rfl) dX12_discord_2 (fun H locs hP hD hS => ?_)
  have hP : va_P D vwCl [(m0, .inr (12, [.int 0, m_1, m_2, .ref w0, m_4, m_5, m_6, m_7, m_8, m_9, m_10, m_11, m_12, m_13, m_14, m_15, m_16, m_17, m_18, m_19, .int 0, m_21, m_22, m_23, m_24, m_25, m_26, m_27, m_28, m_29, m_30, m_31, m_32, m_33, .int lw, .ref e0, m_36, .ref q0, .int bro, .long val, .long sm, m_41, m_42, m_43, m_44, m_45, m_46, m_47, m_48, m_49, m_50, m_51, m_52, m_53, m_54, m_55, m_56, m_57, m_58, m_59])), (w0, .inl (K 0, 5500, .inl fw)), (e0, .inl (K 2, 13, .inr (.inl fe))), (q0, .inl (K 2, 400, .inr (.inl frs)))] H := hP
  have hD : va_D A [(m0, .inr (12, [.int 0, m_1, m_2, .ref w0, m_4, m_5, m_6, m_7, m_8, m_9, m_10, m_11, m_12, m_13, m_14, m_15, m_16, m_17, m_18, m_19, .int 0, m_21, m_22, m_23, m_24, m_25, m_26, m_27, m_28, m_29, m_30, m_31, m_32, m_33, .int lw, .ref e0, m_36, .ref q0, .int bro, .long val, .long sm, m_41, m_42, m_43, m_44, m_45, m_46, m_47, m_48, m_49, m_50, m_51, m_52, m_53, m_54, m_55, m_56, m_57, m_58, m_59])), (w0, .inl (K 0, 5500, .inl fw)), (e0, .inl (K 2, 13, .inr (.inl fe))), (q0, .inl (K 2, 400, .inr (.inl frs)))] := hD
  refine lv_aload_n hx hb dX12_discord_5 rfl (lv_at hl 0 rfl) ?_
  refine kci (S := Su) (wr := []) (va_runV (As := []) (rest := []) ⟨hx, hb, hml, hown, hts⟩ (v_discords l D K m0 (.int 0) m_1 m_2 w0 m_4 m_5 m_6 m_7 m_8 m_9 m_10 m_11 m_12 m_13 m_14 m_15 m_16 m_17 m_18 m_19 m_21 m_22 m_23 m_24 m_25 m_26 m_27 m_28 m_29 m_30 m_31 m_32 m_33 lw e0 m_36 q0 bro val sm m_41 m_42 m_43 m_44 m_45 m_46 m_47 m_48 m_49 m_50 m_51 m_52 m_53 m_54 m_55 m_56 m_57 m_58 m_59 fw fe frs H.size (by first | omega | decide) zfw) (cwV 0 hts gX12_discord_X12_discords rfl rfl rfl (by decide +kernel) ⟨Nat.le_of_ble_eq_true rfl, Nat.le_of_ble_eq_true rfl⟩) (mkV hK hN (hP.sub [0, 1, 2, 3] rfl) (hD.sub [0, 1, 2, 3] (by decide) rfl) (ci := 12) (q0 := 0) rfl rfl) rfl rfl hl.1 rfl (lv_room (Nat.le_of_ble_eq_true rfl)) dX12_discord_6 ⟨Nat.le_of_ble_eq_true rfl, Nat.le_of_ble_eq_true rfl⟩) hP hD hS hA [0, 1, 2, 3] [] rfl rfl (by decide) (by decide) (fun r_67 u_68 H locs hw hP hD hS => ?_)
  have hP : va_P D vwCl [(m0, .inr (12, [.int 0, m_1, m_2, .ref w0, m_4, m_5, m_6, m_7, m_8, m_9, m_10, m_11, m_12, m_13, m_14, m_15, m_16, m_17, m_18, m_19, .int 0, m_21, m_22, m_23, m_24, m_25, m_26, m_27, m_28, m_29, m_30, m_31, m_32, m_33, .int (u_68.2.2.2.1 0), .ref e0, m_36, .ref q0, .int (u_68.2.2.2.1 1), .long (u_68.2.2.2.2.1 0), .long (u_68.2.2.2.2.1 1), m_41, m_42, m_43, m_44, m_45, m_46, m_47, m_48, m_49, m_50, m_51, m_52, m_53, m_54, m_55, m_56, m_57, m_58, m_59])), (w0, .inl (K 0, 5500, .inl fw)), (e0, .inl (K 2, 13, .inr (.inl (u_68.2.2.1 0)))), (q0, .inl (K 2, 400, .inr (.inl (u_68.2.2.1 1))))] H := hP
  have hD : va_D A [(m0, .inr (12, [.int 0, m_1, m_2, .ref w0, m_4, m_5, m_6, m_7, m_8, m_9, m_10, m_11, m_12, m_13, m_14, m_15, m_16, m_17, m_18, m_19, .int 0, m_21, m_22, m_23, m_24, m_25, m_26, m_27, m_28, m_29, m_30, m_31, m_32, m_33, .int (u_68.2.2.2.1 0), .ref e0, m_36, .ref q0, .int (u_68.2.2.2.1 1), .long (u_68.2.2.2.2.1 0), .long (u_68.2.2.2.2.1 1), m_41, m_42, m_43, m_44, m_45, m_46, m_47, m_48, m_49, m_50, m_51, m_52, m_53, m_54, m_55, m_56, m_57, m_58, m_59])), (w0, .inl (K 0, 5500, .inl fw)), (e0, .inl (K 2, 13, .inr (.inl (u_68.2.2.1 0)))), (q0, .inl (K 2, 400, .inr (.inl (u_68.2.2.1 1))))] := hD
  obtain ⟨k_69, -⟩ := hw
  rw [← hQ]
  have hP9 := hP.sub (ws' := [(m0, .inr (12, [.int 0, m_1, m_2, .ref w0, m_4, m_5, m_6, m_7, m_8, m_9, m_10, m_11, m_12, m_13, m_14, m_15, m_16, m_17, m_18, m_19, .int 0, m_21, m_22, m_23, m_24, m_25, m_26, m_27, m_28, m_29, m_30, m_31, m_32, m_33, .int (u_68.2.2.2.1 0), .ref e0, m_36, .ref q0, .int (u_68.2.2.2.1 1), .long (u_68.2.2.2.2.1 0), .long (u_68.2.2.2.2.1 1), m_41, m_42, m_43, m_44, m_45, m_46, m_47, m_48, m_49, m_50, m_51, m_52, m_53, m_54, m_55, m_56, m_57, m_58, m_59])), (w0, .inl (K 0, 5500, .inl fw)), (e0, .inl (K 2, 13, .inr (.inl (u_68.2.2.1 0)))), (q0, .inl (K 2, 400, .inr (.inl (u_68.2.2.1 1))))]) [0, 1, 2, 3] rfl
  have hD9 := hD.sub (ws' := [(m0, .inr (12, [.int 0, m_1, m_2, .ref w0, m_4, m_5, m_6, m_7, m_8, m_9, m_10, m_11, m_12, m_13, m_14, m_15, m_16, m_17, m_18, m_19, .int 0, m_21, m_22, m_23, m_24, m_25, m_26, m_27, m_28, m_29, m_30, m_31, m_32, m_33, .int (u_68.2.2.2.1 0), .ref e0, m_36, .ref q0, .int (u_68.2.2.2.1 1), .long (u_68.2.2.2.2.1 0), .long (u_68.2.2.2.2.1 1), m_41, m_42, m_43, m_44, m_45, m_46, m_47, m_48, m_49, m_50, m_51, m_52, m_53, m_54, m_55, m_56, m_57, m_58, m_59])), (w0, .inl (K 0, 5500, .inl fw)), (e0, .inl (K 2, 13, .inr (.inl (u_68.2.2.1 0)))), (q0, .inl (K 2, 400, .inr (.inl (u_68.2.2.1 1))))]) [0, 1, 2, 3] (by decide) rfl
  exact W.iret (v := r_67) hx hb hr (fun t ht hW => ⟨⟨r_67, ((fun _ => 0, fun _ => fun _ => 0, fun i => match i with | 0 => (u_68.2.2.1 0) | _ => (u_68.2.2.1 1), fun i => match i with | 0 => (u_68.2.2.2.1 0) | _ => (u_68.2.2.2.1 1), fun i => match i with | 0 => (u_68.2.2.2.2.1 0) | _ => (u_68.2.2.2.2.1 1), fun _ => fun _ => none) : Su), rfl, ⟨(show 0 ≤ ((u_68.2.2.2.1 1) : Int32).toInt ∧ ((u_68.2.2.2.1 1) : Int32).toInt ≤ 1 by omega), trivial⟩, (⟨by rw [ht]; exact hP9, hD9⟩ : Wd D A _ t)⟩, hS.F ht⟩) hS.2.2 dX12_discord_9
set_option maxHeartbeats 4000000 in
set_option maxRecDepth 100000 in
theorem v_isMet (l : Launch) (D : va_G) (K : Nat → ClassId) (m0 : Nat) (m_0 : Value) (m_1 : Value) (m_2 : Value) (w0 : Nat) (m_4 : Value) (m_5 : Value) (m_6 : Value) (m_7 : Value) (m_8 : Value) (m_9 : Value) (m_10 : Value) (m_11 : Value) (m_12 : Value) (m_13 : Value) (m_14 : Value) (m_15 : Value) (m_16 : Value) (m_17 : Value) (m_18 : Value) (m_19 : Value) (m_20 : Value) (m_21 : Value) (m_22 : Value) (m_23 : Value) (m_24 : Value) (m_25 : Value) (m_26 : Value) (m_27 : Value) (m_28 : Value) (m_29 : Value) (m_30 : Value) (m_31 : Value) (m_32 : Value) (m_33 : Value) (m_34 : Value) (m_35 : Value) (m_36 : Value) (m_37 : Value) (m_38 : Value) (m_39 : Value) (m_40 : Value) (m_41 : Value) (m_42 : Value) (m_43 : Value) (m_44 : Value) (m_45 : Value) (m_46 : Value) (m_47 : Value) (m_48 : Value) (m_49 : Value) (m_50 : Value) (m_51 : Value) (m_52 : Value) (m_53 : Value) (m_54 : Value) (m_55 : Value) (m_56 : Value) (m_57 : Value) (m_58 : Value) (m_59 : Value) (fw : Nat → Int32) (sz : Nat) (zfw : RwOK fw) : Met l yX12_isMet wsX12_isMet ({ frames := 3, cells := 0, slots := 0, locals := 68 }) (va_Pc [.ref m0] (Pre D K [(m0, .inr (12, [m_0, m_1, m_2, .ref w0, m_4, m_5, m_6, m_7, m_8, m_9, m_10, m_11, m_12, m_13, m_14, m_15, m_16, m_17, m_18, m_19, m_20, m_21, m_22, m_23, m_24, m_25, m_26, m_27, m_28, m_29, m_30, m_31, m_32, m_33, m_34, m_35, m_36, m_37, m_38, m_39, m_40, m_41, m_42, m_43, m_44, m_45, m_46, m_47, m_48, m_49, m_50, m_51, m_52, m_53, m_54, m_55, m_56, m_57, m_58, m_59])), (w0, .inl (K 0, 5500, .inl fw))] sz)) (vp_Si (fun r : Int32 => (0 ≤ r.toInt ∧ r.toInt ≤ 1) ∧ True)) 0 0 (fun _ => False) := by
  refine Met.ofW (cc := cX12_isMet) (maxL := 1) (ret := (some .boolean)) (by decide) rfl ?_
  intro p e s m args below meth c s₁ B hml hv
  obtain ⟨rfl, hsz, hP, hK, hD0, hN⟩ := hv
  have hx := B.exec
  have hb := B.bytes
  have hr := B.returns
  have hts := atoms_spec (ws := wsX12_isMet) B.pre
  have hown : s.vm.findClass RX12 = some m.cls := findClass_of_methodNamed B.named
  have hlocks := B.notSynchronized
  subst hsz
  have hD := hD0
  have hP : va_P D vwCl [(m0, .inr (12, [m_0, m_1, m_2, .ref w0, m_4, m_5, m_6, m_7, m_8, m_9, m_10, m_11, m_12, m_13, m_14, m_15, m_16, m_17, m_18, m_19, m_20, m_21, m_22, m_23, m_24, m_25, m_26, m_27, m_28, m_29, m_30, m_31, m_32, m_33, m_34, m_35, m_36, m_37, m_38, m_39, m_40, m_41, m_42, m_43, m_44, m_45, m_46, m_47, m_48, m_49, m_50, m_51, m_52, m_53, m_54, m_55, m_56, m_57, m_58, m_59])), (w0, .inl (K 0, 5500, .inl fw))] s.heap := hP
  have hl := lv_entry [.ref m0] (n := 1) (Nat.le_of_ble_eq_true rfl)
  rw [lg_entry_eq]
  generalize (lg_sl [.ref m0] ++ List.replicate (1 - (lg_sl [.ref m0]).length) Slot.unset).toArray = ls at hl ⊢
  have hl : lv_has ls 1 [(0, .ref m0)] := hl
  have hw12 : ∀ w ∈ wsX120, w ∈ wsX12_isMet := fun w h => (List.mem_cons_of_mem _ (List.mem_append_right _ h))
  generalize hQ : MQ below _ _ s _ _ _ = Q
  refine lv_aload_n hx hb dX12_isMet_0 rfl (lv_at hl 0 rfl) ?_
  refine va_get (ci := 12) (v := .ref w0) (C := RX12) (T := TX12) (N := 60) hx hb hts hw12 hown hK hP 0 rfl rfl 3 (by decide) (hts (.fieldLink RX12 13 "SmokeTuneModel" "row" "[I") (List.mem_cons_of_mem _ (List.mem_append_left _ (List.mem_of_getElem? (i := 0) rfl)))) (fun _ h9 => h9) rfl dX12_isMet_1 ?_
  refine lv_bipush (v := 67) hx hb dX12_isMet_4 (by decide) ?_
  refine lv_aload_n hx hb dX12_isMet_6 rfl (lv_at hl 0 rfl) ?_
  refine lv_iconst (v := 0) hx hb dX12_isMet_7 (by decide) ?_
  refine pci (va_runV (As := [.int 0]) (rest := [.int 67, .ref w0]) ⟨hx, hb, hml, hown, hts⟩ (v_term_0 l D K m0 m_0 m_1 m_2 w0 m_4 m_5 m_6 m_7 m_8 m_9 m_10 m_11 m_12 m_13 m_14 m_15 m_16 m_17 m_18 m_19 m_20 m_21 m_22 m_23 m_24 m_25 m_26 m_27 m_28 m_29 m_30 m_31 m_32 m_33 m_34 m_35 m_36 m_37 m_38 m_39 m_40 m_41 m_42 m_43 m_44 m_45 m_46 m_47 m_48 m_49 m_50 m_51 m_52 m_53 m_54 m_55 m_56 m_57 m_58 m_59 fw s.heap.size zfw) (cwV 1 hts gX12_isMet_X12_term rfl rfl rfl (by decide +kernel) ⟨Nat.le_of_ble_eq_true rfl, Nat.le_of_ble_eq_true rfl⟩) (mkV hK hN (hP.sub [0, 1] rfl) (hD.sub [0, 1] (by decide) rfl) (ci := 12) (q0 := 0) rfl rfl) rfl rfl hl.1 rfl (lv_room (Nat.le_of_ble_eq_true rfl)) dX12_isMet_8 ⟨Nat.le_of_ble_eq_true rfl, Nat.le_of_ble_eq_true rfl⟩) (fun r_79 hw => ?_)
  obtain ⟨h_80, -⟩ := hw
  refine lv_iadd hx hb dX12_isMet_11 ?_
  refine lv_topi (fun x_81 ex_81 => ?_)
  have hx_81 : x_81.toInt = (67 + r_79.toInt) := by rw [ex_81]; exact i_add (show (67 : Int32).toInt = 67 from rfl) rfl (by omega)
  refine va_iald hx hb hK hP 1 0 rfl rfl (i_in hx_81 (by omega)) dX12_isMet_12 ?_
  refine lv_topi (fun x_82 ex_82 => ?_)
  have px_82 := RwOK.at zfw hx_81 (show 0 ≤ (67 + r_79.toInt) ∧ (67 + r_79.toInt) < 100 by omega)
  rw [← ex_82] at px_82
  refine lv_aload_n hx hb dX12_isMet_13 rfl (lv_at hl 0 rfl) ?_
  refine pci (va_runV (As := []) (rest := [.int x_82]) ⟨hx, hb, hml, hown, hts⟩ (v_soundingNotes l D K m0 m_0 m_1 m_2 w0 m_4 m_5 m_6 m_7 m_8 m_9 m_10 m_11 m_12 m_13 m_14 m_15 m_16 m_17 m_18 m_19 m_20 m_21 m_22 m_23 m_24 m_25 m_26 m_27 m_28 m_29 m_30 m_31 m_32 m_33 m_34 m_35 m_36 m_37 m_38 m_39 m_40 m_41 m_42 m_43 m_44 m_45 m_46 m_47 m_48 m_49 m_50 m_51 m_52 m_53 m_54 m_55 m_56 m_57 m_58 m_59 fw s.heap.size zfw) (cwV 0 hts gX12_isMet_X12_soundingNotes rfl rfl rfl (by decide +kernel) ⟨Nat.le_of_ble_eq_true rfl, Nat.le_of_ble_eq_true rfl⟩) (mkV hK hN (hP.sub [0, 1] rfl) (hD.sub [0, 1] (by decide) rfl) (ci := 12) (q0 := 0) rfl rfl) rfl rfl hl.1 rfl (lv_room (Nat.le_of_ble_eq_true rfl)) dX12_isMet_14 ⟨Nat.le_of_ble_eq_true rfl, Nat.le_of_ble_eq_true rfl⟩) (fun r_83 hw => ?_)
  obtain ⟨h_84, -⟩ := hw
  refine lv_iconst (v := (-1)) hx hb dX12_isMet_17 (by decide) ?_
  refine lv_ixor hx hb dX12_isMet_18 ?_
  refine lv_topi (fun x_85 ex_85 => ?_)
  refine lv_iand hx hb dX12_isMet_19 ?_
  refine lv_topi (fun x_86 ex_86 => ?_)
  refine lv_if_ne (tgt := 27) hx hb dX12_isMet_20 (by decide) (fun c_87 => ?_) (fun c_87 => ?_)
  · have c_87i := i_ne (x := x_86.toInt) (y := 0) rfl rfl c_87
    refine lv_iconst (v := 0) hx hb dX12_isMet_27 (by decide) ?_
    rw [← hQ]
    exact W.zret (v := 0) hx hb hr (by decide) (fun t ht hW => ⟨_, rfl, ⟨(show 0 ≤ (0 : Int32).toInt ∧ (0 : Int32).toInt ≤ 1 by decide), trivial⟩, ht⟩) (fun q hq => by cases hq) dX12_isMet_28
  · have c_87i := i_eq (x := x_86.toInt) (y := 0) rfl rfl c_87
    refine lv_iconst (v := 1) hx hb dX12_isMet_23 (by decide) ?_
    refine lv_goto (tgt := 28) hx hb dX12_isMet_24 (by decide) ?_
    rw [← hQ]
    exact W.zret (v := 1) hx hb hr (by decide) (fun t ht hW => ⟨_, rfl, ⟨(show 0 ≤ (1 : Int32).toInt ∧ (1 : Int32).toInt ≤ 1 by decide), trivial⟩, ht⟩) (fun q hq => by cases hq) dX12_isMet_28
set_option maxHeartbeats 4000000 in
set_option maxRecDepth 100000 in
theorem v_sounds (l : Launch) (D : va_G) (K : Nat → ClassId) (m0 : Nat) (x : Int32) (thr : Int32) (m_1 : Value) (m_2 : Value) (w0 : Nat) (m_4 : Value) (m_5 : Value) (m_6 : Value) (m_7 : Value) (m_8 : Value) (m_9 : Value) (m_10 : Value) (m_11 : Value) (m_12 : Value) (m_13 : Value) (m_14 : Value) (m_15 : Value) (m_16 : Value) (m_17 : Value) (m_18 : Value) (m_19 : Value) (m_20 : Value) (m_21 : Value) (m_22 : Value) (m_23 : Value) (m_24 : Value) (m_25 : Value) (m_26 : Value) (m_27 : Value) (m_28 : Value) (m_29 : Value) (m_30 : Value) (m_31 : Value) (m_32 : Value) (m_33 : Value) (m_34 : Value) (m_35 : Value) (m_36 : Value) (m_37 : Value) (m_38 : Value) (m_39 : Value) (m_40 : Value) (m_41 : Value) (m_42 : Value) (m_43 : Value) (m_44 : Value) (m_45 : Value) (m_46 : Value) (m_47 : Value) (m_48 : Value) (m_49 : Value) (m_50 : Value) (m_51 : Value) (m_52 : Value) (m_53 : Value) (m_54 : Value) (m_55 : Value) (m_56 : Value) (m_57 : Value) (m_58 : Value) (m_59 : Value) (fw : Nat → Int32) (sz : Nat) (zfw : RwOK fw) : Met l yX12_sounds wsX12_sounds ({ frames := 4, cells := 0, slots := 0, locals := 88 }) (va_Pc [.ref m0, .int x] (Pre D K [(m0, .inr (12, [.int thr, m_1, m_2, .ref w0, m_4, m_5, m_6, m_7, m_8, m_9, m_10, m_11, m_12, m_13, m_14, m_15, m_16, m_17, m_18, m_19, m_20, m_21, m_22, m_23, m_24, m_25, m_26, m_27, m_28, m_29, m_30, m_31, m_32, m_33, m_34, m_35, m_36, m_37, m_38, m_39, m_40, m_41, m_42, m_43, m_44, m_45, m_46, m_47, m_48, m_49, m_50, m_51, m_52, m_53, m_54, m_55, m_56, m_57, m_58, m_59])), (w0, .inl (K 0, 5500, .inl fw))] sz)) (va_Qi (S := Su) (fun (r : Int32) (u : Su) => True) (fun u t => Wd D (va_A [(m0, .inr (12, [.int thr, m_1, m_2, .ref w0, m_4, m_5, m_6, m_7, m_8, m_9, m_10, m_11, m_12, m_13, m_14, m_15, m_16, m_17, m_18, m_19, m_20, m_21, m_22, m_23, m_24, m_25, m_26, m_27, m_28, m_29, m_30, m_31, m_32, m_33, m_34, m_35, m_36, m_37, m_38, m_39, m_40, m_41, m_42, m_43, m_44, m_45, m_46, m_47, m_48, m_49, m_50, m_51, m_52, m_53, m_54, m_55, m_56, m_57, m_58, m_59])), (w0, .inl (K 0, 5500, .inl fw))] sz) ((fun u => [(m0, .inr (12, [.int 0, m_1, m_2, .ref w0, m_4, m_5, m_6, m_7, m_8, m_9, m_10, m_11, m_12, m_13, m_14, m_15, m_16, m_17, m_18, m_19, m_20, m_21, m_22, m_23, m_24, m_25, m_26, m_27, m_28, m_29, m_30, m_31, m_32, m_33, m_34, m_35, m_36, m_37, m_38, m_39, m_40, m_41, m_42, m_43, m_44, m_45, m_46, m_47, m_48, m_49, m_50, m_51, m_52, m_53, m_54, m_55, m_56, m_57, m_58, m_59])), (w0, .inl (K 0, 5500, .inl fw))]) u) t) (va_A [(m0, .inr (12, [.int thr, m_1, m_2, .ref w0, m_4, m_5, m_6, m_7, m_8, m_9, m_10, m_11, m_12, m_13, m_14, m_15, m_16, m_17, m_18, m_19, m_20, m_21, m_22, m_23, m_24, m_25, m_26, m_27, m_28, m_29, m_30, m_31, m_32, m_33, m_34, m_35, m_36, m_37, m_38, m_39, m_40, m_41, m_42, m_43, m_44, m_45, m_46, m_47, m_48, m_49, m_50, m_51, m_52, m_53, m_54, m_55, m_56, m_57, m_58, m_59])), (w0, .inl (K 0, 5500, .inl fw))] sz)) 0 0 (va_A [(m0, .inr (12, [.int thr, m_1, m_2, .ref w0, m_4, m_5, m_6, m_7, m_8, m_9, m_10, m_11, m_12, m_13, m_14, m_15, m_16, m_17, m_18, m_19, m_20, m_21, m_22, m_23, m_24, m_25, m_26, m_27, m_28, m_29, m_30, m_31, m_32, m_33, m_34, m_35, m_36, m_37, m_38, m_39, m_40, m_41, m_42, m_43, m_44, m_45, m_46, m_47, m_48, m_49, m_50, m_51, m_52, m_53, m_54, m_55, m_56, m_57, m_58, m_59])), (w0, .inl (K 0, 5500, .inl fw))] sz) := by
  refine Met.ofW (cc := cX12_sounds) (maxL := 5) (ret := (some .int)) (by decide) rfl ?_
  intro p e s m args below meth c s₁ B hml hv
  obtain ⟨rfl, hsz, hP, hK, hD0, hN⟩ := hv
  have hx := B.exec
  have hb := B.bytes
  have hr := B.returns
  have hts := atoms_spec (ws := wsX12_sounds) B.pre
  have hown : s.vm.findClass RX12 = some m.cls := findClass_of_methodNamed B.named
  have hlocks := B.notSynchronized
  subst hsz
  have hD := hD0.self (sz := s.heap.size)
  generalize hAe : va_A [(m0, .inr (12, [.int thr, m_1, m_2, .ref w0, m_4, m_5, m_6, m_7, m_8, m_9, m_10, m_11, m_12, m_13, m_14, m_15, m_16, m_17, m_18, m_19, m_20, m_21, m_22, m_23, m_24, m_25, m_26, m_27, m_28, m_29, m_30, m_31, m_32, m_33, m_34, m_35, m_36, m_37, m_38, m_39, m_40, m_41, m_42, m_43, m_44, m_45, m_46, m_47, m_48, m_49, m_50, m_51, m_52, m_53, m_54, m_55, m_56, m_57, m_58, m_59])), (w0, .inl (K 0, 5500, .inl fw))] s.heap.size = A at hD ⊢
  have hA : ∀ q : Nat, s.heap.size ≤ q → A q := fun q h => by rw [← hAe]; exact Or.inr h
  have hS : va_S A s.heap s.heap [] := va_S.rf
  have hP : va_P D vwCl [(m0, .inr (12, [.int thr, m_1, m_2, .ref w0, m_4, m_5, m_6, m_7, m_8, m_9, m_10, m_11, m_12, m_13, m_14, m_15, m_16, m_17, m_18, m_19, m_20, m_21, m_22, m_23, m_24, m_25, m_26, m_27, m_28, m_29, m_30, m_31, m_32, m_33, m_34, m_35, m_36, m_37, m_38, m_39, m_40, m_41, m_42, m_43, m_44, m_45, m_46, m_47, m_48, m_49, m_50, m_51, m_52, m_53, m_54, m_55, m_56, m_57, m_58, m_59])), (w0, .inl (K 0, 5500, .inl fw))] s.heap := hP
  have hl := lv_entry [.ref m0, .int x] (n := 5) (Nat.le_of_ble_eq_true rfl)
  rw [lg_entry_eq]
  generalize (lg_sl [.ref m0, .int x] ++ List.replicate (5 - (lg_sl [.ref m0, .int x]).length) Slot.unset).toArray = ls at hl ⊢
  have hl : lv_has ls 5 [(0, .ref m0), (1, .int x)] := hl
  have hw12 : ∀ w ∈ wsX120, w ∈ wsX12_sounds := fun w h => (List.mem_cons_of_mem _ (List.mem_append_right _ h))
  generalize hQ : MQ below _ _ s _ _ _ = Q
  refine lv_aload_n hx hb dX12_sounds_0 rfl (lv_at hl 0 rfl) ?_
  refine lv_iconst (v := 0) hx hb dX12_sounds_1 (by decide) ?_
  refine va_put (ci := 12) (v := .int 0) (ty := .int) (C := RX12) (T := TX12) (N := 60) hx hb hts hw12 tyX12 tyX12_ok nmX12 hown hK hP hD hS 0 rfl rfl 0 (by decide) (hts (.fieldLink RX12 158 "SmokeTuneModel" "thrown" "I") (List.mem_cons_of_mem _ (List.mem_append_left _ (List.mem_append_left _ (List.mem_of_getElem? (i := 0) rfl))))) (fun _ h9 => h9) rfl (by decide +kernel) (by first | rfl | decide) (by first | rfl | decide) (Nat.le_of_ble_eq_true rfl) dX12_sounds_2 (fun H locs hP hD hS => ?_)
  have hP : va_P D vwCl [(m0, .inr (12, [.int 0, m_1, m_2, .ref w0, m_4, m_5, m_6, m_7, m_8, m_9, m_10, m_11, m_12, m_13, m_14, m_15, m_16, m_17, m_18, m_19, m_20, m_21, m_22, m_23, m_24, m_25, m_26, m_27, m_28, m_29, m_30, m_31, m_32, m_33, m_34, m_35, m_36, m_37, m_38, m_39, m_40, m_41, m_42, m_43, m_44, m_45, m_46, m_47, m_48, m_49, m_50, m_51, m_52, m_53, m_54, m_55, m_56, m_57, m_58, m_59])), (w0, .inl (K 0, 5500, .inl fw))] H := hP
  have hD : va_D A [(m0, .inr (12, [.int 0, m_1, m_2, .ref w0, m_4, m_5, m_6, m_7, m_8, m_9, m_10, m_11, m_12, m_13, m_14, m_15, m_16, m_17, m_18, m_19, m_20, m_21, m_22, m_23, m_24, m_25, m_26, m_27, m_28, m_29, m_30, m_31, m_32, m_33, m_34, m_35, m_36, m_37, m_38, m_39, m_40, m_41, m_42, m_43, m_44, m_45, m_46, m_47, m_48, m_49, m_50, m_51, m_52, m_53, m_54, m_55, m_56, m_57, m_58, m_59])), (w0, .inl (K 0, 5500, .inl fw))] := hD
  refine lv_iload_n hx hb dX12_sounds_5 rfl (lv_at hl 1 rfl) ?_
  refine lv_i2l hx hb dX12_sounds_6 rfl ?_
  refine lv_topl (fun x_461 ex_461 => ?_)
  have hx_461 : x_461.toInt = x.toInt := by rw [ex_461]; exact i_wide rfl
  have hbx_461 := i_rng (a := x) rfl
  refine lv_lconst (v := 0) hx hb dX12_sounds_7 (by decide) ?_
  refine lv_ldc2 (v := 2) hx hb hown (hts (.constantLong RX12 434 (2)) (List.mem_cons_of_mem _ (List.mem_append_left _ (List.mem_append_left _ (List.mem_of_getElem? (i := 1) rfl))))) dX12_sounds_8 ?_
  refine pci (va_runS (As := [.long x_461, .long 0, .long 2]) (rest := []) ⟨hx, hb, hml, hown, hts⟩ (v_in l D K x.toInt 0 2 x_461 0 2 H.size hx_461 (show (0 : Int64).toInt = 0 from rfl) (show (2 : Int64).toInt = 2 from rfl)) (va_cwS 3 hts gX12_sounds_X12_in rfl rfl rfl (by decide +kernel) ⟨Nat.le_of_ble_eq_true rfl, Nat.le_of_ble_eq_true rfl⟩) (mkS hK hN (va_P.nil) (va_D.nil (A := fun _ => True))) rfl rfl hl.1 rfl (lv_room (Nat.le_of_ble_eq_true rfl)) dX12_sounds_11 ⟨Nat.le_of_ble_eq_true rfl, Nat.le_of_ble_eq_true rfl⟩) (fun r_462 hw => ?_)
  obtain ⟨hw, -⟩ := hw
  rcases hw with ⟨rfl, h_463, h_464⟩ | ⟨rfl, h_465⟩
  · refine lv_if_ne (tgt := 19) hx hb dX12_sounds_14 (by decide) (fun c_466 => ?_) (fun c_466 => absurd c_466 (by decide))
    refine lv_aload_n hx hb dX12_sounds_19 rfl (lv_at hl 0 rfl) ?_
    refine pci (va_runV (As := []) (rest := []) ⟨hx, hb, hml, hown, hts⟩ (v_soundingNotes l D K m0 (.int 0) m_1 m_2 w0 m_4 m_5 m_6 m_7 m_8 m_9 m_10 m_11 m_12 m_13 m_14 m_15 m_16 m_17 m_18 m_19 m_20 m_21 m_22 m_23 m_24 m_25 m_26 m_27 m_28 m_29 m_30 m_31 m_32 m_33 m_34 m_35 m_36 m_37 m_38 m_39 m_40 m_41 m_42 m_43 m_44 m_45 m_46 m_47 m_48 m_49 m_50 m_51 m_52 m_53 m_54 m_55 m_56 m_57 m_58 m_59 fw H.size zfw) (cwV 0 hts gX12_sounds_X12_soundingNotes rfl rfl rfl (by decide +kernel) ⟨Nat.le_of_ble_eq_true rfl, Nat.le_of_ble_eq_true rfl⟩) (mkV hK hN (hP.sub [0, 1] rfl) (hD.sub [0, 1] (by decide) rfl) (ci := 12) (q0 := 0) rfl rfl) rfl rfl hl.1 rfl (lv_room (Nat.le_of_ble_eq_true rfl)) dX12_sounds_20 ⟨Nat.le_of_ble_eq_true rfl, Nat.le_of_ble_eq_true rfl⟩) (fun r_467 hw => ?_)
    obtain ⟨h_468, -⟩ := hw
    refine lv_istore_n (lv' := [(2, .int r_467), (0, .ref m0), (1, .int x)]) hx hb dX12_sounds_23 rfl hl (by decide) rfl (fun ls hl => ?_)
    refine lv_iconst (v := 0) hx hb dX12_sounds_24 (by decide) ?_
    refine lv_istore_n (lv' := [(3, .int 0), (2, .int r_467), (0, .ref m0), (1, .int x)]) hx hb dX12_sounds_25 rfl hl (by decide) rfl (fun ls hl => ?_)
    refine lv_iconst (v := 0) hx hb dX12_sounds_26 (by decide) ?_
    refine lv_istore (lv' := [(4, .int 0), (3, .int 0), (2, .int r_467), (0, .ref m0), (1, .int x)]) hx hb dX12_sounds_27 hl (by decide) rfl (fun ls hl => ?_)
    have lp_631 : ∀ (nn_ : Nat) (v_583 : Int32) (v_584 : Int32) (hv_583 : 0 ≤ v_583.toInt ∧ v_583.toInt ≤ 7) (hn : (8 - v_583.toInt : Int).toNat < nn_) (H : Heap) (locs : List Loc) (hP : va_P D vwCl [(m0, .inr (12, [.int 0, m_1, m_2, .ref w0, m_4, m_5, m_6, m_7, m_8, m_9, m_10, m_11, m_12, m_13, m_14, m_15, m_16, m_17, m_18, m_19, m_20, m_21, m_22, m_23, m_24, m_25, m_26, m_27, m_28, m_29, m_30, m_31, m_32, m_33, m_34, m_35, m_36, m_37, m_38, m_39, m_40, m_41, m_42, m_43, m_44, m_45, m_46, m_47, m_48, m_49, m_50, m_51, m_52, m_53, m_54, m_55, m_56, m_57, m_58, m_59])), (w0, .inl (K 0, 5500, .inl fw))] H) (hD : va_D A [(m0, .inr (12, [.int 0, m_1, m_2, .ref w0, m_4, m_5, m_6, m_7, m_8, m_9, m_10, m_11, m_12, m_13, m_14, m_15, m_16, m_17, m_18, m_19, m_20, m_21, m_22, m_23, m_24, m_25, m_26, m_27, m_28, m_29, m_30, m_31, m_32, m_33, m_34, m_35, m_36, m_37, m_38, m_39, m_40, m_41, m_42, m_43, m_44, m_45, m_46, m_47, m_48, m_49, m_50, m_51, m_52, m_53, m_54, m_55, m_56, m_57, m_58, m_59])), (w0, .inl (K 0, 5500, .inl fw))]) (hS : va_S A s.heap H locs) (ls : Array Slot) (hl : lv_has ls 5 [(4, .int v_583), (3, .int v_584), (2, .int r_467), (0, .ref m0), (1, .int x)]), W p l e ({ frames := 4, cells := 0, slots := 0, locals := 88 }) s m (([.ref m0, .int x] : List Value).toArray) below meth c H locs 0 0 Q (F0 m 29 ls []) := by
      intro nn_
      induction nn_ with
      | zero =>
        intro v_583 v_584 hv_583 hn H locs hP hD hS ls hl
        exact absurd hn (Nat.not_lt_zero _)
      | succ nn_ ih_632 =>
        intro v_583 v_584 hv_583 hn H locs hP hD hS ls hl
        refine lv_iload hx hb dX12_sounds_29 (lv_at hl 0 rfl) ?_
        refine lv_bipush (v := 7) hx hb dX12_sounds_31 (by decide) ?_
        refine lv_icmp_ge (tgt := 87) hx hb dX12_sounds_33 (by decide) (fun c_633 => ?_) (fun c_633 => ?_)
        · have c_633i := i_le (x := 7) (y := v_583.toInt) rfl rfl c_633
          refine lv_iload_n hx hb dX12_sounds_87 rfl (lv_at hl 4 rfl) ?_
          refine lv_if_ne (tgt := 95) hx hb dX12_sounds_88 (by decide) (fun c_634 => ?_) (fun c_634 => ?_)
          · have c_634i := i_ne (x := x.toInt) (y := 0) rfl rfl c_634
            refine lv_iload_n hx hb dX12_sounds_95 rfl (lv_at hl 4 rfl) ?_
            refine lv_iconst (v := 1) hx hb dX12_sounds_96 (by decide) ?_
            refine lv_icmp_ne (tgt := 104) hx hb dX12_sounds_97 (by decide) (fun c_635 => ?_) (fun c_635 => ?_)
            · have c_635i := i_ne (x := x.toInt) (y := 1) rfl rfl c_635
              refine lv_aload_n hx hb dX12_sounds_104 rfl (lv_at hl 3 rfl) ?_
              refine pci (va_runV (As := []) (rest := []) ⟨hx, hb, hml, hown, hts⟩ (v_isMet l D K m0 (.int 0) m_1 m_2 w0 m_4 m_5 m_6 m_7 m_8 m_9 m_10 m_11 m_12 m_13 m_14 m_15 m_16 m_17 m_18 m_19 m_20 m_21 m_22 m_23 m_24 m_25 m_26 m_27 m_28 m_29 m_30 m_31 m_32 m_33 m_34 m_35 m_36 m_37 m_38 m_39 m_40 m_41 m_42 m_43 m_44 m_45 m_46 m_47 m_48 m_49 m_50 m_51 m_52 m_53 m_54 m_55 m_56 m_57 m_58 m_59 fw H.size zfw) (cwV 0 hts gX12_sounds_X12_isMet rfl rfl rfl (by decide +kernel) ⟨Nat.le_of_ble_eq_true rfl, Nat.le_of_ble_eq_true rfl⟩) (mkV hK hN (hP.sub [0, 1] rfl) (hD.sub [0, 1] (by decide) rfl) (ci := 12) (q0 := 0) rfl rfl) rfl rfl hl.1 rfl (lv_room (Nat.le_of_ble_eq_true rfl)) dX12_sounds_105 ⟨Nat.le_of_ble_eq_true rfl, Nat.le_of_ble_eq_true rfl⟩) (fun r_636 hw => ?_)
              obtain ⟨h_637, -⟩ := hw
              refine lv_if_eq (tgt := 115) hx hb dX12_sounds_108 (by decide) (fun c_638 => ?_) (fun c_638 => ?_)
              · have c_638i := i_eq (x := r_636.toInt) (y := 0) rfl rfl c_638
                refine lv_iconst (v := 0) hx hb dX12_sounds_115 (by decide) ?_
                rw [← hQ]
                have hP9 := hP.sub (ws' := [(m0, .inr (12, [.int 0, m_1, m_2, .ref w0, m_4, m_5, m_6, m_7, m_8, m_9, m_10, m_11, m_12, m_13, m_14, m_15, m_16, m_17, m_18, m_19, m_20, m_21, m_22, m_23, m_24, m_25, m_26, m_27, m_28, m_29, m_30, m_31, m_32, m_33, m_34, m_35, m_36, m_37, m_38, m_39, m_40, m_41, m_42, m_43, m_44, m_45, m_46, m_47, m_48, m_49, m_50, m_51, m_52, m_53, m_54, m_55, m_56, m_57, m_58, m_59])), (w0, .inl (K 0, 5500, .inl fw))]) [0, 1] rfl
                have hD9 := hD.sub (ws' := [(m0, .inr (12, [.int 0, m_1, m_2, .ref w0, m_4, m_5, m_6, m_7, m_8, m_9, m_10, m_11, m_12, m_13, m_14, m_15, m_16, m_17, m_18, m_19, m_20, m_21, m_22, m_23, m_24, m_25, m_26, m_27, m_28, m_29, m_30, m_31, m_32, m_33, m_34, m_35, m_36, m_37, m_38, m_39, m_40, m_41, m_42, m_43, m_44, m_45, m_46, m_47, m_48, m_49, m_50, m_51, m_52, m_53, m_54, m_55, m_56, m_57, m_58, m_59])), (w0, .inl (K 0, 5500, .inl fw))]) [0, 1] (by decide) rfl
                exact W.iret (v := 0) hx hb hr (fun t ht hW => ⟨⟨0, ((fun _ => 0, fun _ => fun _ => 0, fun _ => fun _ => 0, fun _ => 0, fun _ => 0, fun _ => fun _ => none) : Su), rfl, trivial, (⟨by rw [ht]; exact hP9, hD9⟩ : Wd D A _ t)⟩, hS.F ht⟩) hS.2.2 dX12_sounds_116
              · have c_638i := i_ne (x := r_636.toInt) (y := 0) rfl rfl c_638
                refine lv_iconst (v := 1) hx hb dX12_sounds_111 (by decide) ?_
                refine lv_goto (tgt := 116) hx hb dX12_sounds_112 (by decide) ?_
                rw [← hQ]
                have hP9 := hP.sub (ws' := [(m0, .inr (12, [.int 0, m_1, m_2, .ref w0, m_4, m_5, m_6, m_7, m_8, m_9, m_10, m_11, m_12, m_13, m_14, m_15, m_16, m_17, m_18, m_19, m_20, m_21, m_22, m_23, m_24, m_25, m_26, m_27, m_28, m_29, m_30, m_31, m_32, m_33, m_34, m_35, m_36, m_37, m_38, m_39, m_40, m_41, m_42, m_43, m_44, m_45, m_46, m_47, m_48, m_49, m_50, m_51, m_52, m_53, m_54, m_55, m_56, m_57, m_58, m_59])), (w0, .inl (K 0, 5500, .inl fw))]) [0, 1] rfl
                have hD9 := hD.sub (ws' := [(m0, .inr (12, [.int 0, m_1, m_2, .ref w0, m_4, m_5, m_6, m_7, m_8, m_9, m_10, m_11, m_12, m_13, m_14, m_15, m_16, m_17, m_18, m_19, m_20, m_21, m_22, m_23, m_24, m_25, m_26, m_27, m_28, m_29, m_30, m_31, m_32, m_33, m_34, m_35, m_36, m_37, m_38, m_39, m_40, m_41, m_42, m_43, m_44, m_45, m_46, m_47, m_48, m_49, m_50, m_51, m_52, m_53, m_54, m_55, m_56, m_57, m_58, m_59])), (w0, .inl (K 0, 5500, .inl fw))]) [0, 1] (by decide) rfl
                exact W.iret (v := 1) hx hb hr (fun t ht hW => ⟨⟨1, ((fun _ => 0, fun _ => fun _ => 0, fun _ => fun _ => 0, fun _ => 0, fun _ => 0, fun _ => fun _ => none) : Su), rfl, trivial, (⟨by rw [ht]; exact hP9, hD9⟩ : Wd D A _ t)⟩, hS.F ht⟩) hS.2.2 dX12_sounds_116
            · have c_635i := i_eq (x := x.toInt) (y := 1) rfl rfl c_635
              refine lv_iload_n hx hb dX12_sounds_100 rfl (lv_at hl 1 rfl) ?_
              refine lv_goto (tgt := 116) hx hb dX12_sounds_101 (by decide) ?_
              rw [← hQ]
              have hP9 := hP.sub (ws' := [(m0, .inr (12, [.int 0, m_1, m_2, .ref w0, m_4, m_5, m_6, m_7, m_8, m_9, m_10, m_11, m_12, m_13, m_14, m_15, m_16, m_17, m_18, m_19, m_20, m_21, m_22, m_23, m_24, m_25, m_26, m_27, m_28, m_29, m_30, m_31, m_32, m_33, m_34, m_35, m_36, m_37, m_38, m_39, m_40, m_41, m_42, m_43, m_44, m_45, m_46, m_47, m_48, m_49, m_50, m_51, m_52, m_53, m_54, m_55, m_56, m_57, m_58, m_59])), (w0, .inl (K 0, 5500, .inl fw))]) [0, 1] rfl
              have hD9 := hD.sub (ws' := [(m0, .inr (12, [.int 0, m_1, m_2, .ref w0, m_4, m_5, m_6, m_7, m_8, m_9, m_10, m_11, m_12, m_13, m_14, m_15, m_16, m_17, m_18, m_19, m_20, m_21, m_22, m_23, m_24, m_25, m_26, m_27, m_28, m_29, m_30, m_31, m_32, m_33, m_34, m_35, m_36, m_37, m_38, m_39, m_40, m_41, m_42, m_43, m_44, m_45, m_46, m_47, m_48, m_49, m_50, m_51, m_52, m_53, m_54, m_55, m_56, m_57, m_58, m_59])), (w0, .inl (K 0, 5500, .inl fw))]) [0, 1] (by decide) rfl
              exact W.iret (v := v_584) hx hb hr (fun t ht hW => ⟨⟨v_584, ((fun _ => 0, fun _ => fun _ => 0, fun _ => fun _ => 0, fun _ => 0, fun _ => 0, fun _ => fun _ => none) : Su), rfl, trivial, (⟨by rw [ht]; exact hP9, hD9⟩ : Wd D A _ t)⟩, hS.F ht⟩) hS.2.2 dX12_sounds_116
          · have c_634i := i_eq (x := x.toInt) (y := 0) rfl rfl c_634
            refine lv_iload_n hx hb dX12_sounds_91 rfl (lv_at hl 2 rfl) ?_
            refine lv_goto (tgt := 116) hx hb dX12_sounds_92 (by decide) ?_
            rw [← hQ]
            have hP9 := hP.sub (ws' := [(m0, .inr (12, [.int 0, m_1, m_2, .ref w0, m_4, m_5, m_6, m_7, m_8, m_9, m_10, m_11, m_12, m_13, m_14, m_15, m_16, m_17, m_18, m_19, m_20, m_21, m_22, m_23, m_24, m_25, m_26, m_27, m_28, m_29, m_30, m_31, m_32, m_33, m_34, m_35, m_36, m_37, m_38, m_39, m_40, m_41, m_42, m_43, m_44, m_45, m_46, m_47, m_48, m_49, m_50, m_51, m_52, m_53, m_54, m_55, m_56, m_57, m_58, m_59])), (w0, .inl (K 0, 5500, .inl fw))]) [0, 1] rfl
            have hD9 := hD.sub (ws' := [(m0, .inr (12, [.int 0, m_1, m_2, .ref w0, m_4, m_5, m_6, m_7, m_8, m_9, m_10, m_11, m_12, m_13, m_14, m_15, m_16, m_17, m_18, m_19, m_20, m_21, m_22, m_23, m_24, m_25, m_26, m_27, m_28, m_29, m_30, m_31, m_32, m_33, m_34, m_35, m_36, m_37, m_38, m_39, m_40, m_41, m_42, m_43, m_44, m_45, m_46, m_47, m_48, m_49, m_50, m_51, m_52, m_53, m_54, m_55, m_56, m_57, m_58, m_59])), (w0, .inl (K 0, 5500, .inl fw))]) [0, 1] (by decide) rfl
            exact W.iret (v := r_467) hx hb hr (fun t ht hW => ⟨⟨r_467, ((fun _ => 0, fun _ => fun _ => 0, fun _ => fun _ => 0, fun _ => 0, fun _ => 0, fun _ => fun _ => none) : Su), rfl, trivial, (⟨by rw [ht]; exact hP9, hD9⟩ : Wd D A _ t)⟩, hS.F ht⟩) hS.2.2 dX12_sounds_116
        · have c_633i := i_nle (x := 7) (y := v_583.toInt) rfl rfl c_633
          refine lv_iload_n hx hb dX12_sounds_36 rfl (lv_at hl 1 rfl) ?_
          refine lv_iload_n hx hb dX12_sounds_37 rfl (lv_at hl 2 rfl) ?_
          refine lv_iload hx hb dX12_sounds_38 (lv_at hl 0 rfl) ?_
          refine pci (va_runS (As := [.int r_467, .int v_583]) (rest := [.int v_584]) ⟨hx, hb, hml, hown, hts⟩ (v_is l D K r_467 v_583 H.size) (va_cwS 2 hts gX12_sounds_X12_is rfl rfl rfl (by decide +kernel) ⟨Nat.le_of_ble_eq_true rfl, Nat.le_of_ble_eq_true rfl⟩) (mkS hK hN (va_P.nil) (va_D.nil (A := fun _ => True))) rfl rfl hl.1 rfl (lv_room (Nat.le_of_ble_eq_true rfl)) dX12_sounds_40 ⟨Nat.le_of_ble_eq_true rfl, Nat.le_of_ble_eq_true rfl⟩) (fun r_639 hw => ?_)
          obtain ⟨h_640, -⟩ := hw
          refine lv_if_eq (tgt := 78) hx hb dX12_sounds_43 (by decide) (fun c_641 => ?_) (fun c_641 => ?_)
          · have c_641i := i_eq (x := r_639.toInt) (y := 0) rfl rfl c_641
            refine lv_iconst (v := 0) hx hb dX12_sounds_78 (by decide) ?_
            refine lv_iadd hx hb dX12_sounds_79 ?_
            refine lv_topi (fun x_642 ex_642 => ?_)
            have hx_642 : x_642.toInt = (v_584.toInt + 0) := by rw [ex_642]; exact i_add rfl (show (0 : Int32).toInt = 0 from rfl) (by have q1 := i_rng (a := v_584) rfl; omega)
            refine lv_istore_n (lv' := [(3, .int x_642), (4, .int v_583), (2, .int r_467), (0, .ref m0), (1, .int x)]) hx hb dX12_sounds_80 rfl hl (by decide) rfl (fun ls hl => ?_)
            obtain ⟨x_643, ex_643⟩ : ∃ y : Int32, y = v_583 + Int32.ofInt 1 := ⟨_, rfl⟩
            have hx_643 : x_643.toInt = (v_583.toInt + 1) := by rw [ex_643]; exact i_add rfl (show (Int32.ofInt 1).toInt = 1 from rfl) (by omega)
            refine lv_iinc (v := x_643) (lv' := [(4, .int x_643), (3, .int x_642), (2, .int r_467), (0, .ref m0), (1, .int x)]) hx hb dX12_sounds_81 hl (k := 1) rfl (by rw [ex_643]) (by decide) rfl (fun ls hl => ?_)
            refine lv_goto (tgt := 29) hx hb dX12_sounds_84 (by decide) ?_
            exact ih_632 x_643 x_642 (by rw [hx_643]; omega) (by omega) _ _ hP hD hS ls (lv_sub hl [0, 1, 2, 3, 4] rfl)
          · have c_641i := i_ne (x := r_639.toInt) (y := 0) rfl rfl c_641
            refine lv_iload_n hx hb dX12_sounds_46 rfl (lv_at hl 2 rfl) ?_
            refine lv_iload hx hb dX12_sounds_47 (lv_at hl 0 rfl) ?_
            refine lv_iconst (v := 2) hx hb dX12_sounds_49 (by decide) ?_
            refine lv_iadd hx hb dX12_sounds_50 ?_
            refine lv_topi (fun x_644 ex_644 => ?_)
            have hx_644 : x_644.toInt = (v_583.toInt + 2) := by rw [ex_644]; exact i_add rfl (show (2 : Int32).toInt = 2 from rfl) (by omega)
            refine lv_bipush (v := 7) hx hb dX12_sounds_51 (by decide) ?_
            refine lv_irem hx hb dX12_sounds_53 (by decide) ?_
            refine lv_topi (fun x_645 ex_645 => ?_)
            have hx_645 : x_645.toInt = ((v_583.toInt + 2) % 7) := by rw [ex_645]; exact i_rem hx_644 (show (7 : Int32).toInt = 7 from rfl) (by omega) (by omega)
            refine pci (va_runS (As := [.int r_467, .int x_645]) (rest := [.int v_584]) ⟨hx, hb, hml, hown, hts⟩ (v_is l D K r_467 x_645 H.size) (va_cwS 2 hts gX12_sounds_X12_is rfl rfl rfl (by decide +kernel) ⟨Nat.le_of_ble_eq_true rfl, Nat.le_of_ble_eq_true rfl⟩) (mkS hK hN (va_P.nil) (va_D.nil (A := fun _ => True))) rfl rfl hl.1 rfl (lv_room (Nat.le_of_ble_eq_true rfl)) dX12_sounds_54 ⟨Nat.le_of_ble_eq_true rfl, Nat.le_of_ble_eq_true rfl⟩) (fun r_646 hw => ?_)
            obtain ⟨h_647, -⟩ := hw
            refine lv_if_eq (tgt := 78) hx hb dX12_sounds_57 (by decide) (fun c_648 => ?_) (fun c_648 => ?_)
            · have c_648i := i_eq (x := r_646.toInt) (y := 0) rfl rfl c_648
              refine lv_iconst (v := 0) hx hb dX12_sounds_78 (by decide) ?_
              refine lv_iadd hx hb dX12_sounds_79 ?_
              refine lv_topi (fun x_649 ex_649 => ?_)
              have hx_649 : x_649.toInt = (v_584.toInt + 0) := by rw [ex_649]; exact i_add rfl (show (0 : Int32).toInt = 0 from rfl) (by have q1 := i_rng (a := v_584) rfl; omega)
              refine lv_istore_n (lv' := [(3, .int x_649), (4, .int v_583), (2, .int r_467), (0, .ref m0), (1, .int x)]) hx hb dX12_sounds_80 rfl hl (by decide) rfl (fun ls hl => ?_)
              obtain ⟨x_650, ex_650⟩ : ∃ y : Int32, y = v_583 + Int32.ofInt 1 := ⟨_, rfl⟩
              have hx_650 : x_650.toInt = (v_583.toInt + 1) := by rw [ex_650]; exact i_add rfl (show (Int32.ofInt 1).toInt = 1 from rfl) (by omega)
              refine lv_iinc (v := x_650) (lv' := [(4, .int x_650), (3, .int x_649), (2, .int r_467), (0, .ref m0), (1, .int x)]) hx hb dX12_sounds_81 hl (k := 1) rfl (by rw [ex_650]) (by decide) rfl (fun ls hl => ?_)
              refine lv_goto (tgt := 29) hx hb dX12_sounds_84 (by decide) ?_
              exact ih_632 x_650 x_649 (by rw [hx_650]; omega) (by omega) _ _ hP hD hS ls (lv_sub hl [0, 1, 2, 3, 4] rfl)
            · have c_648i := i_ne (x := r_646.toInt) (y := 0) rfl rfl c_648
              refine lv_iload_n hx hb dX12_sounds_60 rfl (lv_at hl 2 rfl) ?_
              refine lv_iload hx hb dX12_sounds_61 (lv_at hl 0 rfl) ?_
              refine lv_iconst (v := 4) hx hb dX12_sounds_63 (by decide) ?_
              refine lv_iadd hx hb dX12_sounds_64 ?_
              refine lv_topi (fun x_651 ex_651 => ?_)
              have hx_651 : x_651.toInt = (v_583.toInt + 4) := by rw [ex_651]; exact i_add rfl (show (4 : Int32).toInt = 4 from rfl) (by omega)
              refine lv_bipush (v := 7) hx hb dX12_sounds_65 (by decide) ?_
              refine lv_irem hx hb dX12_sounds_67 (by decide) ?_
              refine lv_topi (fun x_652 ex_652 => ?_)
              have hx_652 : x_652.toInt = ((v_583.toInt + 4) % 7) := by rw [ex_652]; exact i_rem hx_651 (show (7 : Int32).toInt = 7 from rfl) (by omega) (by omega)
              refine pci (va_runS (As := [.int r_467, .int x_652]) (rest := [.int v_584]) ⟨hx, hb, hml, hown, hts⟩ (v_is l D K r_467 x_652 H.size) (va_cwS 2 hts gX12_sounds_X12_is rfl rfl rfl (by decide +kernel) ⟨Nat.le_of_ble_eq_true rfl, Nat.le_of_ble_eq_true rfl⟩) (mkS hK hN (va_P.nil) (va_D.nil (A := fun _ => True))) rfl rfl hl.1 rfl (lv_room (Nat.le_of_ble_eq_true rfl)) dX12_sounds_68 ⟨Nat.le_of_ble_eq_true rfl, Nat.le_of_ble_eq_true rfl⟩) (fun r_653 hw => ?_)
              obtain ⟨h_654, -⟩ := hw
              refine lv_if_eq (tgt := 78) hx hb dX12_sounds_71 (by decide) (fun c_655 => ?_) (fun c_655 => ?_)
              · have c_655i := i_eq (x := r_653.toInt) (y := 0) rfl rfl c_655
                refine lv_iconst (v := 0) hx hb dX12_sounds_78 (by decide) ?_
                refine lv_iadd hx hb dX12_sounds_79 ?_
                refine lv_topi (fun x_656 ex_656 => ?_)
                have hx_656 : x_656.toInt = (v_584.toInt + 0) := by rw [ex_656]; exact i_add rfl (show (0 : Int32).toInt = 0 from rfl) (by have q1 := i_rng (a := v_584) rfl; omega)
                refine lv_istore_n (lv' := [(3, .int x_656), (4, .int v_583), (2, .int r_467), (0, .ref m0), (1, .int x)]) hx hb dX12_sounds_80 rfl hl (by decide) rfl (fun ls hl => ?_)
                obtain ⟨x_657, ex_657⟩ : ∃ y : Int32, y = v_583 + Int32.ofInt 1 := ⟨_, rfl⟩
                have hx_657 : x_657.toInt = (v_583.toInt + 1) := by rw [ex_657]; exact i_add rfl (show (Int32.ofInt 1).toInt = 1 from rfl) (by omega)
                refine lv_iinc (v := x_657) (lv' := [(4, .int x_657), (3, .int x_656), (2, .int r_467), (0, .ref m0), (1, .int x)]) hx hb dX12_sounds_81 hl (k := 1) rfl (by rw [ex_657]) (by decide) rfl (fun ls hl => ?_)
                refine lv_goto (tgt := 29) hx hb dX12_sounds_84 (by decide) ?_
                exact ih_632 x_657 x_656 (by rw [hx_657]; omega) (by omega) _ _ hP hD hS ls (lv_sub hl [0, 1, 2, 3, 4] rfl)
              · have c_655i := i_ne (x := r_653.toInt) (y := 0) rfl rfl c_655
                refine lv_iconst (v := 1) hx hb dX12_sounds_74 (by decide) ?_
                refine lv_goto (tgt := 79) hx hb dX12_sounds_75 (by decide) ?_
                refine lv_iadd hx hb dX12_sounds_79 ?_
                refine lv_topi (fun x_658 ex_658 => ?_)
                refine lv_istore_n (lv' := [(3, .int x_658), (4, .int v_583), (2, .int r_467), (0, .ref m0), (1, .int x)]) hx hb dX12_sounds_80 rfl hl (by decide) rfl (fun ls hl => ?_)
                obtain ⟨x_659, ex_659⟩ : ∃ y : Int32, y = v_583 + Int32.ofInt 1 := ⟨_, rfl⟩
                have hx_659 : x_659.toInt = (v_583.toInt + 1) := by rw [ex_659]; exact i_add rfl (show (Int32.ofInt 1).toInt = 1 from rfl) (by omega)
                refine lv_iinc (v := x_659) (lv' := [(4, .int x_659), (3, .int x_658), (2, .int r_467), (0, .ref m0), (1, .int x)]) hx hb dX12_sounds_81 hl (k := 1) rfl (by rw [ex_659]) (by decide) rfl (fun ls hl => ?_)
                refine lv_goto (tgt := 29) hx hb dX12_sounds_84 (by decide) ?_
                exact ih_632 x_659 x_658 (by rw [hx_659]; omega) (by omega) _ _ hP hD hS ls (lv_sub hl [0, 1, 2, 3, 4] rfl)
    exact lp_631 ((8 - (0 : Int32).toInt : Int).toNat + 1) 0 0 (by decide) (Nat.lt_succ_self _) _ _ hP hD hS ls (lv_sub hl [0, 1, 2, 3, 4] rfl)
  · refine lv_if_ne (tgt := 19) hx hb dX12_sounds_14 (by decide) (fun c_660 => absurd (by decide) c_660) (fun c_660 => ?_)
    refine lv_iconst (v := (-1)) hx hb dX12_sounds_17 (by decide) ?_
    rw [← hQ]
    have hP9 := hP.sub (ws' := [(m0, .inr (12, [.int 0, m_1, m_2, .ref w0, m_4, m_5, m_6, m_7, m_8, m_9, m_10, m_11, m_12, m_13, m_14, m_15, m_16, m_17, m_18, m_19, m_20, m_21, m_22, m_23, m_24, m_25, m_26, m_27, m_28, m_29, m_30, m_31, m_32, m_33, m_34, m_35, m_36, m_37, m_38, m_39, m_40, m_41, m_42, m_43, m_44, m_45, m_46, m_47, m_48, m_49, m_50, m_51, m_52, m_53, m_54, m_55, m_56, m_57, m_58, m_59])), (w0, .inl (K 0, 5500, .inl fw))]) [0, 1] rfl
    have hD9 := hD.sub (ws' := [(m0, .inr (12, [.int 0, m_1, m_2, .ref w0, m_4, m_5, m_6, m_7, m_8, m_9, m_10, m_11, m_12, m_13, m_14, m_15, m_16, m_17, m_18, m_19, m_20, m_21, m_22, m_23, m_24, m_25, m_26, m_27, m_28, m_29, m_30, m_31, m_32, m_33, m_34, m_35, m_36, m_37, m_38, m_39, m_40, m_41, m_42, m_43, m_44, m_45, m_46, m_47, m_48, m_49, m_50, m_51, m_52, m_53, m_54, m_55, m_56, m_57, m_58, m_59])), (w0, .inl (K 0, 5500, .inl fw))]) [0, 1] (by decide) rfl
    exact W.iret (v := (-1)) hx hb hr (fun t ht hW => ⟨⟨(-1), ((fun _ => 0, fun _ => fun _ => 0, fun _ => fun _ => 0, fun _ => 0, fun _ => 0, fun _ => fun _ => none) : Su), rfl, trivial, (⟨by rw [ht]; exact hP9, hD9⟩ : Wd D A _ t)⟩, hS.F ht⟩) hS.2.2 dX12_sounds_18
set_option maxHeartbeats 4000000 in
set_option maxRecDepth 100000 in
theorem v_flare (l : Launch) (D : va_G) (K : Nat → ClassId) (m0 : Nat) (x : Int32) (y : Int32) (m_0 : Value) (m_1 : Value) (m_2 : Value) (w0 : Nat) (m_4 : Value) (m_5 : Value) (m_6 : Value) (m_7 : Value) (m_8 : Value) (m_9 : Value) (m_10 : Value) (m_11 : Value) (m_12 : Value) (m_13 : Value) (m_14 : Value) (m_15 : Value) (m_16 : Value) (m_17 : Value) (m_18 : Value) (m_19 : Value) (m_21 : Value) (m_22 : Value) (m_23 : Value) (m_24 : Value) (m_25 : Value) (m_26 : Value) (m_27 : Value) (m_28 : Value) (m_29 : Value) (m_30 : Value) (m_31 : Value) (m_32 : Value) (m_33 : Value) (lw : Int32) (e0 : Nat) (m_36 : Value) (q0 : Nat) (bro : Int32) (val : Int64) (sm : Int64) (m_41 : Value) (m_42 : Value) (m_43 : Value) (m_44 : Value) (m_45 : Value) (m_46 : Value) (m_47 : Value) (m_48 : Value) (m_49 : Value) (m_50 : Value) (m_51 : Value) (m_52 : Value) (m_53 : Value) (m_54 : Value) (m_55 : Value) (m_56 : Value) (m_57 : Value) (m_58 : Value) (m_59 : Value) (fw : Nat → Int32) (fe : Nat → Int64) (frs : Nat → Int64) (sz : Nat) (zbro : 0 ≤ bro.toInt ∧ bro.toInt ≤ 1) (zx : (-1) ≤ x.toInt ∧ x.toInt ≤ 5) (zy : 0 ≤ y.toInt ∧ y.toInt ≤ 7) (zfw : RwOK fw) : Met l yX12_flare wsX12_flare ({ frames := 5, cells := 0, slots := 0, locals := 124 }) (va_Pc [.ref m0, .int x, .int y] (Pre D K [(m0, .inr (12, [m_0, m_1, m_2, .ref w0, m_4, m_5, m_6, m_7, m_8, m_9, m_10, m_11, m_12, m_13, m_14, m_15, m_16, m_17, m_18, m_19, .int 0, m_21, m_22, m_23, m_24, m_25, m_26, m_27, m_28, m_29, m_30, m_31, m_32, m_33, .int lw, .ref e0, m_36, .ref q0, .int bro, .long val, .long sm, m_41, m_42, m_43, m_44, m_45, m_46, m_47, m_48, m_49, m_50, m_51, m_52, m_53, m_54, m_55, m_56, m_57, m_58, m_59])), (w0, .inl (K 0, 5500, .inl fw)), (e0, .inl (K 2, 13, .inr (.inl fe))), (q0, .inl (K 2, 400, .inr (.inl frs)))] sz)) (va_Qv (S := Su) (fun (u : Su) => (0 ≤ (u.2.2.2.1 1).toInt ∧ (u.2.2.2.1 1).toInt ≤ 1) ∧ (RwOK (u.2.1 0)) ∧ True) (fun u t => Wd D (va_A [(m0, .inr (12, [m_0, m_1, m_2, .ref w0, m_4, m_5, m_6, m_7, m_8, m_9, m_10, m_11, m_12, m_13, m_14, m_15, m_16, m_17, m_18, m_19, .int 0, m_21, m_22, m_23, m_24, m_25, m_26, m_27, m_28, m_29, m_30, m_31, m_32, m_33, .int lw, .ref e0, m_36, .ref q0, .int bro, .long val, .long sm, m_41, m_42, m_43, m_44, m_45, m_46, m_47, m_48, m_49, m_50, m_51, m_52, m_53, m_54, m_55, m_56, m_57, m_58, m_59])), (w0, .inl (K 0, 5500, .inl fw)), (e0, .inl (K 2, 13, .inr (.inl fe))), (q0, .inl (K 2, 400, .inr (.inl frs)))] sz) ((fun u => [(m0, .inr (12, [m_0, m_1, m_2, .ref w0, m_4, m_5, m_6, m_7, m_8, m_9, m_10, m_11, m_12, m_13, m_14, m_15, m_16, m_17, m_18, m_19, .int 0, m_21, m_22, m_23, m_24, m_25, m_26, m_27, m_28, m_29, m_30, m_31, m_32, m_33, .int (u.2.2.2.1 0), .ref e0, m_36, .ref q0, .int (u.2.2.2.1 1), .long (u.2.2.2.2.1 0), .long (u.2.2.2.2.1 1), m_41, m_42, m_43, m_44, m_45, m_46, m_47, m_48, m_49, m_50, m_51, m_52, m_53, m_54, m_55, m_56, m_57, m_58, m_59])), (w0, .inl (K 0, 5500, .inl (u.2.1 0))), (e0, .inl (K 2, 13, .inr (.inl (u.2.2.1 0)))), (q0, .inl (K 2, 400, .inr (.inl (u.2.2.1 1))))]) u) t) (va_A [(m0, .inr (12, [m_0, m_1, m_2, .ref w0, m_4, m_5, m_6, m_7, m_8, m_9, m_10, m_11, m_12, m_13, m_14, m_15, m_16, m_17, m_18, m_19, .int 0, m_21, m_22, m_23, m_24, m_25, m_26, m_27, m_28, m_29, m_30, m_31, m_32, m_33, .int lw, .ref e0, m_36, .ref q0, .int bro, .long val, .long sm, m_41, m_42, m_43, m_44, m_45, m_46, m_47, m_48, m_49, m_50, m_51, m_52, m_53, m_54, m_55, m_56, m_57, m_58, m_59])), (w0, .inl (K 0, 5500, .inl fw)), (e0, .inl (K 2, 13, .inr (.inl fe))), (q0, .inl (K 2, 400, .inr (.inl frs)))] sz)) 0 0 (va_A [(m0, .inr (12, [m_0, m_1, m_2, .ref w0, m_4, m_5, m_6, m_7, m_8, m_9, m_10, m_11, m_12, m_13, m_14, m_15, m_16, m_17, m_18, m_19, .int 0, m_21, m_22, m_23, m_24, m_25, m_26, m_27, m_28, m_29, m_30, m_31, m_32, m_33, .int lw, .ref e0, m_36, .ref q0, .int bro, .long val, .long sm, m_41, m_42, m_43, m_44, m_45, m_46, m_47, m_48, m_49, m_50, m_51, m_52, m_53, m_54, m_55, m_56, m_57, m_58, m_59])), (w0, .inl (K 0, 5500, .inl fw)), (e0, .inl (K 2, 13, .inr (.inl fe))), (q0, .inl (K 2, 400, .inr (.inl frs)))] sz) := by
  refine Met.ofW (cc := cX12_flare) (maxL := 3) (ret := none) (by decide) rfl ?_
  intro p e s m args below meth c s₁ B hml hv
  obtain ⟨rfl, hsz, hP, hK, hD0, hN⟩ := hv
  have hx := B.exec
  have hb := B.bytes
  have hr := B.returns
  have hts := atoms_spec (ws := wsX12_flare) B.pre
  have hown : s.vm.findClass RX12 = some m.cls := findClass_of_methodNamed B.named
  have hlocks := B.notSynchronized
  subst hsz
  have hD := hD0.self (sz := s.heap.size)
  generalize hAe : va_A [(m0, .inr (12, [m_0, m_1, m_2, .ref w0, m_4, m_5, m_6, m_7, m_8, m_9, m_10, m_11, m_12, m_13, m_14, m_15, m_16, m_17, m_18, m_19, .int 0, m_21, m_22, m_23, m_24, m_25, m_26, m_27, m_28, m_29, m_30, m_31, m_32, m_33, .int lw, .ref e0, m_36, .ref q0, .int bro, .long val, .long sm, m_41, m_42, m_43, m_44, m_45, m_46, m_47, m_48, m_49, m_50, m_51, m_52, m_53, m_54, m_55, m_56, m_57, m_58, m_59])), (w0, .inl (K 0, 5500, .inl fw)), (e0, .inl (K 2, 13, .inr (.inl fe))), (q0, .inl (K 2, 400, .inr (.inl frs)))] s.heap.size = A at hD ⊢
  have hA : ∀ q : Nat, s.heap.size ≤ q → A q := fun q h => by rw [← hAe]; exact Or.inr h
  have hS : va_S A s.heap s.heap [] := va_S.rf
  have hP : va_P D vwCl [(m0, .inr (12, [m_0, m_1, m_2, .ref w0, m_4, m_5, m_6, m_7, m_8, m_9, m_10, m_11, m_12, m_13, m_14, m_15, m_16, m_17, m_18, m_19, .int 0, m_21, m_22, m_23, m_24, m_25, m_26, m_27, m_28, m_29, m_30, m_31, m_32, m_33, .int lw, .ref e0, m_36, .ref q0, .int bro, .long val, .long sm, m_41, m_42, m_43, m_44, m_45, m_46, m_47, m_48, m_49, m_50, m_51, m_52, m_53, m_54, m_55, m_56, m_57, m_58, m_59])), (w0, .inl (K 0, 5500, .inl fw)), (e0, .inl (K 2, 13, .inr (.inl fe))), (q0, .inl (K 2, 400, .inr (.inl frs)))] s.heap := hP
  have hl := lv_entry [.ref m0, .int x, .int y] (n := 3) (Nat.le_of_ble_eq_true rfl)
  rw [lg_entry_eq]
  generalize (lg_sl [.ref m0, .int x, .int y] ++ List.replicate (3 - (lg_sl [.ref m0, .int x, .int y]).length) Slot.unset).toArray = ls at hl ⊢
  have hl : lv_has ls 3 [(0, .ref m0), (1, .int x), (2, .int y)] := hl
  have hw12 : ∀ w ∈ wsX120, w ∈ wsX12_flare := fun w h => (List.mem_cons_of_mem _ (List.mem_append_right _ h))
  generalize hQ : MQ below _ _ s _ _ _ = Q
  refine lv_aload_n hx hb dX12_flare_0 rfl (lv_at hl 0 rfl) ?_
  refine va_get (ci := 12) (v := .ref w0) (C := RX12) (T := TX12) (N := 60) hx hb hts hw12 hown hK hP 0 rfl rfl 3 (by decide) (hts (.fieldLink RX12 13 "SmokeTuneModel" "row" "[I") (List.mem_cons_of_mem _ (List.mem_append_left _ (List.mem_append_left _ (List.mem_of_getElem? (i := 0) rfl))))) (fun _ h9 => h9) rfl dX12_flare_1 ?_
  refine lv_bipush (v := 11) hx hb dX12_flare_4 (by decide) ?_
  refine lv_iload_n hx hb dX12_flare_6 rfl (lv_at hl 2 rfl) ?_
  refine lv_iadd hx hb dX12_flare_7 ?_
  refine lv_topi (fun x_85 ex_85 => ?_)
  have hx_85 : x_85.toInt = (11 + y.toInt) := by rw [ex_85]; exact i_add (show (11 : Int32).toInt = 11 from rfl) rfl (by omega)
  refine lv_aload_n hx hb dX12_flare_8 rfl (lv_at hl 0 rfl) ?_
  refine va_get (ci := 12) (v := .ref w0) (C := RX12) (T := TX12) (N := 60) hx hb hts hw12 hown hK hP 0 rfl rfl 3 (by decide) (hts (.fieldLink RX12 13 "SmokeTuneModel" "row" "[I") (List.mem_cons_of_mem _ (List.mem_append_left _ (List.mem_append_left _ (List.mem_of_getElem? (i := 0) rfl))))) (fun _ h9 => h9) rfl dX12_flare_9 ?_
  refine lv_bipush (v := 11) hx hb dX12_flare_12 (by decide) ?_
  refine lv_iload_n hx hb dX12_flare_14 rfl (lv_at hl 2 rfl) ?_
  refine lv_iadd hx hb dX12_flare_15 ?_
  refine lv_topi (fun x_86 ex_86 => ?_)
  have hx_86 : x_86.toInt = (11 + y.toInt) := by rw [ex_86]; exact i_add (show (11 : Int32).toInt = 11 from rfl) rfl (by omega)
  refine va_iald hx hb hK hP 1 0 rfl rfl (i_in hx_86 (by omega)) dX12_flare_16 ?_
  refine lv_topi (fun x_87 ex_87 => ?_)
  have px_87 := RwOK.at zfw hx_86 (show 0 ≤ (11 + y.toInt) ∧ (11 + y.toInt) < 100 by omega)
  rw [← ex_87] at px_87
  have hx_87 := PR.r_11 px_87 (by omega)
  refine lv_aload_n hx hb dX12_flare_17 rfl (lv_at hl 0 rfl) ?_
  refine lv_iload_n hx hb dX12_flare_18 rfl (lv_at hl 1 rfl) ?_
  refine lv_iload_n hx hb dX12_flare_19 rfl (lv_at hl 2 rfl) ?_
  refine kci (S := Su) (wr := []) (va_runV (As := [.int x, .int y]) (rest := [.int x_87, .int x_85, .ref w0]) ⟨hx, hb, hml, hown, hts⟩ (v_flaresOf l D K m0 x y m_0 m_1 m_2 w0 m_4 m_5 m_6 m_7 m_8 m_9 m_10 m_11 m_12 m_13 m_14 m_15 m_16 m_17 m_18 m_19 m_21 m_22 m_23 m_24 m_25 m_26 m_27 m_28 m_29 m_30 m_31 m_32 m_33 lw e0 m_36 q0 bro val sm m_41 m_42 m_43 m_44 m_45 m_46 m_47 m_48 m_49 m_50 m_51 m_52 m_53 m_54 m_55 m_56 m_57 m_58 m_59 fw fe frs s.heap.size (by first | omega | decide) (by first | omega | decide) (by first | omega | decide) zfw) (cwV 2 hts gX12_flare_X12_flaresOf rfl rfl rfl (by decide +kernel) ⟨Nat.le_of_ble_eq_true rfl, Nat.le_of_ble_eq_true rfl⟩) (mkV hK hN (hP.sub [0, 1, 2, 3] rfl) (hD.sub [0, 1, 2, 3] (by decide) rfl) (ci := 12) (q0 := 0) rfl rfl) rfl rfl hl.1 rfl (lv_room (Nat.le_of_ble_eq_true rfl)) dX12_flare_20 ⟨Nat.le_of_ble_eq_true rfl, Nat.le_of_ble_eq_true rfl⟩) hP hD hS hA [0, 1, 2, 3] [] rfl rfl (by decide) (by decide) (fun r_88 u_89 H locs hw hP hD hS => ?_)
  have hP : va_P D vwCl [(m0, .inr (12, [m_0, m_1, m_2, .ref w0, m_4, m_5, m_6, m_7, m_8, m_9, m_10, m_11, m_12, m_13, m_14, m_15, m_16, m_17, m_18, m_19, .int 0, m_21, m_22, m_23, m_24, m_25, m_26, m_27, m_28, m_29, m_30, m_31, m_32, m_33, .int (u_89.2.2.2.1 0), .ref e0, m_36, .ref q0, .int (u_89.2.2.2.1 1), .long (u_89.2.2.2.2.1 0), .long (u_89.2.2.2.2.1 1), m_41, m_42, m_43, m_44, m_45, m_46, m_47, m_48, m_49, m_50, m_51, m_52, m_53, m_54, m_55, m_56, m_57, m_58, m_59])), (w0, .inl (K 0, 5500, .inl fw)), (e0, .inl (K 2, 13, .inr (.inl (u_89.2.2.1 0)))), (q0, .inl (K 2, 400, .inr (.inl (u_89.2.2.1 1))))] H := hP
  have hD : va_D A [(m0, .inr (12, [m_0, m_1, m_2, .ref w0, m_4, m_5, m_6, m_7, m_8, m_9, m_10, m_11, m_12, m_13, m_14, m_15, m_16, m_17, m_18, m_19, .int 0, m_21, m_22, m_23, m_24, m_25, m_26, m_27, m_28, m_29, m_30, m_31, m_32, m_33, .int (u_89.2.2.2.1 0), .ref e0, m_36, .ref q0, .int (u_89.2.2.2.1 1), .long (u_89.2.2.2.2.1 0), .long (u_89.2.2.2.2.1 1), m_41, m_42, m_43, m_44, m_45, m_46, m_47, m_48, m_49, m_50, m_51, m_52, m_53, m_54, m_55, m_56, m_57, m_58, m_59])), (w0, .inl (K 0, 5500, .inl fw)), (e0, .inl (K 2, 13, .inr (.inl (u_89.2.2.1 0)))), (q0, .inl (K 2, 400, .inr (.inl (u_89.2.2.1 1))))] := hD
  obtain ⟨h_91, k_90, -⟩ := hw
  refine lv_iadd hx hb dX12_flare_23 ?_
  refine lv_topi (fun x_92 ex_92 => ?_)
  have hx_92 : x_92.toInt = (x_87.toInt + r_88.toInt) := by rw [ex_92]; exact i_add rfl rfl (by omega)
  refine lv_i2l hx hb dX12_flare_24 rfl ?_
  refine lv_topl (fun x_93 ex_93 => ?_)
  have hx_93 : x_93.toInt = (x_87.toInt + r_88.toInt) := by rw [ex_93]; exact i_wide hx_92
  refine lv_iconst (v := 0) hx hb dX12_flare_25 (by decide) ?_
  refine lv_bipush (v := 20) hx hb dX12_flare_26 (by decide) ?_
  refine pci (va_runS (As := [.long x_93, .int 0, .int 20]) (rest := [.int x_85, .ref w0]) ⟨hx, hb, hml, hown, hts⟩ (v_within_20 l D K x_93 H.size) (va_cwS 3 hts gX12_flare_X12_within rfl rfl rfl (by decide +kernel) ⟨Nat.le_of_ble_eq_true rfl, Nat.le_of_ble_eq_true rfl⟩) (mkS hK hN (va_P.nil) (va_D.nil (A := fun _ => True))) rfl rfl hl.1 rfl (lv_room (Nat.le_of_ble_eq_true rfl)) dX12_flare_28 ⟨Nat.le_of_ble_eq_true rfl, Nat.le_of_ble_eq_true rfl⟩) (fun r_94 hw => ?_)
  obtain ⟨h_95, -⟩ := hw
  refine va_iast hx hb hK hP hD hS 1 0 rfl rfl (i_in hx_85 (by omega)) dX12_flare_31 (fun H locs hP hD hS => ?_)
  generalize hf_96 : (upd fw (x_85 : Int32).toNatClampNeg r_94) = f_96 at hP hD
  have hf_96_0 : RwOK f_96 := by rw [← hf_96]; exact RwOK.upd zfw hx_85 (by omega) rfl (PR.w_11 (by omega) (by omega))
  have hP : va_P D vwCl [(m0, .inr (12, [m_0, m_1, m_2, .ref w0, m_4, m_5, m_6, m_7, m_8, m_9, m_10, m_11, m_12, m_13, m_14, m_15, m_16, m_17, m_18, m_19, .int 0, m_21, m_22, m_23, m_24, m_25, m_26, m_27, m_28, m_29, m_30, m_31, m_32, m_33, .int (u_89.2.2.2.1 0), .ref e0, m_36, .ref q0, .int (u_89.2.2.2.1 1), .long (u_89.2.2.2.2.1 0), .long (u_89.2.2.2.2.1 1), m_41, m_42, m_43, m_44, m_45, m_46, m_47, m_48, m_49, m_50, m_51, m_52, m_53, m_54, m_55, m_56, m_57, m_58, m_59])), (w0, .inl (K 0, 5500, .inl f_96)), (e0, .inl (K 2, 13, .inr (.inl (u_89.2.2.1 0)))), (q0, .inl (K 2, 400, .inr (.inl (u_89.2.2.1 1))))] H := hP
  have hD : va_D A [(m0, .inr (12, [m_0, m_1, m_2, .ref w0, m_4, m_5, m_6, m_7, m_8, m_9, m_10, m_11, m_12, m_13, m_14, m_15, m_16, m_17, m_18, m_19, .int 0, m_21, m_22, m_23, m_24, m_25, m_26, m_27, m_28, m_29, m_30, m_31, m_32, m_33, .int (u_89.2.2.2.1 0), .ref e0, m_36, .ref q0, .int (u_89.2.2.2.1 1), .long (u_89.2.2.2.2.1 0), .long (u_89.2.2.2.2.1 1), m_41, m_42, m_43, m_44, m_45, m_46, m_47, m_48, m_49, m_50, m_51, m_52, m_53, m_54, m_55, m_56, m_57, m_58, m_59])), (w0, .inl (K 0, 5500, .inl f_96)), (e0, .inl (K 2, 13, .inr (.inl (u_89.2.2.1 0)))), (q0, .inl (K 2, 400, .inr (.inl (u_89.2.2.1 1))))] := hD
  rw [← hQ]
  have hP9 := hP.sub (ws' := [(m0, .inr (12, [m_0, m_1, m_2, .ref w0, m_4, m_5, m_6, m_7, m_8, m_9, m_10, m_11, m_12, m_13, m_14, m_15, m_16, m_17, m_18, m_19, .int 0, m_21, m_22, m_23, m_24, m_25, m_26, m_27, m_28, m_29, m_30, m_31, m_32, m_33, .int (u_89.2.2.2.1 0), .ref e0, m_36, .ref q0, .int (u_89.2.2.2.1 1), .long (u_89.2.2.2.2.1 0), .long (u_89.2.2.2.2.1 1), m_41, m_42, m_43, m_44, m_45, m_46, m_47, m_48, m_49, m_50, m_51, m_52, m_53, m_54, m_55, m_56, m_57, m_58, m_59])), (w0, .inl (K 0, 5500, .inl f_96)), (e0, .inl (K 2, 13, .inr (.inl (u_89.2.2.1 0)))), (q0, .inl (K 2, 400, .inr (.inl (u_89.2.2.1 1))))]) [0, 1, 2, 3] rfl
  have hD9 := hD.sub (ws' := [(m0, .inr (12, [m_0, m_1, m_2, .ref w0, m_4, m_5, m_6, m_7, m_8, m_9, m_10, m_11, m_12, m_13, m_14, m_15, m_16, m_17, m_18, m_19, .int 0, m_21, m_22, m_23, m_24, m_25, m_26, m_27, m_28, m_29, m_30, m_31, m_32, m_33, .int (u_89.2.2.2.1 0), .ref e0, m_36, .ref q0, .int (u_89.2.2.2.1 1), .long (u_89.2.2.2.2.1 0), .long (u_89.2.2.2.2.1 1), m_41, m_42, m_43, m_44, m_45, m_46, m_47, m_48, m_49, m_50, m_51, m_52, m_53, m_54, m_55, m_56, m_57, m_58, m_59])), (w0, .inl (K 0, 5500, .inl f_96)), (e0, .inl (K 2, 13, .inr (.inl (u_89.2.2.1 0)))), (q0, .inl (K 2, 400, .inr (.inl (u_89.2.2.1 1))))]) [0, 1, 2, 3] (by decide) rfl
  exact W.vret hx hb hr (fun t ht hW => ⟨⟨((fun _ => 0, fun i => match i with | _ => f_96, fun i => match i with | 0 => (u_89.2.2.1 0) | _ => (u_89.2.2.1 1), fun i => match i with | 0 => (u_89.2.2.2.1 0) | _ => (u_89.2.2.2.1 1), fun i => match i with | 0 => (u_89.2.2.2.2.1 0) | _ => (u_89.2.2.2.2.1 1), fun _ => fun _ => none) : Su), rfl, ⟨(show 0 ≤ ((u_89.2.2.2.1 1) : Int32).toInt ∧ ((u_89.2.2.2.1 1) : Int32).toInt ≤ 1 by omega), hf_96_0, trivial⟩, (⟨by rw [ht]; exact hP9, hD9⟩ : Wd D A _ t)⟩, hS.F ht⟩) hS.2.2 dX12_flare_32
set_option maxHeartbeats 4000000 in
set_option maxRecDepth 100000 in
theorem v_canStoke (l : Launch) (D : va_G) (K : Nat → ClassId) (m0 : Nat) (x : Int32) (m_0 : Value) (m_1 : Value) (m_2 : Value) (w0 : Nat) (m_4 : Value) (m_5 : Value) (m_6 : Value) (m_7 : Value) (m_8 : Value) (m_9 : Value) (m_10 : Value) (m_11 : Value) (m_12 : Value) (m_13 : Value) (m_14 : Value) (m_15 : Value) (m_16 : Value) (m_17 : Value) (m_18 : Value) (m_19 : Value) (m_21 : Value) (m_22 : Value) (m_23 : Value) (m_24 : Value) (m_25 : Value) (m_26 : Value) (m_27 : Value) (m_28 : Value) (m_29 : Value) (m_30 : Value) (m_31 : Value) (m_32 : Value) (m_33 : Value) (lw : Int32) (e0 : Nat) (m_36 : Value) (q0 : Nat) (bro : Int32) (val : Int64) (sm : Int64) (m_41 : Value) (m_42 : Value) (m_43 : Value) (m_44 : Value) (m_45 : Value) (m_46 : Value) (m_47 : Value) (m_48 : Value) (m_49 : Value) (m_50 : Value) (m_51 : Value) (m_52 : Value) (m_53 : Value) (m_54 : Value) (m_55 : Value) (m_56 : Value) (m_57 : Value) (m_58 : Value) (m_59 : Value) (fw : Nat → Int32) (fe : Nat → Int64) (frs : Nat → Int64) (sz : Nat) (zbro : 0 ≤ bro.toInt ∧ bro.toInt ≤ 1) (zx : 0 ≤ x.toInt ∧ x.toInt ≤ 7) (zfw : RwOK fw) : Met l yX12_canStoke wsX12_canStoke ({ frames := 5, cells := 0, slots := 0, locals := 123 }) (va_Pc [.ref m0, .int x] (Pre D K [(m0, .inr (12, [m_0, m_1, m_2, .ref w0, m_4, m_5, m_6, m_7, m_8, m_9, m_10, m_11, m_12, m_13, m_14, m_15, m_16, m_17, m_18, m_19, .int 0, m_21, m_22, m_23, m_24, m_25, m_26, m_27, m_28, m_29, m_30, m_31, m_32, m_33, .int lw, .ref e0, m_36, .ref q0, .int bro, .long val, .long sm, m_41, m_42, m_43, m_44, m_45, m_46, m_47, m_48, m_49, m_50, m_51, m_52, m_53, m_54, m_55, m_56, m_57, m_58, m_59])), (w0, .inl (K 0, 5500, .inl fw)), (e0, .inl (K 2, 13, .inr (.inl fe))), (q0, .inl (K 2, 400, .inr (.inl frs)))] sz)) (va_Qi (S := Su) (fun (r : Int32) (u : Su) => (0 ≤ r.toInt ∧ r.toInt ≤ 1) ∧ (0 ≤ (u.2.2.2.1 1).toInt ∧ (u.2.2.2.1 1).toInt ≤ 1) ∧ True) (fun u t => Wd D (va_A [(m0, .inr (12, [m_0, m_1, m_2, .ref w0, m_4, m_5, m_6, m_7, m_8, m_9, m_10, m_11, m_12, m_13, m_14, m_15, m_16, m_17, m_18, m_19, .int 0, m_21, m_22, m_23, m_24, m_25, m_26, m_27, m_28, m_29, m_30, m_31, m_32, m_33, .int lw, .ref e0, m_36, .ref q0, .int bro, .long val, .long sm, m_41, m_42, m_43, m_44, m_45, m_46, m_47, m_48, m_49, m_50, m_51, m_52, m_53, m_54, m_55, m_56, m_57, m_58, m_59])), (w0, .inl (K 0, 5500, .inl fw)), (e0, .inl (K 2, 13, .inr (.inl fe))), (q0, .inl (K 2, 400, .inr (.inl frs)))] sz) ((fun u => [(m0, .inr (12, [m_0, m_1, m_2, .ref w0, m_4, m_5, m_6, m_7, m_8, m_9, m_10, m_11, m_12, m_13, m_14, m_15, m_16, m_17, m_18, m_19, .int 0, m_21, m_22, m_23, m_24, m_25, m_26, m_27, m_28, m_29, m_30, m_31, m_32, m_33, .int (u.2.2.2.1 0), .ref e0, m_36, .ref q0, .int (u.2.2.2.1 1), .long (u.2.2.2.2.1 0), .long (u.2.2.2.2.1 1), m_41, m_42, m_43, m_44, m_45, m_46, m_47, m_48, m_49, m_50, m_51, m_52, m_53, m_54, m_55, m_56, m_57, m_58, m_59])), (w0, .inl (K 0, 5500, .inl fw)), (e0, .inl (K 2, 13, .inr (.inl (u.2.2.1 0)))), (q0, .inl (K 2, 400, .inr (.inl (u.2.2.1 1))))]) u) t) (va_A [(m0, .inr (12, [m_0, m_1, m_2, .ref w0, m_4, m_5, m_6, m_7, m_8, m_9, m_10, m_11, m_12, m_13, m_14, m_15, m_16, m_17, m_18, m_19, .int 0, m_21, m_22, m_23, m_24, m_25, m_26, m_27, m_28, m_29, m_30, m_31, m_32, m_33, .int lw, .ref e0, m_36, .ref q0, .int bro, .long val, .long sm, m_41, m_42, m_43, m_44, m_45, m_46, m_47, m_48, m_49, m_50, m_51, m_52, m_53, m_54, m_55, m_56, m_57, m_58, m_59])), (w0, .inl (K 0, 5500, .inl fw)), (e0, .inl (K 2, 13, .inr (.inl fe))), (q0, .inl (K 2, 400, .inr (.inl frs)))] sz)) 0 0 (va_A [(m0, .inr (12, [m_0, m_1, m_2, .ref w0, m_4, m_5, m_6, m_7, m_8, m_9, m_10, m_11, m_12, m_13, m_14, m_15, m_16, m_17, m_18, m_19, .int 0, m_21, m_22, m_23, m_24, m_25, m_26, m_27, m_28, m_29, m_30, m_31, m_32, m_33, .int lw, .ref e0, m_36, .ref q0, .int bro, .long val, .long sm, m_41, m_42, m_43, m_44, m_45, m_46, m_47, m_48, m_49, m_50, m_51, m_52, m_53, m_54, m_55, m_56, m_57, m_58, m_59])), (w0, .inl (K 0, 5500, .inl fw)), (e0, .inl (K 2, 13, .inr (.inl fe))), (q0, .inl (K 2, 400, .inr (.inl frs)))] sz) := by
  refine Met.ofW (cc := cX12_canStoke) (maxL := 2) (ret := (some .boolean)) (by decide) rfl ?_
  intro p e s m args below meth c s₁ B hml hv
  obtain ⟨rfl, hsz, hP, hK, hD0, hN⟩ := hv
  have hx := B.exec
  have hb := B.bytes
  have hr := B.returns
  have hts := atoms_spec (ws := wsX12_canStoke) B.pre
  have hown : s.vm.findClass RX12 = some m.cls := findClass_of_methodNamed B.named
  have hlocks := B.notSynchronized
  subst hsz
  have hD := hD0.self (sz := s.heap.size)
  generalize hAe : va_A [(m0, .inr (12, [m_0, m_1, m_2, .ref w0, m_4, m_5, m_6, m_7, m_8, m_9, m_10, m_11, m_12, m_13, m_14, m_15, m_16, m_17, m_18, m_19, .int 0, m_21, m_22, m_23, m_24, m_25, m_26, m_27, m_28, m_29, m_30, m_31, m_32, m_33, .int lw, .ref e0, m_36, .ref q0, .int bro, .long val, .long sm, m_41, m_42, m_43, m_44, m_45, m_46, m_47, m_48, m_49, m_50, m_51, m_52, m_53, m_54, m_55, m_56, m_57, m_58, m_59])), (w0, .inl (K 0, 5500, .inl fw)), (e0, .inl (K 2, 13, .inr (.inl fe))), (q0, .inl (K 2, 400, .inr (.inl frs)))] s.heap.size = A at hD ⊢
  have hA : ∀ q : Nat, s.heap.size ≤ q → A q := fun q h => by rw [← hAe]; exact Or.inr h
  have hS : va_S A s.heap s.heap [] := va_S.rf
  have hP : va_P D vwCl [(m0, .inr (12, [m_0, m_1, m_2, .ref w0, m_4, m_5, m_6, m_7, m_8, m_9, m_10, m_11, m_12, m_13, m_14, m_15, m_16, m_17, m_18, m_19, .int 0, m_21, m_22, m_23, m_24, m_25, m_26, m_27, m_28, m_29, m_30, m_31, m_32, m_33, .int lw, .ref e0, m_36, .ref q0, .int bro, .long val, .long sm, m_41, m_42, m_43, m_44, m_45, m_46, m_47, m_48, m_49, m_50, m_51, m_52, m_53, m_54, m_55, m_56, m_57, m_58, m_59])), (w0, .inl (K 0, 5500, .inl fw)), (e0, .inl (K 2, 13, .inr (.inl fe))), (q0, .inl (K 2, 400, .inr (.inl frs)))] s.heap := hP
  have hl := lv_entry [.ref m0, .int x] (n := 2) (Nat.le_of_ble_eq_true rfl)
  rw [lg_entry_eq]
  generalize (lg_sl [.ref m0, .int x] ++ List.replicate (2 - (lg_sl [.ref m0, .int x]).length) Slot.unset).toArray = ls at hl ⊢
  have hl : lv_has ls 2 [(0, .ref m0), (1, .int x)] := hl
  have hw12 : ∀ w ∈ wsX120, w ∈ wsX12_canStoke := fun w h => (List.mem_cons_of_mem _ (List.mem_append_right _ h))
  generalize hQ : MQ below _ _ s _ _ _ = Q
  refine lv_aload_n hx hb dX12_canStoke_0 rfl (lv_at hl 0 rfl) ?_
  refine va_get (ci := 12) (v := .ref w0) (C := RX12) (T := TX12) (N := 60) hx hb hts hw12 hown hK hP 0 rfl rfl 3 (by decide) (hts (.fieldLink RX12 13 "SmokeTuneModel" "row" "[I") (List.mem_cons_of_mem _ (List.mem_append_left _ (List.mem_append_left _ (List.mem_of_getElem? (i := 0) rfl))))) (fun _ h9 => h9) rfl dX12_canStoke_1 ?_
  refine lv_bipush (v := 19) hx hb dX12_canStoke_4 (by decide) ?_
  refine lv_iload_n hx hb dX12_canStoke_6 rfl (lv_at hl 1 rfl) ?_
  refine lv_iadd hx hb dX12_canStoke_7 ?_
  refine lv_topi (fun x_103 ex_103 => ?_)
  have hx_103 : x_103.toInt = (19 + x.toInt) := by rw [ex_103]; exact i_add (show (19 : Int32).toInt = 19 from rfl) rfl (by omega)
  refine va_iald hx hb hK hP 1 0 rfl rfl (i_in hx_103 (by omega)) dX12_canStoke_8 ?_
  refine lv_topi (fun x_104 ex_104 => ?_)
  have px_104 := RwOK.at zfw hx_103 (show 0 ≤ (19 + x.toInt) ∧ (19 + x.toInt) < 100 by omega)
  rw [← ex_104] at px_104
  have j_117 : ∀ (v_111 : Int32) (v_112 : Int32) (v_113 : Int64) (v_114 : Int64) (f_115 : Nat → Int64) (f_116 : Nat → Int64) (hv_112 : 0 ≤ v_112.toInt ∧ v_112.toInt ≤ 1) (H : Heap) (locs : List Loc) (hP : va_P D vwCl [(m0, .inr (12, [m_0, m_1, m_2, .ref w0, m_4, m_5, m_6, m_7, m_8, m_9, m_10, m_11, m_12, m_13, m_14, m_15, m_16, m_17, m_18, m_19, .int 0, m_21, m_22, m_23, m_24, m_25, m_26, m_27, m_28, m_29, m_30, m_31, m_32, m_33, .int v_111, .ref e0, m_36, .ref q0, .int v_112, .long v_113, .long v_114, m_41, m_42, m_43, m_44, m_45, m_46, m_47, m_48, m_49, m_50, m_51, m_52, m_53, m_54, m_55, m_56, m_57, m_58, m_59])), (w0, .inl (K 0, 5500, .inl fw)), (e0, .inl (K 2, 13, .inr (.inl f_115))), (q0, .inl (K 2, 400, .inr (.inl f_116)))] H) (hD : va_D A [(m0, .inr (12, [m_0, m_1, m_2, .ref w0, m_4, m_5, m_6, m_7, m_8, m_9, m_10, m_11, m_12, m_13, m_14, m_15, m_16, m_17, m_18, m_19, .int 0, m_21, m_22, m_23, m_24, m_25, m_26, m_27, m_28, m_29, m_30, m_31, m_32, m_33, .int v_111, .ref e0, m_36, .ref q0, .int v_112, .long v_113, .long v_114, m_41, m_42, m_43, m_44, m_45, m_46, m_47, m_48, m_49, m_50, m_51, m_52, m_53, m_54, m_55, m_56, m_57, m_58, m_59])), (w0, .inl (K 0, 5500, .inl fw)), (e0, .inl (K 2, 13, .inr (.inl f_115))), (q0, .inl (K 2, 400, .inr (.inl f_116)))]) (hS : va_S A s.heap H locs) (ls : Array Slot) (hl : lv_has ls 2 []), W p l e ({ frames := 5, cells := 0, slots := 0, locals := 123 }) s m (([.ref m0, .int x] : List Value).toArray) below meth c H locs 0 0 Q (F0 m 24 ls []) := by
    intro v_111 v_112 v_113 v_114 f_115 f_116 hv_112 H locs hP hD hS ls hl
    refine lv_iconst (v := 0) hx hb dX12_canStoke_24 (by decide) ?_
    rw [← hQ]
    have hP9 := hP.sub (ws' := [(m0, .inr (12, [m_0, m_1, m_2, .ref w0, m_4, m_5, m_6, m_7, m_8, m_9, m_10, m_11, m_12, m_13, m_14, m_15, m_16, m_17, m_18, m_19, .int 0, m_21, m_22, m_23, m_24, m_25, m_26, m_27, m_28, m_29, m_30, m_31, m_32, m_33, .int v_111, .ref e0, m_36, .ref q0, .int v_112, .long v_113, .long v_114, m_41, m_42, m_43, m_44, m_45, m_46, m_47, m_48, m_49, m_50, m_51, m_52, m_53, m_54, m_55, m_56, m_57, m_58, m_59])), (w0, .inl (K 0, 5500, .inl fw)), (e0, .inl (K 2, 13, .inr (.inl f_115))), (q0, .inl (K 2, 400, .inr (.inl f_116)))]) [0, 1, 2, 3] rfl
    have hD9 := hD.sub (ws' := [(m0, .inr (12, [m_0, m_1, m_2, .ref w0, m_4, m_5, m_6, m_7, m_8, m_9, m_10, m_11, m_12, m_13, m_14, m_15, m_16, m_17, m_18, m_19, .int 0, m_21, m_22, m_23, m_24, m_25, m_26, m_27, m_28, m_29, m_30, m_31, m_32, m_33, .int v_111, .ref e0, m_36, .ref q0, .int v_112, .long v_113, .long v_114, m_41, m_42, m_43, m_44, m_45, m_46, m_47, m_48, m_49, m_50, m_51, m_52, m_53, m_54, m_55, m_56, m_57, m_58, m_59])), (w0, .inl (K 0, 5500, .inl fw)), (e0, .inl (K 2, 13, .inr (.inl f_115))), (q0, .inl (K 2, 400, .inr (.inl f_116)))]) [0, 1, 2, 3] (by decide) rfl
    exact W.zret (v := 0) hx hb hr (by decide) (fun t ht hW => ⟨⟨0, ((fun _ => 0, fun _ => fun _ => 0, fun i => match i with | 0 => f_115 | _ => f_116, fun i => match i with | 0 => v_111 | _ => v_112, fun i => match i with | 0 => v_113 | _ => v_114, fun _ => fun _ => none) : Su), rfl, ⟨(show 0 ≤ (0 : Int32).toInt ∧ (0 : Int32).toInt ≤ 1 by decide), (show 0 ≤ (v_112 : Int32).toInt ∧ (v_112 : Int32).toInt ≤ 1 by omega), trivial⟩, (⟨by rw [ht]; exact hP9, hD9⟩ : Wd D A _ t)⟩, hS.F ht⟩) hS.2.2 dX12_canStoke_25
  refine lv_if_le (tgt := 24) hx hb dX12_canStoke_9 (by decide) (fun c_118 => ?_) (fun c_118 => ?_)
  · have c_118i := i_le (x := x_104.toInt) (y := 0) rfl rfl c_118
    exact j_117 lw bro val sm fe frs (by omega) _ _ hP hD hS ls (lv_sub hl [] rfl)
  · have c_118i := i_nle (x := x_104.toInt) (y := 0) rfl rfl c_118
    refine lv_aload_n hx hb dX12_canStoke_12 rfl (lv_at hl 0 rfl) ?_
    refine lv_iload_n hx hb dX12_canStoke_13 rfl (lv_at hl 1 rfl) ?_
    refine kci (S := Su) (wr := []) (va_runV (As := [.int x]) (rest := []) ⟨hx, hb, hml, hown, hts⟩ (v_isBarred l D K m0 x m_0 m_1 m_2 w0 m_4 m_5 m_6 m_7 m_8 m_9 m_10 m_11 m_12 m_13 m_14 m_15 m_16 m_17 m_18 m_19 m_21 m_22 m_23 m_24 m_25 m_26 m_27 m_28 m_29 m_30 m_31 m_32 m_33 lw e0 m_36 q0 bro val sm m_41 m_42 m_43 m_44 m_45 m_46 m_47 m_48 m_49 m_50 m_51 m_52 m_53 m_54 m_55 m_56 m_57 m_58 m_59 fw fe frs s.heap.size (by first | omega | decide) (by first | omega | decide) zfw) (cwV 1 hts gX12_canStoke_X12_isBarred rfl rfl rfl (by decide +kernel) ⟨Nat.le_of_ble_eq_true rfl, Nat.le_of_ble_eq_true rfl⟩) (mkV hK hN (hP.sub [0, 1, 2, 3] rfl) (hD.sub [0, 1, 2, 3] (by decide) rfl) (ci := 12) (q0 := 0) rfl rfl) rfl rfl hl.1 rfl (lv_room (Nat.le_of_ble_eq_true rfl)) dX12_canStoke_14 ⟨Nat.le_of_ble_eq_true rfl, Nat.le_of_ble_eq_true rfl⟩) hP hD hS hA [0, 1, 2, 3] [] rfl rfl (by decide) (by decide) (fun r_119 u_120 H locs hw hP hD hS => ?_)
    have hP : va_P D vwCl [(m0, .inr (12, [m_0, m_1, m_2, .ref w0, m_4, m_5, m_6, m_7, m_8, m_9, m_10, m_11, m_12, m_13, m_14, m_15, m_16, m_17, m_18, m_19, .int 0, m_21, m_22, m_23, m_24, m_25, m_26, m_27, m_28, m_29, m_30, m_31, m_32, m_33, .int (u_120.2.2.2.1 0), .ref e0, m_36, .ref q0, .int (u_120.2.2.2.1 1), .long (u_120.2.2.2.2.1 0), .long (u_120.2.2.2.2.1 1), m_41, m_42, m_43, m_44, m_45, m_46, m_47, m_48, m_49, m_50, m_51, m_52, m_53, m_54, m_55, m_56, m_57, m_58, m_59])), (w0, .inl (K 0, 5500, .inl fw)), (e0, .inl (K 2, 13, .inr (.inl (u_120.2.2.1 0)))), (q0, .inl (K 2, 400, .inr (.inl (u_120.2.2.1 1))))] H := hP
    have hD : va_D A [(m0, .inr (12, [m_0, m_1, m_2, .ref w0, m_4, m_5, m_6, m_7, m_8, m_9, m_10, m_11, m_12, m_13, m_14, m_15, m_16, m_17, m_18, m_19, .int 0, m_21, m_22, m_23, m_24, m_25, m_26, m_27, m_28, m_29, m_30, m_31, m_32, m_33, .int (u_120.2.2.2.1 0), .ref e0, m_36, .ref q0, .int (u_120.2.2.2.1 1), .long (u_120.2.2.2.2.1 0), .long (u_120.2.2.2.2.1 1), m_41, m_42, m_43, m_44, m_45, m_46, m_47, m_48, m_49, m_50, m_51, m_52, m_53, m_54, m_55, m_56, m_57, m_58, m_59])), (w0, .inl (K 0, 5500, .inl fw)), (e0, .inl (K 2, 13, .inr (.inl (u_120.2.2.1 0)))), (q0, .inl (K 2, 400, .inr (.inl (u_120.2.2.1 1))))] := hD
    obtain ⟨h_122, k_121, -⟩ := hw
    refine lv_if_ne (tgt := 24) hx hb dX12_canStoke_17 (by decide) (fun c_123 => ?_) (fun c_123 => ?_)
    · have c_123i := i_ne (x := r_119.toInt) (y := 0) rfl rfl c_123
      exact j_117 (u_120.2.2.2.1 0) (u_120.2.2.2.1 1) (u_120.2.2.2.2.1 0) (u_120.2.2.2.2.1 1) (u_120.2.2.1 0) (u_120.2.2.1 1) (by omega) _ _ hP hD hS ls (lv_sub hl [] rfl)
    · have c_123i := i_eq (x := r_119.toInt) (y := 0) rfl rfl c_123
      refine lv_iconst (v := 1) hx hb dX12_canStoke_20 (by decide) ?_
      refine lv_goto (tgt := 25) hx hb dX12_canStoke_21 (by decide) ?_
      rw [← hQ]
      have hP9 := hP.sub (ws' := [(m0, .inr (12, [m_0, m_1, m_2, .ref w0, m_4, m_5, m_6, m_7, m_8, m_9, m_10, m_11, m_12, m_13, m_14, m_15, m_16, m_17, m_18, m_19, .int 0, m_21, m_22, m_23, m_24, m_25, m_26, m_27, m_28, m_29, m_30, m_31, m_32, m_33, .int (u_120.2.2.2.1 0), .ref e0, m_36, .ref q0, .int (u_120.2.2.2.1 1), .long (u_120.2.2.2.2.1 0), .long (u_120.2.2.2.2.1 1), m_41, m_42, m_43, m_44, m_45, m_46, m_47, m_48, m_49, m_50, m_51, m_52, m_53, m_54, m_55, m_56, m_57, m_58, m_59])), (w0, .inl (K 0, 5500, .inl fw)), (e0, .inl (K 2, 13, .inr (.inl (u_120.2.2.1 0)))), (q0, .inl (K 2, 400, .inr (.inl (u_120.2.2.1 1))))]) [0, 1, 2, 3] rfl
      have hD9 := hD.sub (ws' := [(m0, .inr (12, [m_0, m_1, m_2, .ref w0, m_4, m_5, m_6, m_7, m_8, m_9, m_10, m_11, m_12, m_13, m_14, m_15, m_16, m_17, m_18, m_19, .int 0, m_21, m_22, m_23, m_24, m_25, m_26, m_27, m_28, m_29, m_30, m_31, m_32, m_33, .int (u_120.2.2.2.1 0), .ref e0, m_36, .ref q0, .int (u_120.2.2.2.1 1), .long (u_120.2.2.2.2.1 0), .long (u_120.2.2.2.2.1 1), m_41, m_42, m_43, m_44, m_45, m_46, m_47, m_48, m_49, m_50, m_51, m_52, m_53, m_54, m_55, m_56, m_57, m_58, m_59])), (w0, .inl (K 0, 5500, .inl fw)), (e0, .inl (K 2, 13, .inr (.inl (u_120.2.2.1 0)))), (q0, .inl (K 2, 400, .inr (.inl (u_120.2.2.1 1))))]) [0, 1, 2, 3] (by decide) rfl
      exact W.zret (v := 1) hx hb hr (by decide) (fun t ht hW => ⟨⟨1, ((fun _ => 0, fun _ => fun _ => 0, fun i => match i with | 0 => (u_120.2.2.1 0) | _ => (u_120.2.2.1 1), fun i => match i with | 0 => (u_120.2.2.2.1 0) | _ => (u_120.2.2.2.1 1), fun i => match i with | 0 => (u_120.2.2.2.2.1 0) | _ => (u_120.2.2.2.2.1 1), fun _ => fun _ => none) : Su), rfl, ⟨(show 0 ≤ (1 : Int32).toInt ∧ (1 : Int32).toInt ≤ 1 by decide), (show 0 ≤ ((u_120.2.2.2.1 1) : Int32).toInt ∧ ((u_120.2.2.2.1 1) : Int32).toInt ≤ 1 by omega), trivial⟩, (⟨by rw [ht]; exact hP9, hD9⟩ : Wd D A _ t)⟩, hS.F ht⟩) hS.2.2 dX12_canStoke_25
set_option maxHeartbeats 4000000 in
set_option maxRecDepth 100000 in
theorem v_stokeIt (l : Launch) (D : va_G) (K : Nat → ClassId) (m0 : Nat) (x : Int32) (m_0 : Value) (m_1 : Value) (m_2 : Value) (w0 : Nat) (m_4 : Value) (m_5 : Value) (m_6 : Value) (m_7 : Value) (m_8 : Value) (m_9 : Value) (m_10 : Value) (m_11 : Value) (m_12 : Value) (m_13 : Value) (m_14 : Value) (m_15 : Value) (m_16 : Value) (m_17 : Value) (m_18 : Value) (m_19 : Value) (m_21 : Value) (m_22 : Value) (m_23 : Value) (m_24 : Value) (m_25 : Value) (m_26 : Value) (m_27 : Value) (m_28 : Value) (m_29 : Value) (m_30 : Value) (m_31 : Value) (m_32 : Value) (m_33 : Value) (lw : Int32) (e0 : Nat) (m_36 : Value) (q0 : Nat) (bro : Int32) (val : Int64) (sm : Int64) (m_41 : Value) (m_42 : Value) (m_43 : Value) (m_44 : Value) (m_45 : Value) (m_46 : Value) (m_47 : Value) (m_48 : Value) (m_49 : Value) (m_50 : Value) (m_51 : Value) (m_52 : Value) (m_53 : Value) (m_54 : Value) (m_55 : Value) (m_56 : Value) (m_57 : Value) (m_58 : Value) (m_59 : Value) (fw : Nat → Int32) (fe : Nat → Int64) (frs : Nat → Int64) (sz : Nat) (zbro : 0 ≤ bro.toInt ∧ bro.toInt ≤ 1) (zx : 0 ≤ x.toInt ∧ x.toInt ≤ 7) (zfw : RwOK fw) : Met l yX12_stokeIt wsX12_stokeIt ({ frames := 6, cells := 0, slots := 0, locals := 146 }) (va_Pc [.ref m0, .int x] (Pre D K [(m0, .inr (12, [m_0, m_1, m_2, .ref w0, m_4, m_5, m_6, m_7, m_8, m_9, m_10, m_11, m_12, m_13, m_14, m_15, m_16, m_17, m_18, m_19, .int 0, m_21, m_22, m_23, m_24, m_25, m_26, m_27, m_28, m_29, m_30, m_31, m_32, m_33, .int lw, .ref e0, m_36, .ref q0, .int bro, .long val, .long sm, m_41, m_42, m_43, m_44, m_45, m_46, m_47, m_48, m_49, m_50, m_51, m_52, m_53, m_54, m_55, m_56, m_57, m_58, m_59])), (w0, .inl (K 0, 5500, .inl fw)), (e0, .inl (K 2, 13, .inr (.inl fe))), (q0, .inl (K 2, 400, .inr (.inl frs)))] sz)) (va_Qv (S := Su) (fun (u : Su) => (0 ≤ (u.2.2.2.1 1).toInt ∧ (u.2.2.2.1 1).toInt ≤ 1) ∧ (RwOK (u.2.1 0)) ∧ True) (fun u t => Wd D (va_A [(m0, .inr (12, [m_0, m_1, m_2, .ref w0, m_4, m_5, m_6, m_7, m_8, m_9, m_10, m_11, m_12, m_13, m_14, m_15, m_16, m_17, m_18, m_19, .int 0, m_21, m_22, m_23, m_24, m_25, m_26, m_27, m_28, m_29, m_30, m_31, m_32, m_33, .int lw, .ref e0, m_36, .ref q0, .int bro, .long val, .long sm, m_41, m_42, m_43, m_44, m_45, m_46, m_47, m_48, m_49, m_50, m_51, m_52, m_53, m_54, m_55, m_56, m_57, m_58, m_59])), (w0, .inl (K 0, 5500, .inl fw)), (e0, .inl (K 2, 13, .inr (.inl fe))), (q0, .inl (K 2, 400, .inr (.inl frs)))] sz) ((fun u => [(m0, .inr (12, [m_0, m_1, m_2, .ref w0, m_4, m_5, m_6, m_7, m_8, m_9, m_10, m_11, m_12, m_13, m_14, m_15, m_16, m_17, m_18, m_19, .int 0, m_21, m_22, m_23, m_24, m_25, m_26, m_27, m_28, m_29, m_30, m_31, m_32, m_33, .int (u.2.2.2.1 0), .ref e0, m_36, .ref q0, .int (u.2.2.2.1 1), .long (u.2.2.2.2.1 0), .long (u.2.2.2.2.1 1), m_41, m_42, m_43, m_44, m_45, m_46, m_47, m_48, m_49, m_50, m_51, m_52, m_53, m_54, m_55, m_56, m_57, m_58, m_59])), (w0, .inl (K 0, 5500, .inl (u.2.1 0))), (e0, .inl (K 2, 13, .inr (.inl (u.2.2.1 0)))), (q0, .inl (K 2, 400, .inr (.inl (u.2.2.1 1))))]) u) t) (va_A [(m0, .inr (12, [m_0, m_1, m_2, .ref w0, m_4, m_5, m_6, m_7, m_8, m_9, m_10, m_11, m_12, m_13, m_14, m_15, m_16, m_17, m_18, m_19, .int 0, m_21, m_22, m_23, m_24, m_25, m_26, m_27, m_28, m_29, m_30, m_31, m_32, m_33, .int lw, .ref e0, m_36, .ref q0, .int bro, .long val, .long sm, m_41, m_42, m_43, m_44, m_45, m_46, m_47, m_48, m_49, m_50, m_51, m_52, m_53, m_54, m_55, m_56, m_57, m_58, m_59])), (w0, .inl (K 0, 5500, .inl fw)), (e0, .inl (K 2, 13, .inr (.inl fe))), (q0, .inl (K 2, 400, .inr (.inl frs)))] sz)) 0 0 (va_A [(m0, .inr (12, [m_0, m_1, m_2, .ref w0, m_4, m_5, m_6, m_7, m_8, m_9, m_10, m_11, m_12, m_13, m_14, m_15, m_16, m_17, m_18, m_19, .int 0, m_21, m_22, m_23, m_24, m_25, m_26, m_27, m_28, m_29, m_30, m_31, m_32, m_33, .int lw, .ref e0, m_36, .ref q0, .int bro, .long val, .long sm, m_41, m_42, m_43, m_44, m_45, m_46, m_47, m_48, m_49, m_50, m_51, m_52, m_53, m_54, m_55, m_56, m_57, m_58, m_59])), (w0, .inl (K 0, 5500, .inl fw)), (e0, .inl (K 2, 13, .inr (.inl fe))), (q0, .inl (K 2, 400, .inr (.inl frs)))] sz) := by
  refine Met.ofW (cc := cX12_stokeIt) (maxL := 2) (ret := none) (by decide) rfl ?_
  intro p e s m args below meth c s₁ B hml hv
  obtain ⟨rfl, hsz, hP, hK, hD0, hN⟩ := hv
  have hx := B.exec
  have hb := B.bytes
  have hr := B.returns
  have hts := atoms_spec (ws := wsX12_stokeIt) B.pre
  have hown : s.vm.findClass RX12 = some m.cls := findClass_of_methodNamed B.named
  have hlocks := B.notSynchronized
  subst hsz
  have hD := hD0.self (sz := s.heap.size)
  generalize hAe : va_A [(m0, .inr (12, [m_0, m_1, m_2, .ref w0, m_4, m_5, m_6, m_7, m_8, m_9, m_10, m_11, m_12, m_13, m_14, m_15, m_16, m_17, m_18, m_19, .int 0, m_21, m_22, m_23, m_24, m_25, m_26, m_27, m_28, m_29, m_30, m_31, m_32, m_33, .int lw, .ref e0, m_36, .ref q0, .int bro, .long val, .long sm, m_41, m_42, m_43, m_44, m_45, m_46, m_47, m_48, m_49, m_50, m_51, m_52, m_53, m_54, m_55, m_56, m_57, m_58, m_59])), (w0, .inl (K 0, 5500, .inl fw)), (e0, .inl (K 2, 13, .inr (.inl fe))), (q0, .inl (K 2, 400, .inr (.inl frs)))] s.heap.size = A at hD ⊢
  have hA : ∀ q : Nat, s.heap.size ≤ q → A q := fun q h => by rw [← hAe]; exact Or.inr h
  have hS : va_S A s.heap s.heap [] := va_S.rf
  have hP : va_P D vwCl [(m0, .inr (12, [m_0, m_1, m_2, .ref w0, m_4, m_5, m_6, m_7, m_8, m_9, m_10, m_11, m_12, m_13, m_14, m_15, m_16, m_17, m_18, m_19, .int 0, m_21, m_22, m_23, m_24, m_25, m_26, m_27, m_28, m_29, m_30, m_31, m_32, m_33, .int lw, .ref e0, m_36, .ref q0, .int bro, .long val, .long sm, m_41, m_42, m_43, m_44, m_45, m_46, m_47, m_48, m_49, m_50, m_51, m_52, m_53, m_54, m_55, m_56, m_57, m_58, m_59])), (w0, .inl (K 0, 5500, .inl fw)), (e0, .inl (K 2, 13, .inr (.inl fe))), (q0, .inl (K 2, 400, .inr (.inl frs)))] s.heap := hP
  have hl := lv_entry [.ref m0, .int x] (n := 2) (Nat.le_of_ble_eq_true rfl)
  rw [lg_entry_eq]
  generalize (lg_sl [.ref m0, .int x] ++ List.replicate (2 - (lg_sl [.ref m0, .int x]).length) Slot.unset).toArray = ls at hl ⊢
  have hl : lv_has ls 2 [(0, .ref m0), (1, .int x)] := hl
  have hw12 : ∀ w ∈ wsX120, w ∈ wsX12_stokeIt := fun w h => (List.mem_cons_of_mem _ (List.mem_append_right _ h))
  generalize hQ : MQ below _ _ s _ _ _ = Q
  refine lv_aload_n hx hb dX12_stokeIt_0 rfl (lv_at hl 0 rfl) ?_
  refine lv_aload_n hx hb dX12_stokeIt_1 rfl (lv_at hl 0 rfl) ?_
  refine va_get (ci := 12) (v := .ref w0) (C := RX12) (T := TX12) (N := 60) hx hb hts hw12 hown hK hP 0 rfl rfl 3 (by decide) (hts (.fieldLink RX12 13 "SmokeTuneModel" "row" "[I") (List.mem_cons_of_mem _ (List.mem_append_left _ (List.mem_append_left _ (List.mem_of_getElem? (i := 0) rfl))))) (fun _ h9 => h9) rfl dX12_stokeIt_2 ?_
  refine lv_iconst (v := 3) hx hb dX12_stokeIt_5 (by decide) ?_
  refine va_iald hx hb hK hP 1 0 rfl rfl (i_in (x := 3) rfl (by omega)) dX12_stokeIt_6 ?_
  refine lv_topi (fun x_79 ex_79 => ?_)
  have px_79 := RwOK.at zfw (show (3 : Int32).toInt = 3 from rfl) (show 0 ≤ 3 ∧ 3 < 100 by omega)
  rw [← ex_79] at px_79
  have hx_79 := PR.r_3 px_79 (by omega)
  refine lv_iload_n hx hb dX12_stokeIt_7 rfl (lv_at hl 1 rfl) ?_
  refine kcv (S := Su) (wr := []) (va_runV (As := [.int x_79, .int x]) (rest := []) ⟨hx, hb, hml, hown, hts⟩ (v_flare l D K m0 x_79 x m_0 m_1 m_2 w0 m_4 m_5 m_6 m_7 m_8 m_9 m_10 m_11 m_12 m_13 m_14 m_15 m_16 m_17 m_18 m_19 m_21 m_22 m_23 m_24 m_25 m_26 m_27 m_28 m_29 m_30 m_31 m_32 m_33 lw e0 m_36 q0 bro val sm m_41 m_42 m_43 m_44 m_45 m_46 m_47 m_48 m_49 m_50 m_51 m_52 m_53 m_54 m_55 m_56 m_57 m_58 m_59 fw fe frs s.heap.size (by first | omega | decide) (by first | omega | decide) (by first | omega | decide) zfw) (cwV 2 hts gX12_stokeIt_X12_flare rfl rfl rfl (by decide +kernel) ⟨Nat.le_of_ble_eq_true rfl, Nat.le_of_ble_eq_true rfl⟩) (mkV hK hN (hP.sub [0, 1, 2, 3] rfl) (hD.sub [0, 1, 2, 3] (by decide) rfl) (ci := 12) (q0 := 0) rfl rfl) rfl rfl hl.1 rfl (lv_room (Nat.le_of_ble_eq_true rfl)) dX12_stokeIt_8 ⟨Nat.le_of_ble_eq_true rfl, Nat.le_of_ble_eq_true rfl⟩) hP hD hS hA [0, 1, 2, 3] [] rfl rfl (by decide) (by decide) (fun u_81 H locs hw hP hD hS => ?_)
  have hP : va_P D vwCl [(m0, .inr (12, [m_0, m_1, m_2, .ref w0, m_4, m_5, m_6, m_7, m_8, m_9, m_10, m_11, m_12, m_13, m_14, m_15, m_16, m_17, m_18, m_19, .int 0, m_21, m_22, m_23, m_24, m_25, m_26, m_27, m_28, m_29, m_30, m_31, m_32, m_33, .int (u_81.2.2.2.1 0), .ref e0, m_36, .ref q0, .int (u_81.2.2.2.1 1), .long (u_81.2.2.2.2.1 0), .long (u_81.2.2.2.2.1 1), m_41, m_42, m_43, m_44, m_45, m_46, m_47, m_48, m_49, m_50, m_51, m_52, m_53, m_54, m_55, m_56, m_57, m_58, m_59])), (w0, .inl (K 0, 5500, .inl (u_81.2.1 0))), (e0, .inl (K 2, 13, .inr (.inl (u_81.2.2.1 0)))), (q0, .inl (K 2, 400, .inr (.inl (u_81.2.2.1 1))))] H := hP
  have hD : va_D A [(m0, .inr (12, [m_0, m_1, m_2, .ref w0, m_4, m_5, m_6, m_7, m_8, m_9, m_10, m_11, m_12, m_13, m_14, m_15, m_16, m_17, m_18, m_19, .int 0, m_21, m_22, m_23, m_24, m_25, m_26, m_27, m_28, m_29, m_30, m_31, m_32, m_33, .int (u_81.2.2.2.1 0), .ref e0, m_36, .ref q0, .int (u_81.2.2.2.1 1), .long (u_81.2.2.2.2.1 0), .long (u_81.2.2.2.2.1 1), m_41, m_42, m_43, m_44, m_45, m_46, m_47, m_48, m_49, m_50, m_51, m_52, m_53, m_54, m_55, m_56, m_57, m_58, m_59])), (w0, .inl (K 0, 5500, .inl (u_81.2.1 0))), (e0, .inl (K 2, 13, .inr (.inl (u_81.2.2.1 0)))), (q0, .inl (K 2, 400, .inr (.inl (u_81.2.2.1 1))))] := hD
  obtain ⟨k_82, k_83, -⟩ := hw
  refine lv_aload_n hx hb dX12_stokeIt_11 rfl (lv_at hl 0 rfl) ?_
  refine va_get (ci := 12) (v := .ref w0) (C := RX12) (T := TX12) (N := 60) hx hb hts hw12 hown hK hP 0 rfl rfl 3 (by decide) (hts (.fieldLink RX12 13 "SmokeTuneModel" "row" "[I") (List.mem_cons_of_mem _ (List.mem_append_left _ (List.mem_append_left _ (List.mem_of_getElem? (i := 0) rfl))))) (fun _ h9 => h9) rfl dX12_stokeIt_12 ?_
  refine lv_bipush (v := 19) hx hb dX12_stokeIt_15 (by decide) ?_
  refine lv_iload_n hx hb dX12_stokeIt_17 rfl (lv_at hl 1 rfl) ?_
  refine lv_iadd hx hb dX12_stokeIt_18 ?_
  refine lv_topi (fun x_84 ex_84 => ?_)
  have hx_84 : x_84.toInt = (19 + x.toInt) := by rw [ex_84]; exact i_add (show (19 : Int32).toInt = 19 from rfl) rfl (by omega)
  refine lv_dup2_11 hx hb dX12_stokeIt_19 rfl rfl ?_
  refine va_iald hx hb hK hP 1 0 rfl rfl (i_in hx_84 (by omega)) dX12_stokeIt_20 ?_
  refine lv_topi (fun x_85 ex_85 => ?_)
  have px_85 := RwOK.at k_83 hx_84 (show 0 ≤ (19 + x.toInt) ∧ (19 + x.toInt) < 100 by omega)
  rw [← ex_85] at px_85
  refine lv_iconst (v := 1) hx hb dX12_stokeIt_21 (by decide) ?_
  refine lv_isub hx hb dX12_stokeIt_22 ?_
  refine lv_topi (fun x_86 ex_86 => ?_)
  refine va_iast hx hb hK hP hD hS 1 0 rfl rfl (i_in hx_84 (by omega)) dX12_stokeIt_23 (fun H locs hP hD hS => ?_)
  generalize hf_87 : (upd (u_81.2.1 0) (x_84 : Int32).toNatClampNeg x_86) = f_87 at hP hD
  have hf_87_0 : RwOK f_87 := by rw [← hf_87]; exact RwOK.upd k_83 hx_84 (by omega) rfl (PR.free (by omega))
  have hP : va_P D vwCl [(m0, .inr (12, [m_0, m_1, m_2, .ref w0, m_4, m_5, m_6, m_7, m_8, m_9, m_10, m_11, m_12, m_13, m_14, m_15, m_16, m_17, m_18, m_19, .int 0, m_21, m_22, m_23, m_24, m_25, m_26, m_27, m_28, m_29, m_30, m_31, m_32, m_33, .int (u_81.2.2.2.1 0), .ref e0, m_36, .ref q0, .int (u_81.2.2.2.1 1), .long (u_81.2.2.2.2.1 0), .long (u_81.2.2.2.2.1 1), m_41, m_42, m_43, m_44, m_45, m_46, m_47, m_48, m_49, m_50, m_51, m_52, m_53, m_54, m_55, m_56, m_57, m_58, m_59])), (w0, .inl (K 0, 5500, .inl f_87)), (e0, .inl (K 2, 13, .inr (.inl (u_81.2.2.1 0)))), (q0, .inl (K 2, 400, .inr (.inl (u_81.2.2.1 1))))] H := hP
  have hD : va_D A [(m0, .inr (12, [m_0, m_1, m_2, .ref w0, m_4, m_5, m_6, m_7, m_8, m_9, m_10, m_11, m_12, m_13, m_14, m_15, m_16, m_17, m_18, m_19, .int 0, m_21, m_22, m_23, m_24, m_25, m_26, m_27, m_28, m_29, m_30, m_31, m_32, m_33, .int (u_81.2.2.2.1 0), .ref e0, m_36, .ref q0, .int (u_81.2.2.2.1 1), .long (u_81.2.2.2.2.1 0), .long (u_81.2.2.2.2.1 1), m_41, m_42, m_43, m_44, m_45, m_46, m_47, m_48, m_49, m_50, m_51, m_52, m_53, m_54, m_55, m_56, m_57, m_58, m_59])), (w0, .inl (K 0, 5500, .inl f_87)), (e0, .inl (K 2, 13, .inr (.inl (u_81.2.2.1 0)))), (q0, .inl (K 2, 400, .inr (.inl (u_81.2.2.1 1))))] := hD
  rw [← hQ]
  have hP9 := hP.sub (ws' := [(m0, .inr (12, [m_0, m_1, m_2, .ref w0, m_4, m_5, m_6, m_7, m_8, m_9, m_10, m_11, m_12, m_13, m_14, m_15, m_16, m_17, m_18, m_19, .int 0, m_21, m_22, m_23, m_24, m_25, m_26, m_27, m_28, m_29, m_30, m_31, m_32, m_33, .int (u_81.2.2.2.1 0), .ref e0, m_36, .ref q0, .int (u_81.2.2.2.1 1), .long (u_81.2.2.2.2.1 0), .long (u_81.2.2.2.2.1 1), m_41, m_42, m_43, m_44, m_45, m_46, m_47, m_48, m_49, m_50, m_51, m_52, m_53, m_54, m_55, m_56, m_57, m_58, m_59])), (w0, .inl (K 0, 5500, .inl f_87)), (e0, .inl (K 2, 13, .inr (.inl (u_81.2.2.1 0)))), (q0, .inl (K 2, 400, .inr (.inl (u_81.2.2.1 1))))]) [0, 1, 2, 3] rfl
  have hD9 := hD.sub (ws' := [(m0, .inr (12, [m_0, m_1, m_2, .ref w0, m_4, m_5, m_6, m_7, m_8, m_9, m_10, m_11, m_12, m_13, m_14, m_15, m_16, m_17, m_18, m_19, .int 0, m_21, m_22, m_23, m_24, m_25, m_26, m_27, m_28, m_29, m_30, m_31, m_32, m_33, .int (u_81.2.2.2.1 0), .ref e0, m_36, .ref q0, .int (u_81.2.2.2.1 1), .long (u_81.2.2.2.2.1 0), .long (u_81.2.2.2.2.1 1), m_41, m_42, m_43, m_44, m_45, m_46, m_47, m_48, m_49, m_50, m_51, m_52, m_53, m_54, m_55, m_56, m_57, m_58, m_59])), (w0, .inl (K 0, 5500, .inl f_87)), (e0, .inl (K 2, 13, .inr (.inl (u_81.2.2.1 0)))), (q0, .inl (K 2, 400, .inr (.inl (u_81.2.2.1 1))))]) [0, 1, 2, 3] (by decide) rfl
  exact W.vret hx hb hr (fun t ht hW => ⟨⟨((fun _ => 0, fun i => match i with | _ => f_87, fun i => match i with | 0 => (u_81.2.2.1 0) | _ => (u_81.2.2.1 1), fun i => match i with | 0 => (u_81.2.2.2.1 0) | _ => (u_81.2.2.2.1 1), fun i => match i with | 0 => (u_81.2.2.2.2.1 0) | _ => (u_81.2.2.2.2.1 1), fun _ => fun _ => none) : Su), rfl, ⟨(show 0 ≤ ((u_81.2.2.2.1 1) : Int32).toInt ∧ ((u_81.2.2.2.1 1) : Int32).toInt ≤ 1 by omega), hf_87_0, trivial⟩, (⟨by rw [ht]; exact hP9, hD9⟩ : Wd D A _ t)⟩, hS.F ht⟩) hS.2.2 dX12_stokeIt_24
set_option maxHeartbeats 4000000 in
set_option maxRecDepth 100000 in
theorem v_stokeNow (l : Launch) (D : va_G) (K : Nat → ClassId) (m0 : Nat) (x : Int32) (m_0 : Value) (m_1 : Value) (m_2 : Value) (w0 : Nat) (m_4 : Value) (m_5 : Value) (u0 : Nat) (s0 : Nat) (nu : Int32) (m_9 : Value) (m_10 : Value) (m_11 : Value) (m_12 : Value) (m_13 : Value) (m_14 : Value) (m_15 : Value) (m_16 : Value) (m_17 : Value) (m_18 : Value) (m_19 : Value) (m_21 : Value) (m_22 : Value) (m_23 : Value) (m_24 : Value) (m_25 : Value) (m_26 : Value) (m_27 : Value) (m_28 : Value) (m_29 : Value) (m_30 : Value) (m_31 : Value) (m_32 : Value) (m_33 : Value) (lw : Int32) (e0 : Nat) (m_36 : Value) (q0 : Nat) (bro : Int32) (val : Int64) (sm : Int64) (m_41 : Value) (m_42 : Value) (m_43 : Value) (m_44 : Value) (m_45 : Value) (m_46 : Value) (m_47 : Value) (m_48 : Value) (m_49 : Value) (m_50 : Value) (m_51 : Value) (m_52 : Value) (m_53 : Value) (m_54 : Value) (m_55 : Value) (m_56 : Value) (m_57 : Value) (m_58 : Value) (m_59 : Value) (fw : Nat → Int32) (fe : Nat → Int64) (frs : Nat → Int64) (fu : Nat → Int32) (fs : Nat → Int32) (sz : Nat) (zbro : 0 ≤ bro.toInt ∧ bro.toInt ≤ 1) (znu : 0 ≤ nu.toInt ∧ nu.toInt ≤ 16) (zfw : RwOK fw) (zfu : Pu 558 fu) (zfs : Rg 16 0 3 fs) : Met l yX12_stokeNow wsX12_stokeNow ({ frames := 7, cells := 0, slots := 0, locals := 167 }) (va_Pc [.ref m0, .int x] (Pre D K [(m0, .inr (12, [m_0, m_1, m_2, .ref w0, m_4, m_5, .ref u0, .ref s0, .int nu, m_9, m_10, m_11, m_12, m_13, m_14, m_15, m_16, m_17, m_18, m_19, .int 0, m_21, m_22, m_23, m_24, m_25, m_26, m_27, m_28, m_29, m_30, m_31, m_32, m_33, .int lw, .ref e0, m_36, .ref q0, .int bro, .long val, .long sm, m_41, m_42, m_43, m_44, m_45, m_46, m_47, m_48, m_49, m_50, m_51, m_52, m_53, m_54, m_55, m_56, m_57, m_58, m_59])), (w0, .inl (K 0, 5500, .inl fw)), (e0, .inl (K 2, 13, .inr (.inl fe))), (q0, .inl (K 2, 400, .inr (.inl frs))), (u0, .inl (K 0, 558, .inl fu)), (s0, .inl (K 0, 16, .inl fs))] sz)) (va_Qi (S := Su) (fun (r : Int32) (u : Su) => ((-3) ≤ r.toInt ∧ r.toInt ≤ 20) ∧ (0 ≤ (u.2.2.2.1 0).toInt ∧ (u.2.2.2.1 0).toInt ≤ 16) ∧ (0 ≤ (u.2.2.2.1 2).toInt ∧ (u.2.2.2.1 2).toInt ≤ 1) ∧ (RwOK (u.2.1 0)) ∧ (Pu 558 (u.2.1 1)) ∧ (Rg 16 0 3 (u.2.1 2)) ∧ True) (fun u t => Wd D (va_A [(m0, .inr (12, [m_0, m_1, m_2, .ref w0, m_4, m_5, .ref u0, .ref s0, .int nu, m_9, m_10, m_11, m_12, m_13, m_14, m_15, m_16, m_17, m_18, m_19, .int 0, m_21, m_22, m_23, m_24, m_25, m_26, m_27, m_28, m_29, m_30, m_31, m_32, m_33, .int lw, .ref e0, m_36, .ref q0, .int bro, .long val, .long sm, m_41, m_42, m_43, m_44, m_45, m_46, m_47, m_48, m_49, m_50, m_51, m_52, m_53, m_54, m_55, m_56, m_57, m_58, m_59])), (w0, .inl (K 0, 5500, .inl fw)), (e0, .inl (K 2, 13, .inr (.inl fe))), (q0, .inl (K 2, 400, .inr (.inl frs))), (u0, .inl (K 0, 558, .inl fu)), (s0, .inl (K 0, 16, .inl fs))] sz) ((fun u => [(m0, .inr (12, [m_0, m_1, m_2, .ref w0, m_4, m_5, .ref u0, .ref s0, .int (u.2.2.2.1 0), m_9, m_10, m_11, m_12, m_13, m_14, m_15, m_16, m_17, m_18, m_19, .int 0, m_21, m_22, m_23, m_24, m_25, m_26, m_27, m_28, m_29, m_30, m_31, m_32, m_33, .int (u.2.2.2.1 1), .ref e0, m_36, .ref q0, .int (u.2.2.2.1 2), .long (u.2.2.2.2.1 0), .long (u.2.2.2.2.1 1), m_41, m_42, m_43, m_44, m_45, m_46, m_47, m_48, m_49, m_50, m_51, m_52, m_53, m_54, m_55, m_56, m_57, m_58, m_59])), (w0, .inl (K 0, 5500, .inl (u.2.1 0))), (e0, .inl (K 2, 13, .inr (.inl (u.2.2.1 0)))), (q0, .inl (K 2, 400, .inr (.inl (u.2.2.1 1)))), (u0, .inl (K 0, 558, .inl (u.2.1 1))), (s0, .inl (K 0, 16, .inl (u.2.1 2)))]) u) t) (va_A [(m0, .inr (12, [m_0, m_1, m_2, .ref w0, m_4, m_5, .ref u0, .ref s0, .int nu, m_9, m_10, m_11, m_12, m_13, m_14, m_15, m_16, m_17, m_18, m_19, .int 0, m_21, m_22, m_23, m_24, m_25, m_26, m_27, m_28, m_29, m_30, m_31, m_32, m_33, .int lw, .ref e0, m_36, .ref q0, .int bro, .long val, .long sm, m_41, m_42, m_43, m_44, m_45, m_46, m_47, m_48, m_49, m_50, m_51, m_52, m_53, m_54, m_55, m_56, m_57, m_58, m_59])), (w0, .inl (K 0, 5500, .inl fw)), (e0, .inl (K 2, 13, .inr (.inl fe))), (q0, .inl (K 2, 400, .inr (.inl frs))), (u0, .inl (K 0, 558, .inl fu)), (s0, .inl (K 0, 16, .inl fs))] sz)) 0 0 (va_A [(m0, .inr (12, [m_0, m_1, m_2, .ref w0, m_4, m_5, .ref u0, .ref s0, .int nu, m_9, m_10, m_11, m_12, m_13, m_14, m_15, m_16, m_17, m_18, m_19, .int 0, m_21, m_22, m_23, m_24, m_25, m_26, m_27, m_28, m_29, m_30, m_31, m_32, m_33, .int lw, .ref e0, m_36, .ref q0, .int bro, .long val, .long sm, m_41, m_42, m_43, m_44, m_45, m_46, m_47, m_48, m_49, m_50, m_51, m_52, m_53, m_54, m_55, m_56, m_57, m_58, m_59])), (w0, .inl (K 0, 5500, .inl fw)), (e0, .inl (K 2, 13, .inr (.inl fe))), (q0, .inl (K 2, 400, .inr (.inl frs))), (u0, .inl (K 0, 558, .inl fu)), (s0, .inl (K 0, 16, .inl fs))] sz) := by
  refine Met.ofW (cc := cX12_stokeNow) (maxL := 2) (ret := (some .int)) (by decide) rfl ?_
  intro p e s m args below meth c s₁ B hml hv
  obtain ⟨rfl, hsz, hP, hK, hD0, hN⟩ := hv
  have hx := B.exec
  have hb := B.bytes
  have hr := B.returns
  have hts := atoms_spec (ws := wsX12_stokeNow) B.pre
  have hown : s.vm.findClass RX12 = some m.cls := findClass_of_methodNamed B.named
  have hlocks := B.notSynchronized
  subst hsz
  have hD := hD0.self (sz := s.heap.size)
  generalize hAe : va_A [(m0, .inr (12, [m_0, m_1, m_2, .ref w0, m_4, m_5, .ref u0, .ref s0, .int nu, m_9, m_10, m_11, m_12, m_13, m_14, m_15, m_16, m_17, m_18, m_19, .int 0, m_21, m_22, m_23, m_24, m_25, m_26, m_27, m_28, m_29, m_30, m_31, m_32, m_33, .int lw, .ref e0, m_36, .ref q0, .int bro, .long val, .long sm, m_41, m_42, m_43, m_44, m_45, m_46, m_47, m_48, m_49, m_50, m_51, m_52, m_53, m_54, m_55, m_56, m_57, m_58, m_59])), (w0, .inl (K 0, 5500, .inl fw)), (e0, .inl (K 2, 13, .inr (.inl fe))), (q0, .inl (K 2, 400, .inr (.inl frs))), (u0, .inl (K 0, 558, .inl fu)), (s0, .inl (K 0, 16, .inl fs))] s.heap.size = A at hD ⊢
  have hA : ∀ q : Nat, s.heap.size ≤ q → A q := fun q h => by rw [← hAe]; exact Or.inr h
  have hS : va_S A s.heap s.heap [] := va_S.rf
  have hP : va_P D vwCl [(m0, .inr (12, [m_0, m_1, m_2, .ref w0, m_4, m_5, .ref u0, .ref s0, .int nu, m_9, m_10, m_11, m_12, m_13, m_14, m_15, m_16, m_17, m_18, m_19, .int 0, m_21, m_22, m_23, m_24, m_25, m_26, m_27, m_28, m_29, m_30, m_31, m_32, m_33, .int lw, .ref e0, m_36, .ref q0, .int bro, .long val, .long sm, m_41, m_42, m_43, m_44, m_45, m_46, m_47, m_48, m_49, m_50, m_51, m_52, m_53, m_54, m_55, m_56, m_57, m_58, m_59])), (w0, .inl (K 0, 5500, .inl fw)), (e0, .inl (K 2, 13, .inr (.inl fe))), (q0, .inl (K 2, 400, .inr (.inl frs))), (u0, .inl (K 0, 558, .inl fu)), (s0, .inl (K 0, 16, .inl fs))] s.heap := hP
  have hl := lv_entry [.ref m0, .int x] (n := 2) (Nat.le_of_ble_eq_true rfl)
  rw [lg_entry_eq]
  generalize (lg_sl [.ref m0, .int x] ++ List.replicate (2 - (lg_sl [.ref m0, .int x]).length) Slot.unset).toArray = ls at hl ⊢
  have hl : lv_has ls 2 [(0, .ref m0), (1, .int x)] := hl
  have hw12 : ∀ w ∈ wsX120, w ∈ wsX12_stokeNow := fun w h => (List.mem_cons_of_mem _ (List.mem_append_right _ h))
  generalize hQ : MQ below _ _ s _ _ _ = Q
  refine lv_aload_n hx hb dX12_stokeNow_0 rfl (lv_at hl 0 rfl) ?_
  refine lv_iload_n hx hb dX12_stokeNow_1 rfl (lv_at hl 1 rfl) ?_
  refine pci (va_runV (As := [.int x]) (rest := []) ⟨hx, hb, hml, hown, hts⟩ (v_isHouse l D K x.toInt m0 x m_0 m_1 m_2 w0 m_4 m_5 (.ref u0) (.ref s0) (.int nu) m_9 m_10 m_11 m_12 m_13 m_14 m_15 m_16 m_17 m_18 m_19 (.int 0) m_21 m_22 m_23 m_24 m_25 m_26 m_27 m_28 m_29 m_30 m_31 m_32 m_33 (.int lw) (.ref e0) m_36 (.ref q0) (.int bro) (.long val) (.long sm) m_41 m_42 m_43 m_44 m_45 m_46 m_47 m_48 m_49 m_50 m_51 m_52 m_53 m_54 m_55 m_56 m_57 m_58 m_59 fw s.heap.size rfl zfw) (cwV 1 hts gX12_stokeNow_X12_isHouse rfl rfl rfl (by decide +kernel) ⟨Nat.le_of_ble_eq_true rfl, Nat.le_of_ble_eq_true rfl⟩) (mkV hK hN (hP.sub [0, 1] rfl) (hD.sub [0, 1] (by decide) rfl) (ci := 12) (q0 := 0) rfl rfl) rfl rfl hl.1 rfl (lv_room (Nat.le_of_ble_eq_true rfl)) dX12_stokeNow_2 ⟨Nat.le_of_ble_eq_true rfl, Nat.le_of_ble_eq_true rfl⟩) (fun r_103 hw => ?_)
  obtain ⟨hw, -⟩ := hw
  rcases hw with ⟨rfl, h_104, h_105⟩ | rfl
  · refine lv_if_ne (tgt := 11) hx hb dX12_stokeNow_5 (by decide) (fun c_106 => ?_) (fun c_106 => absurd c_106 (by decide))
    refine lv_aload_n hx hb dX12_stokeNow_11 rfl (lv_at hl 0 rfl) ?_
    refine lv_iload_n hx hb dX12_stokeNow_12 rfl (lv_at hl 1 rfl) ?_
    refine kci (S := Su) (wr := [(u0, .inl (K 0, 558, .inl fu)), (s0, .inl (K 0, 16, .inl fs))]) (va_runV (As := [.int x]) (rest := []) ⟨hx, hb, hml, hown, hts⟩ (v_canStoke l D K m0 x m_0 m_1 m_2 w0 m_4 m_5 (.ref u0) (.ref s0) (.int nu) m_9 m_10 m_11 m_12 m_13 m_14 m_15 m_16 m_17 m_18 m_19 m_21 m_22 m_23 m_24 m_25 m_26 m_27 m_28 m_29 m_30 m_31 m_32 m_33 lw e0 m_36 q0 bro val sm m_41 m_42 m_43 m_44 m_45 m_46 m_47 m_48 m_49 m_50 m_51 m_52 m_53 m_54 m_55 m_56 m_57 m_58 m_59 fw fe frs s.heap.size (by first | omega | decide) (by first | omega | decide) zfw) (cwV 1 hts gX12_stokeNow_X12_canStoke rfl rfl rfl (by decide +kernel) ⟨Nat.le_of_ble_eq_true rfl, Nat.le_of_ble_eq_true rfl⟩) (mkV hK hN (hP.sub [0, 1, 2, 3] rfl) (hD.sub [0, 1, 2, 3] (by decide) rfl) (ci := 12) (q0 := 0) rfl rfl) rfl rfl hl.1 rfl (lv_room (Nat.le_of_ble_eq_true rfl)) dX12_stokeNow_13 ⟨Nat.le_of_ble_eq_true rfl, Nat.le_of_ble_eq_true rfl⟩) hP hD hS hA [0, 1, 2, 3] [4, 5] rfl rfl (by decide) (by decide) (fun r_107 u_108 H locs hw hP hD hS => ?_)
    have hP : va_P D vwCl [(u0, .inl (K 0, 558, .inl fu)), (s0, .inl (K 0, 16, .inl fs)), (m0, .inr (12, [m_0, m_1, m_2, .ref w0, m_4, m_5, .ref u0, .ref s0, .int nu, m_9, m_10, m_11, m_12, m_13, m_14, m_15, m_16, m_17, m_18, m_19, .int 0, m_21, m_22, m_23, m_24, m_25, m_26, m_27, m_28, m_29, m_30, m_31, m_32, m_33, .int (u_108.2.2.2.1 0), .ref e0, m_36, .ref q0, .int (u_108.2.2.2.1 1), .long (u_108.2.2.2.2.1 0), .long (u_108.2.2.2.2.1 1), m_41, m_42, m_43, m_44, m_45, m_46, m_47, m_48, m_49, m_50, m_51, m_52, m_53, m_54, m_55, m_56, m_57, m_58, m_59])), (w0, .inl (K 0, 5500, .inl fw)), (e0, .inl (K 2, 13, .inr (.inl (u_108.2.2.1 0)))), (q0, .inl (K 2, 400, .inr (.inl (u_108.2.2.1 1))))] H := hP
    have hD : va_D A [(u0, .inl (K 0, 558, .inl fu)), (s0, .inl (K 0, 16, .inl fs)), (m0, .inr (12, [m_0, m_1, m_2, .ref w0, m_4, m_5, .ref u0, .ref s0, .int nu, m_9, m_10, m_11, m_12, m_13, m_14, m_15, m_16, m_17, m_18, m_19, .int 0, m_21, m_22, m_23, m_24, m_25, m_26, m_27, m_28, m_29, m_30, m_31, m_32, m_33, .int (u_108.2.2.2.1 0), .ref e0, m_36, .ref q0, .int (u_108.2.2.2.1 1), .long (u_108.2.2.2.2.1 0), .long (u_108.2.2.2.2.1 1), m_41, m_42, m_43, m_44, m_45, m_46, m_47, m_48, m_49, m_50, m_51, m_52, m_53, m_54, m_55, m_56, m_57, m_58, m_59])), (w0, .inl (K 0, 5500, .inl fw)), (e0, .inl (K 2, 13, .inr (.inl (u_108.2.2.1 0)))), (q0, .inl (K 2, 400, .inr (.inl (u_108.2.2.1 1))))] := hD
    obtain ⟨h_110, k_109, -⟩ := hw
    refine lv_if_ne (tgt := 22) hx hb dX12_stokeNow_16 (by decide) (fun c_111 => ?_) (fun c_111 => ?_)
    · have c_111i := i_ne (x := r_107.toInt) (y := 0) rfl rfl c_111
      refine lv_aload_n hx hb dX12_stokeNow_22 rfl (lv_at hl 0 rfl) ?_
      refine lv_iconst (v := 0) hx hb dX12_stokeNow_23 (by decide) ?_
      refine kcv (S := Su) (wr := [(e0, .inl (K 2, 13, .inr (.inl (u_108.2.2.1 0)))), (q0, .inl (K 2, 400, .inr (.inl (u_108.2.2.1 1))))]) (va_runV (As := [.int 0]) (rest := []) ⟨hx, hb, hml, hown, hts⟩ (v_remember l D K m0 0 m_0 m_1 m_2 w0 m_4 m_5 u0 s0 nu m_9 m_10 m_11 m_12 m_13 m_14 m_15 m_16 m_17 m_18 m_19 (.int 0) m_21 m_22 m_23 m_24 m_25 m_26 m_27 m_28 m_29 m_30 m_31 m_32 m_33 (.int (u_108.2.2.2.1 0)) (.ref e0) m_36 (.ref q0) (.int (u_108.2.2.2.1 1)) (.long (u_108.2.2.2.2.1 0)) (.long (u_108.2.2.2.2.1 1)) m_41 m_42 m_43 m_44 m_45 m_46 m_47 m_48 m_49 m_50 m_51 m_52 m_53 m_54 m_55 m_56 m_57 m_58 m_59 fw fu fs H.size (by first | omega | decide) (by first | omega | decide) zfw zfu zfs) (cwV 1 hts gX12_stokeNow_X12_remember rfl rfl rfl (by decide +kernel) ⟨Nat.le_of_ble_eq_true rfl, Nat.le_of_ble_eq_true rfl⟩) (mkV hK hN (hP.sub [2, 3, 0, 1] rfl) (hD.sub [2, 3, 0, 1] (by decide) rfl) (ci := 12) (q0 := 0) rfl rfl) rfl rfl hl.1 rfl (lv_room (Nat.le_of_ble_eq_true rfl)) dX12_stokeNow_24 ⟨Nat.le_of_ble_eq_true rfl, Nat.le_of_ble_eq_true rfl⟩) hP hD hS hA [2, 3, 0, 1] [4, 5] rfl rfl (by decide) (by decide) (fun u_113 H locs hw hP hD hS => ?_)
      have hP : va_P D vwCl [(e0, .inl (K 2, 13, .inr (.inl (u_108.2.2.1 0)))), (q0, .inl (K 2, 400, .inr (.inl (u_108.2.2.1 1)))), (m0, .inr (12, [m_0, m_1, m_2, .ref w0, m_4, m_5, .ref u0, .ref s0, .int (u_113.2.2.2.1 0), m_9, m_10, m_11, m_12, m_13, m_14, m_15, m_16, m_17, m_18, m_19, .int 0, m_21, m_22, m_23, m_24, m_25, m_26, m_27, m_28, m_29, m_30, m_31, m_32, m_33, .int (u_108.2.2.2.1 0), .ref e0, m_36, .ref q0, .int (u_108.2.2.2.1 1), .long (u_108.2.2.2.2.1 0), .long (u_108.2.2.2.2.1 1), m_41, m_42, m_43, m_44, m_45, m_46, m_47, m_48, m_49, m_50, m_51, m_52, m_53, m_54, m_55, m_56, m_57, m_58, m_59])), (w0, .inl (K 0, 5500, .inl fw)), (u0, .inl (K 0, 558, .inl (u_113.2.1 0))), (s0, .inl (K 0, 16, .inl (u_113.2.1 1)))] H := hP
      have hD : va_D A [(e0, .inl (K 2, 13, .inr (.inl (u_108.2.2.1 0)))), (q0, .inl (K 2, 400, .inr (.inl (u_108.2.2.1 1)))), (m0, .inr (12, [m_0, m_1, m_2, .ref w0, m_4, m_5, .ref u0, .ref s0, .int (u_113.2.2.2.1 0), m_9, m_10, m_11, m_12, m_13, m_14, m_15, m_16, m_17, m_18, m_19, .int 0, m_21, m_22, m_23, m_24, m_25, m_26, m_27, m_28, m_29, m_30, m_31, m_32, m_33, .int (u_108.2.2.2.1 0), .ref e0, m_36, .ref q0, .int (u_108.2.2.2.1 1), .long (u_108.2.2.2.2.1 0), .long (u_108.2.2.2.2.1 1), m_41, m_42, m_43, m_44, m_45, m_46, m_47, m_48, m_49, m_50, m_51, m_52, m_53, m_54, m_55, m_56, m_57, m_58, m_59])), (w0, .inl (K 0, 5500, .inl fw)), (u0, .inl (K 0, 558, .inl (u_113.2.1 0))), (s0, .inl (K 0, 16, .inl (u_113.2.1 1)))] := hD
      obtain ⟨k_114, k_115, k_116, -⟩ := hw
      refine lv_aload_n hx hb dX12_stokeNow_27 rfl (lv_at hl 0 rfl) ?_
      refine lv_iload_n hx hb dX12_stokeNow_28 rfl (lv_at hl 1 rfl) ?_
      refine kcv (S := Su) (wr := [(u0, .inl (K 0, 558, .inl (u_113.2.1 0))), (s0, .inl (K 0, 16, .inl (u_113.2.1 1)))]) (va_runV (As := [.int x]) (rest := []) ⟨hx, hb, hml, hown, hts⟩ (v_stokeIt l D K m0 x m_0 m_1 m_2 w0 m_4 m_5 (.ref u0) (.ref s0) (.int (u_113.2.2.2.1 0)) m_9 m_10 m_11 m_12 m_13 m_14 m_15 m_16 m_17 m_18 m_19 m_21 m_22 m_23 m_24 m_25 m_26 m_27 m_28 m_29 m_30 m_31 m_32 m_33 (u_108.2.2.2.1 0) e0 m_36 q0 (u_108.2.2.2.1 1) (u_108.2.2.2.2.1 0) (u_108.2.2.2.2.1 1) m_41 m_42 m_43 m_44 m_45 m_46 m_47 m_48 m_49 m_50 m_51 m_52 m_53 m_54 m_55 m_56 m_57 m_58 m_59 fw (u_108.2.2.1 0) (u_108.2.2.1 1) H.size (by first | omega | decide) (by first | omega | decide) zfw) (cwV 1 hts gX12_stokeNow_X12_stokeIt rfl rfl rfl (by decide +kernel) ⟨Nat.le_of_ble_eq_true rfl, Nat.le_of_ble_eq_true rfl⟩) (mkV hK hN (hP.sub [2, 3, 0, 1] rfl) (hD.sub [2, 3, 0, 1] (by decide) rfl) (ci := 12) (q0 := 0) rfl rfl) rfl rfl hl.1 rfl (lv_room (Nat.le_of_ble_eq_true rfl)) dX12_stokeNow_29 ⟨Nat.le_of_ble_eq_true rfl, Nat.le_of_ble_eq_true rfl⟩) hP hD hS hA [2, 3, 0, 1] [4, 5] rfl rfl (by decide) (by decide) (fun u_118 H locs hw hP hD hS => ?_)
      have hP : va_P D vwCl [(u0, .inl (K 0, 558, .inl (u_113.2.1 0))), (s0, .inl (K 0, 16, .inl (u_113.2.1 1))), (m0, .inr (12, [m_0, m_1, m_2, .ref w0, m_4, m_5, .ref u0, .ref s0, .int (u_113.2.2.2.1 0), m_9, m_10, m_11, m_12, m_13, m_14, m_15, m_16, m_17, m_18, m_19, .int 0, m_21, m_22, m_23, m_24, m_25, m_26, m_27, m_28, m_29, m_30, m_31, m_32, m_33, .int (u_118.2.2.2.1 0), .ref e0, m_36, .ref q0, .int (u_118.2.2.2.1 1), .long (u_118.2.2.2.2.1 0), .long (u_118.2.2.2.2.1 1), m_41, m_42, m_43, m_44, m_45, m_46, m_47, m_48, m_49, m_50, m_51, m_52, m_53, m_54, m_55, m_56, m_57, m_58, m_59])), (w0, .inl (K 0, 5500, .inl (u_118.2.1 0))), (e0, .inl (K 2, 13, .inr (.inl (u_118.2.2.1 0)))), (q0, .inl (K 2, 400, .inr (.inl (u_118.2.2.1 1))))] H := hP
      have hD : va_D A [(u0, .inl (K 0, 558, .inl (u_113.2.1 0))), (s0, .inl (K 0, 16, .inl (u_113.2.1 1))), (m0, .inr (12, [m_0, m_1, m_2, .ref w0, m_4, m_5, .ref u0, .ref s0, .int (u_113.2.2.2.1 0), m_9, m_10, m_11, m_12, m_13, m_14, m_15, m_16, m_17, m_18, m_19, .int 0, m_21, m_22, m_23, m_24, m_25, m_26, m_27, m_28, m_29, m_30, m_31, m_32, m_33, .int (u_118.2.2.2.1 0), .ref e0, m_36, .ref q0, .int (u_118.2.2.2.1 1), .long (u_118.2.2.2.2.1 0), .long (u_118.2.2.2.2.1 1), m_41, m_42, m_43, m_44, m_45, m_46, m_47, m_48, m_49, m_50, m_51, m_52, m_53, m_54, m_55, m_56, m_57, m_58, m_59])), (w0, .inl (K 0, 5500, .inl (u_118.2.1 0))), (e0, .inl (K 2, 13, .inr (.inl (u_118.2.2.1 0)))), (q0, .inl (K 2, 400, .inr (.inl (u_118.2.2.1 1))))] := hD
      obtain ⟨k_119, k_120, -⟩ := hw
      refine lv_aload_n hx hb dX12_stokeNow_32 rfl (lv_at hl 0 rfl) ?_
      refine va_get (ci := 12) (v := .ref w0) (C := RX12) (T := TX12) (N := 60) hx hb hts hw12 hown hK hP 2 rfl rfl 3 (by decide) (hts (.fieldLink RX12 13 "SmokeTuneModel" "row" "[I") (List.mem_cons_of_mem _ (List.mem_append_left _ (List.mem_append_left _ (List.mem_of_getElem? (i := 0) rfl))))) (fun _ h9 => h9) rfl dX12_stokeNow_33 ?_
      refine lv_bipush (v := 11) hx hb dX12_stokeNow_36 (by decide) ?_
      refine lv_iload_n hx hb dX12_stokeNow_38 rfl (lv_at hl 1 rfl) ?_
      refine lv_iadd hx hb dX12_stokeNow_39 ?_
      refine lv_topi (fun x_121 ex_121 => ?_)
      have hx_121 : x_121.toInt = (11 + x.toInt) := by rw [ex_121]; exact i_add (show (11 : Int32).toInt = 11 from rfl) rfl (by omega)
      refine va_iald hx hb hK hP 3 0 rfl rfl (i_in hx_121 (by omega)) dX12_stokeNow_40 ?_
      refine lv_topi (fun x_122 ex_122 => ?_)
      have px_122 := RwOK.at k_120 hx_121 (show 0 ≤ (11 + x.toInt) ∧ (11 + x.toInt) < 100 by omega)
      rw [← ex_122] at px_122
      have hx_122 := PR.r_11 px_122 (by omega)
      rw [← hQ]
      have hP9 := hP.sub (ws' := [(m0, .inr (12, [m_0, m_1, m_2, .ref w0, m_4, m_5, .ref u0, .ref s0, .int (u_113.2.2.2.1 0), m_9, m_10, m_11, m_12, m_13, m_14, m_15, m_16, m_17, m_18, m_19, .int 0, m_21, m_22, m_23, m_24, m_25, m_26, m_27, m_28, m_29, m_30, m_31, m_32, m_33, .int (u_118.2.2.2.1 0), .ref e0, m_36, .ref q0, .int (u_118.2.2.2.1 1), .long (u_118.2.2.2.2.1 0), .long (u_118.2.2.2.2.1 1), m_41, m_42, m_43, m_44, m_45, m_46, m_47, m_48, m_49, m_50, m_51, m_52, m_53, m_54, m_55, m_56, m_57, m_58, m_59])), (w0, .inl (K 0, 5500, .inl (u_118.2.1 0))), (e0, .inl (K 2, 13, .inr (.inl (u_118.2.2.1 0)))), (q0, .inl (K 2, 400, .inr (.inl (u_118.2.2.1 1)))), (u0, .inl (K 0, 558, .inl (u_113.2.1 0))), (s0, .inl (K 0, 16, .inl (u_113.2.1 1)))]) [2, 3, 4, 5, 0, 1] rfl
      have hD9 := hD.sub (ws' := [(m0, .inr (12, [m_0, m_1, m_2, .ref w0, m_4, m_5, .ref u0, .ref s0, .int (u_113.2.2.2.1 0), m_9, m_10, m_11, m_12, m_13, m_14, m_15, m_16, m_17, m_18, m_19, .int 0, m_21, m_22, m_23, m_24, m_25, m_26, m_27, m_28, m_29, m_30, m_31, m_32, m_33, .int (u_118.2.2.2.1 0), .ref e0, m_36, .ref q0, .int (u_118.2.2.2.1 1), .long (u_118.2.2.2.2.1 0), .long (u_118.2.2.2.2.1 1), m_41, m_42, m_43, m_44, m_45, m_46, m_47, m_48, m_49, m_50, m_51, m_52, m_53, m_54, m_55, m_56, m_57, m_58, m_59])), (w0, .inl (K 0, 5500, .inl (u_118.2.1 0))), (e0, .inl (K 2, 13, .inr (.inl (u_118.2.2.1 0)))), (q0, .inl (K 2, 400, .inr (.inl (u_118.2.2.1 1)))), (u0, .inl (K 0, 558, .inl (u_113.2.1 0))), (s0, .inl (K 0, 16, .inl (u_113.2.1 1)))]) [2, 3, 4, 5, 0, 1] (by decide) rfl
      exact W.iret (v := x_122) hx hb hr (fun t ht hW => ⟨⟨x_122, ((fun _ => 0, fun i => match i with | 0 => (u_118.2.1 0) | 1 => (u_113.2.1 0) | _ => (u_113.2.1 1), fun i => match i with | 0 => (u_118.2.2.1 0) | _ => (u_118.2.2.1 1), fun i => match i with | 0 => (u_113.2.2.2.1 0) | 1 => (u_118.2.2.2.1 0) | _ => (u_118.2.2.2.1 1), fun i => match i with | 0 => (u_118.2.2.2.2.1 0) | _ => (u_118.2.2.2.2.1 1), fun _ => fun _ => none) : Su), rfl, ⟨(show (-3) ≤ x_122.toInt ∧ x_122.toInt ≤ 20 by omega), (show 0 ≤ ((u_113.2.2.2.1 0) : Int32).toInt ∧ ((u_113.2.2.2.1 0) : Int32).toInt ≤ 16 by omega), (show 0 ≤ ((u_118.2.2.2.1 1) : Int32).toInt ∧ ((u_118.2.2.2.1 1) : Int32).toInt ≤ 1 by omega), k_120, k_115, k_116, trivial⟩, (⟨by rw [ht]; exact hP9, hD9⟩ : Wd D A _ t)⟩, hS.F ht⟩) hS.2.2 dX12_stokeNow_41
    · have c_111i := i_eq (x := r_107.toInt) (y := 0) rfl rfl c_111
      refine lv_bipush (v := (-3)) hx hb dX12_stokeNow_19 (by decide) ?_
      rw [← hQ]
      have hP9 := hP.sub (ws' := [(m0, .inr (12, [m_0, m_1, m_2, .ref w0, m_4, m_5, .ref u0, .ref s0, .int nu, m_9, m_10, m_11, m_12, m_13, m_14, m_15, m_16, m_17, m_18, m_19, .int 0, m_21, m_22, m_23, m_24, m_25, m_26, m_27, m_28, m_29, m_30, m_31, m_32, m_33, .int (u_108.2.2.2.1 0), .ref e0, m_36, .ref q0, .int (u_108.2.2.2.1 1), .long (u_108.2.2.2.2.1 0), .long (u_108.2.2.2.2.1 1), m_41, m_42, m_43, m_44, m_45, m_46, m_47, m_48, m_49, m_50, m_51, m_52, m_53, m_54, m_55, m_56, m_57, m_58, m_59])), (w0, .inl (K 0, 5500, .inl fw)), (e0, .inl (K 2, 13, .inr (.inl (u_108.2.2.1 0)))), (q0, .inl (K 2, 400, .inr (.inl (u_108.2.2.1 1)))), (u0, .inl (K 0, 558, .inl fu)), (s0, .inl (K 0, 16, .inl fs))]) [2, 3, 4, 5, 0, 1] rfl
      have hD9 := hD.sub (ws' := [(m0, .inr (12, [m_0, m_1, m_2, .ref w0, m_4, m_5, .ref u0, .ref s0, .int nu, m_9, m_10, m_11, m_12, m_13, m_14, m_15, m_16, m_17, m_18, m_19, .int 0, m_21, m_22, m_23, m_24, m_25, m_26, m_27, m_28, m_29, m_30, m_31, m_32, m_33, .int (u_108.2.2.2.1 0), .ref e0, m_36, .ref q0, .int (u_108.2.2.2.1 1), .long (u_108.2.2.2.2.1 0), .long (u_108.2.2.2.2.1 1), m_41, m_42, m_43, m_44, m_45, m_46, m_47, m_48, m_49, m_50, m_51, m_52, m_53, m_54, m_55, m_56, m_57, m_58, m_59])), (w0, .inl (K 0, 5500, .inl fw)), (e0, .inl (K 2, 13, .inr (.inl (u_108.2.2.1 0)))), (q0, .inl (K 2, 400, .inr (.inl (u_108.2.2.1 1)))), (u0, .inl (K 0, 558, .inl fu)), (s0, .inl (K 0, 16, .inl fs))]) [2, 3, 4, 5, 0, 1] (by decide) rfl
      exact W.iret (v := (-3)) hx hb hr (fun t ht hW => ⟨⟨(-3), ((fun _ => 0, fun i => match i with | 0 => fw | 1 => fu | _ => fs, fun i => match i with | 0 => (u_108.2.2.1 0) | _ => (u_108.2.2.1 1), fun i => match i with | 0 => nu | 1 => (u_108.2.2.2.1 0) | _ => (u_108.2.2.2.1 1), fun i => match i with | 0 => (u_108.2.2.2.2.1 0) | _ => (u_108.2.2.2.2.1 1), fun _ => fun _ => none) : Su), rfl, ⟨(show (-3) ≤ ((-3) : Int32).toInt ∧ ((-3) : Int32).toInt ≤ 20 by decide), (show 0 ≤ (nu : Int32).toInt ∧ (nu : Int32).toInt ≤ 16 by omega), (show 0 ≤ ((u_108.2.2.2.1 1) : Int32).toInt ∧ ((u_108.2.2.2.1 1) : Int32).toInt ≤ 1 by omega), zfw, zfu, zfs, trivial⟩, (⟨by rw [ht]; exact hP9, hD9⟩ : Wd D A _ t)⟩, hS.F ht⟩) hS.2.2 dX12_stokeNow_21
  · refine lv_if_ne (tgt := 11) hx hb dX12_stokeNow_5 (by decide) (fun c_123 => absurd (by decide) c_123) (fun c_123 => ?_)
    refine lv_bipush (v := (-2)) hx hb dX12_stokeNow_8 (by decide) ?_
    rw [← hQ]
    have hP9 := hP.sub (ws' := [(m0, .inr (12, [m_0, m_1, m_2, .ref w0, m_4, m_5, .ref u0, .ref s0, .int nu, m_9, m_10, m_11, m_12, m_13, m_14, m_15, m_16, m_17, m_18, m_19, .int 0, m_21, m_22, m_23, m_24, m_25, m_26, m_27, m_28, m_29, m_30, m_31, m_32, m_33, .int lw, .ref e0, m_36, .ref q0, .int bro, .long val, .long sm, m_41, m_42, m_43, m_44, m_45, m_46, m_47, m_48, m_49, m_50, m_51, m_52, m_53, m_54, m_55, m_56, m_57, m_58, m_59])), (w0, .inl (K 0, 5500, .inl fw)), (e0, .inl (K 2, 13, .inr (.inl fe))), (q0, .inl (K 2, 400, .inr (.inl frs))), (u0, .inl (K 0, 558, .inl fu)), (s0, .inl (K 0, 16, .inl fs))]) [0, 1, 2, 3, 4, 5] rfl
    have hD9 := hD.sub (ws' := [(m0, .inr (12, [m_0, m_1, m_2, .ref w0, m_4, m_5, .ref u0, .ref s0, .int nu, m_9, m_10, m_11, m_12, m_13, m_14, m_15, m_16, m_17, m_18, m_19, .int 0, m_21, m_22, m_23, m_24, m_25, m_26, m_27, m_28, m_29, m_30, m_31, m_32, m_33, .int lw, .ref e0, m_36, .ref q0, .int bro, .long val, .long sm, m_41, m_42, m_43, m_44, m_45, m_46, m_47, m_48, m_49, m_50, m_51, m_52, m_53, m_54, m_55, m_56, m_57, m_58, m_59])), (w0, .inl (K 0, 5500, .inl fw)), (e0, .inl (K 2, 13, .inr (.inl fe))), (q0, .inl (K 2, 400, .inr (.inl frs))), (u0, .inl (K 0, 558, .inl fu)), (s0, .inl (K 0, 16, .inl fs))]) [0, 1, 2, 3, 4, 5] (by decide) rfl
    exact W.iret (v := (-2)) hx hb hr (fun t ht hW => ⟨⟨(-2), ((fun _ => 0, fun i => match i with | 0 => fw | 1 => fu | _ => fs, fun i => match i with | 0 => fe | _ => frs, fun i => match i with | 0 => nu | 1 => lw | _ => bro, fun i => match i with | 0 => val | _ => sm, fun _ => fun _ => none) : Su), rfl, ⟨(show (-3) ≤ ((-2) : Int32).toInt ∧ ((-2) : Int32).toInt ≤ 20 by decide), (show 0 ≤ (nu : Int32).toInt ∧ (nu : Int32).toInt ≤ 16 by omega), (show 0 ≤ (bro : Int32).toInt ∧ (bro : Int32).toInt ≤ 1 by omega), zfw, zfu, zfs, trivial⟩, (⟨by rw [ht]; exact hP9, hD9⟩ : Wd D A _ t)⟩, hS.F ht⟩) hS.2.2 dX12_stokeNow_10
set_option maxHeartbeats 4000000 in
set_option maxRecDepth 100000 in
theorem v_dampNow (l : Launch) (D : va_G) (K : Nat → ClassId) (m0 : Nat) (x : Int32) (y : Int32) (m_0 : Value) (m_1 : Value) (m_2 : Value) (w0 : Nat) (m_4 : Value) (m_5 : Value) (u0 : Nat) (s0 : Nat) (nu : Int32) (m_9 : Value) (m_10 : Value) (m_11 : Value) (m_12 : Value) (m_13 : Value) (m_14 : Value) (m_15 : Value) (m_16 : Value) (m_17 : Value) (m_18 : Value) (m_19 : Value) (m_20 : Value) (m_21 : Value) (m_22 : Value) (m_23 : Value) (m_24 : Value) (m_25 : Value) (m_26 : Value) (m_27 : Value) (m_28 : Value) (m_29 : Value) (m_30 : Value) (m_31 : Value) (m_32 : Value) (m_33 : Value) (m_34 : Value) (m_35 : Value) (m_36 : Value) (m_37 : Value) (m_38 : Value) (m_39 : Value) (m_40 : Value) (m_41 : Value) (m_42 : Value) (m_43 : Value) (m_44 : Value) (m_45 : Value) (m_46 : Value) (m_47 : Value) (m_48 : Value) (m_49 : Value) (m_50 : Value) (m_51 : Value) (m_52 : Value) (m_53 : Value) (m_54 : Value) (m_55 : Value) (m_56 : Value) (m_57 : Value) (m_58 : Value) (m_59 : Value) (fw : Nat → Int32) (fu : Nat → Int32) (fs : Nat → Int32) (sz : Nat) (znu : 0 ≤ nu.toInt ∧ nu.toInt ≤ 16) (zfw : RwOK fw) (zfu : Pu 558 fu) (zfs : Rg 16 0 3 fs) : Met l yX12_dampNow wsX12_dampNow ({ frames := 2, cells := 0, slots := 0, locals := 46 }) (va_Pc [.ref m0, .int x, .int y] (Pre D K [(m0, .inr (12, [m_0, m_1, m_2, .ref w0, m_4, m_5, .ref u0, .ref s0, .int nu, m_9, m_10, m_11, m_12, m_13, m_14, m_15, m_16, m_17, m_18, m_19, m_20, m_21, m_22, m_23, m_24, m_25, m_26, m_27, m_28, m_29, m_30, m_31, m_32, m_33, m_34, m_35, m_36, m_37, m_38, m_39, m_40, m_41, m_42, m_43, m_44, m_45, m_46, m_47, m_48, m_49, m_50, m_51, m_52, m_53, m_54, m_55, m_56, m_57, m_58, m_59])), (w0, .inl (K 0, 5500, .inl fw)), (u0, .inl (K 0, 558, .inl fu)), (s0, .inl (K 0, 16, .inl fs))] sz)) (va_Qi (S := Su) (fun (r : Int32) (u : Su) => ((-2) ≤ r.toInt ∧ r.toInt ≤ 20) ∧ (0 ≤ (u.2.2.2.1 0).toInt ∧ (u.2.2.2.1 0).toInt ≤ 16) ∧ (RwOK (u.2.1 0)) ∧ (Pu 558 (u.2.1 1)) ∧ (Rg 16 0 3 (u.2.1 2)) ∧ True) (fun u t => Wd D (va_A [(m0, .inr (12, [m_0, m_1, m_2, .ref w0, m_4, m_5, .ref u0, .ref s0, .int nu, m_9, m_10, m_11, m_12, m_13, m_14, m_15, m_16, m_17, m_18, m_19, m_20, m_21, m_22, m_23, m_24, m_25, m_26, m_27, m_28, m_29, m_30, m_31, m_32, m_33, m_34, m_35, m_36, m_37, m_38, m_39, m_40, m_41, m_42, m_43, m_44, m_45, m_46, m_47, m_48, m_49, m_50, m_51, m_52, m_53, m_54, m_55, m_56, m_57, m_58, m_59])), (w0, .inl (K 0, 5500, .inl fw)), (u0, .inl (K 0, 558, .inl fu)), (s0, .inl (K 0, 16, .inl fs))] sz) ((fun u => [(m0, .inr (12, [m_0, m_1, m_2, .ref w0, m_4, m_5, .ref u0, .ref s0, .int (u.2.2.2.1 0), m_9, m_10, m_11, m_12, m_13, m_14, m_15, m_16, m_17, m_18, m_19, m_20, m_21, m_22, m_23, m_24, m_25, m_26, m_27, m_28, m_29, m_30, m_31, m_32, m_33, m_34, m_35, m_36, m_37, m_38, m_39, m_40, m_41, m_42, m_43, m_44, m_45, m_46, m_47, m_48, m_49, m_50, m_51, m_52, m_53, m_54, m_55, m_56, m_57, m_58, m_59])), (w0, .inl (K 0, 5500, .inl (u.2.1 0))), (u0, .inl (K 0, 558, .inl (u.2.1 1))), (s0, .inl (K 0, 16, .inl (u.2.1 2)))]) u) t) (va_A [(m0, .inr (12, [m_0, m_1, m_2, .ref w0, m_4, m_5, .ref u0, .ref s0, .int nu, m_9, m_10, m_11, m_12, m_13, m_14, m_15, m_16, m_17, m_18, m_19, m_20, m_21, m_22, m_23, m_24, m_25, m_26, m_27, m_28, m_29, m_30, m_31, m_32, m_33, m_34, m_35, m_36, m_37, m_38, m_39, m_40, m_41, m_42, m_43, m_44, m_45, m_46, m_47, m_48, m_49, m_50, m_51, m_52, m_53, m_54, m_55, m_56, m_57, m_58, m_59])), (w0, .inl (K 0, 5500, .inl fw)), (u0, .inl (K 0, 558, .inl fu)), (s0, .inl (K 0, 16, .inl fs))] sz)) 0 0 (va_A [(m0, .inr (12, [m_0, m_1, m_2, .ref w0, m_4, m_5, .ref u0, .ref s0, .int nu, m_9, m_10, m_11, m_12, m_13, m_14, m_15, m_16, m_17, m_18, m_19, m_20, m_21, m_22, m_23, m_24, m_25, m_26, m_27, m_28, m_29, m_30, m_31, m_32, m_33, m_34, m_35, m_36, m_37, m_38, m_39, m_40, m_41, m_42, m_43, m_44, m_45, m_46, m_47, m_48, m_49, m_50, m_51, m_52, m_53, m_54, m_55, m_56, m_57, m_58, m_59])), (w0, .inl (K 0, 5500, .inl fw)), (u0, .inl (K 0, 558, .inl fu)), (s0, .inl (K 0, 16, .inl fs))] sz) := by
  refine Met.ofW (cc := cX12_dampNow) (maxL := 3) (ret := (some .int)) (by decide) rfl ?_
  intro p e s m args below meth c s₁ B hml hv
  obtain ⟨rfl, hsz, hP, hK, hD0, hN⟩ := hv
  have hx := B.exec
  have hb := B.bytes
  have hr := B.returns
  have hts := atoms_spec (ws := wsX12_dampNow) B.pre
  have hown : s.vm.findClass RX12 = some m.cls := findClass_of_methodNamed B.named
  have hlocks := B.notSynchronized
  subst hsz
  have hD := hD0.self (sz := s.heap.size)
  generalize hAe : va_A [(m0, .inr (12, [m_0, m_1, m_2, .ref w0, m_4, m_5, .ref u0, .ref s0, .int nu, m_9, m_10, m_11, m_12, m_13, m_14, m_15, m_16, m_17, m_18, m_19, m_20, m_21, m_22, m_23, m_24, m_25, m_26, m_27, m_28, m_29, m_30, m_31, m_32, m_33, m_34, m_35, m_36, m_37, m_38, m_39, m_40, m_41, m_42, m_43, m_44, m_45, m_46, m_47, m_48, m_49, m_50, m_51, m_52, m_53, m_54, m_55, m_56, m_57, m_58, m_59])), (w0, .inl (K 0, 5500, .inl fw)), (u0, .inl (K 0, 558, .inl fu)), (s0, .inl (K 0, 16, .inl fs))] s.heap.size = A at hD ⊢
  have hA : ∀ q : Nat, s.heap.size ≤ q → A q := fun q h => by rw [← hAe]; exact Or.inr h
  have hS : va_S A s.heap s.heap [] := va_S.rf
  have hP : va_P D vwCl [(m0, .inr (12, [m_0, m_1, m_2, .ref w0, m_4, m_5, .ref u0, .ref s0, .int nu, m_9, m_10, m_11, m_12, m_13, m_14, m_15, m_16, m_17, m_18, m_19, m_20, m_21, m_22, m_23, m_24, m_25, m_26, m_27, m_28, m_29, m_30, m_31, m_32, m_33, m_34, m_35, m_36, m_37, m_38, m_39, m_40, m_41, m_42, m_43, m_44, m_45, m_46, m_47, m_48, m_49, m_50, m_51, m_52, m_53, m_54, m_55, m_56, m_57, m_58, m_59])), (w0, .inl (K 0, 5500, .inl fw)), (u0, .inl (K 0, 558, .inl fu)), (s0, .inl (K 0, 16, .inl fs))] s.heap := hP
  have hl := lv_entry [.ref m0, .int x, .int y] (n := 3) (Nat.le_of_ble_eq_true rfl)
  rw [lg_entry_eq]
  generalize (lg_sl [.ref m0, .int x, .int y] ++ List.replicate (3 - (lg_sl [.ref m0, .int x, .int y]).length) Slot.unset).toArray = ls at hl ⊢
  have hl : lv_has ls 3 [(0, .ref m0), (1, .int x), (2, .int y)] := hl
  have hw12 : ∀ w ∈ wsX120, w ∈ wsX12_dampNow := fun w h => (List.mem_cons_of_mem _ (List.mem_append_right _ h))
  generalize hQ : MQ below _ _ s _ _ _ = Q
  refine lv_iload_n hx hb dX12_dampNow_0 rfl (lv_at hl 2 rfl) ?_
  refine lv_i2l hx hb dX12_dampNow_1 rfl ?_
  refine lv_topl (fun x_115 ex_115 => ?_)
  have hx_115 : x_115.toInt = y.toInt := by rw [ex_115]; exact i_wide rfl
  have hbx_115 := i_rng (a := y) rfl
  refine lv_lconst (v := 1) hx hb dX12_dampNow_2 (by decide) ?_
  refine lv_ldc2 (v := 20) hx hb hown (hts (.constantLong RX12 217 (20)) (List.mem_cons_of_mem _ (List.mem_append_left _ (List.mem_of_getElem? (i := 0) rfl)))) dX12_dampNow_3 ?_
  refine pci (va_runS (As := [.long x_115, .long 1, .long 20]) (rest := []) ⟨hx, hb, hml, hown, hts⟩ (v_in l D K y.toInt 1 20 x_115 1 20 s.heap.size hx_115 (show (1 : Int64).toInt = 1 from rfl) (show (20 : Int64).toInt = 20 from rfl)) (va_cwS 3 hts gX12_dampNow_X12_in rfl rfl rfl (by decide +kernel) ⟨Nat.le_of_ble_eq_true rfl, Nat.le_of_ble_eq_true rfl⟩) (mkS hK hN (va_P.nil) (va_D.nil (A := fun _ => True))) rfl rfl hl.1 rfl (lv_room (Nat.le_of_ble_eq_true rfl)) dX12_dampNow_6 ⟨Nat.le_of_ble_eq_true rfl, Nat.le_of_ble_eq_true rfl⟩) (fun r_116 hw => ?_)
  obtain ⟨hw, -⟩ := hw
  rcases hw with ⟨rfl, h_117, h_118⟩ | ⟨rfl, h_119⟩
  · refine lv_if_ne (tgt := 14) hx hb dX12_dampNow_9 (by decide) (fun c_120 => ?_) (fun c_120 => absurd c_120 (by decide))
    refine lv_aload_n hx hb dX12_dampNow_14 rfl (lv_at hl 0 rfl) ?_
    refine lv_iload_n hx hb dX12_dampNow_15 rfl (lv_at hl 1 rfl) ?_
    refine pci (va_runV (As := [.int x]) (rest := []) ⟨hx, hb, hml, hown, hts⟩ (v_isHouse l D K x.toInt m0 x m_0 m_1 m_2 w0 m_4 m_5 (.ref u0) (.ref s0) (.int nu) m_9 m_10 m_11 m_12 m_13 m_14 m_15 m_16 m_17 m_18 m_19 m_20 m_21 m_22 m_23 m_24 m_25 m_26 m_27 m_28 m_29 m_30 m_31 m_32 m_33 m_34 m_35 m_36 m_37 m_38 m_39 m_40 m_41 m_42 m_43 m_44 m_45 m_46 m_47 m_48 m_49 m_50 m_51 m_52 m_53 m_54 m_55 m_56 m_57 m_58 m_59 fw s.heap.size rfl zfw) (cwV 1 hts gX12_dampNow_X12_isHouse rfl rfl rfl (by decide +kernel) ⟨Nat.le_of_ble_eq_true rfl, Nat.le_of_ble_eq_true rfl⟩) (mkV hK hN (hP.sub [0, 1] rfl) (hD.sub [0, 1] (by decide) rfl) (ci := 12) (q0 := 0) rfl rfl) rfl rfl hl.1 rfl (lv_room (Nat.le_of_ble_eq_true rfl)) dX12_dampNow_16 ⟨Nat.le_of_ble_eq_true rfl, Nat.le_of_ble_eq_true rfl⟩) (fun r_121 hw => ?_)
    obtain ⟨hw, -⟩ := hw
    rcases hw with ⟨rfl, h_122, h_123⟩ | rfl
    · refine lv_if_ne (tgt := 25) hx hb dX12_dampNow_19 (by decide) (fun c_124 => ?_) (fun c_124 => absurd c_124 (by decide))
      refine lv_aload_n hx hb dX12_dampNow_25 rfl (lv_at hl 0 rfl) ?_
      refine lv_iconst (v := 1) hx hb dX12_dampNow_26 (by decide) ?_
      refine kcv (S := Su) (wr := []) (va_runV (As := [.int 1]) (rest := []) ⟨hx, hb, hml, hown, hts⟩ (v_remember l D K m0 1 m_0 m_1 m_2 w0 m_4 m_5 u0 s0 nu m_9 m_10 m_11 m_12 m_13 m_14 m_15 m_16 m_17 m_18 m_19 m_20 m_21 m_22 m_23 m_24 m_25 m_26 m_27 m_28 m_29 m_30 m_31 m_32 m_33 m_34 m_35 m_36 m_37 m_38 m_39 m_40 m_41 m_42 m_43 m_44 m_45 m_46 m_47 m_48 m_49 m_50 m_51 m_52 m_53 m_54 m_55 m_56 m_57 m_58 m_59 fw fu fs s.heap.size (by first | omega | decide) (by first | omega | decide) zfw zfu zfs) (cwV 1 hts gX12_dampNow_X12_remember rfl rfl rfl (by decide +kernel) ⟨Nat.le_of_ble_eq_true rfl, Nat.le_of_ble_eq_true rfl⟩) (mkV hK hN (hP.sub [0, 1, 2, 3] rfl) (hD.sub [0, 1, 2, 3] (by decide) rfl) (ci := 12) (q0 := 0) rfl rfl) rfl rfl hl.1 rfl (lv_room (Nat.le_of_ble_eq_true rfl)) dX12_dampNow_27 ⟨Nat.le_of_ble_eq_true rfl, Nat.le_of_ble_eq_true rfl⟩) hP hD hS hA [0, 1, 2, 3] [] rfl rfl (by decide) (by decide) (fun u_126 H locs hw hP hD hS => ?_)
      have hP : va_P D vwCl [(m0, .inr (12, [m_0, m_1, m_2, .ref w0, m_4, m_5, .ref u0, .ref s0, .int (u_126.2.2.2.1 0), m_9, m_10, m_11, m_12, m_13, m_14, m_15, m_16, m_17, m_18, m_19, m_20, m_21, m_22, m_23, m_24, m_25, m_26, m_27, m_28, m_29, m_30, m_31, m_32, m_33, m_34, m_35, m_36, m_37, m_38, m_39, m_40, m_41, m_42, m_43, m_44, m_45, m_46, m_47, m_48, m_49, m_50, m_51, m_52, m_53, m_54, m_55, m_56, m_57, m_58, m_59])), (w0, .inl (K 0, 5500, .inl fw)), (u0, .inl (K 0, 558, .inl (u_126.2.1 0))), (s0, .inl (K 0, 16, .inl (u_126.2.1 1)))] H := hP
      have hD : va_D A [(m0, .inr (12, [m_0, m_1, m_2, .ref w0, m_4, m_5, .ref u0, .ref s0, .int (u_126.2.2.2.1 0), m_9, m_10, m_11, m_12, m_13, m_14, m_15, m_16, m_17, m_18, m_19, m_20, m_21, m_22, m_23, m_24, m_25, m_26, m_27, m_28, m_29, m_30, m_31, m_32, m_33, m_34, m_35, m_36, m_37, m_38, m_39, m_40, m_41, m_42, m_43, m_44, m_45, m_46, m_47, m_48, m_49, m_50, m_51, m_52, m_53, m_54, m_55, m_56, m_57, m_58, m_59])), (w0, .inl (K 0, 5500, .inl fw)), (u0, .inl (K 0, 558, .inl (u_126.2.1 0))), (s0, .inl (K 0, 16, .inl (u_126.2.1 1)))] := hD
      obtain ⟨k_127, k_128, k_129, -⟩ := hw
      refine lv_aload_n hx hb dX12_dampNow_30 rfl (lv_at hl 0 rfl) ?_
      refine va_get (ci := 12) (v := .ref w0) (C := RX12) (T := TX12) (N := 60) hx hb hts hw12 hown hK hP 0 rfl rfl 3 (by decide) (hts (.fieldLink RX12 13 "SmokeTuneModel" "row" "[I") (List.mem_cons_of_mem _ (List.mem_append_left _ (List.mem_of_getElem? (i := 1) rfl)))) (fun _ h9 => h9) rfl dX12_dampNow_31 ?_
      refine lv_bipush (v := 11) hx hb dX12_dampNow_34 (by decide) ?_
      refine lv_iload_n hx hb dX12_dampNow_36 rfl (lv_at hl 1 rfl) ?_
      refine lv_iadd hx hb dX12_dampNow_37 ?_
      refine lv_topi (fun x_130 ex_130 => ?_)
      have hx_130 : x_130.toInt = (11 + x.toInt) := by rw [ex_130]; exact i_add (show (11 : Int32).toInt = 11 from rfl) rfl (by omega)
      refine lv_aload_n hx hb dX12_dampNow_38 rfl (lv_at hl 0 rfl) ?_
      refine va_get (ci := 12) (v := .ref w0) (C := RX12) (T := TX12) (N := 60) hx hb hts hw12 hown hK hP 0 rfl rfl 3 (by decide) (hts (.fieldLink RX12 13 "SmokeTuneModel" "row" "[I") (List.mem_cons_of_mem _ (List.mem_append_left _ (List.mem_of_getElem? (i := 1) rfl)))) (fun _ h9 => h9) rfl dX12_dampNow_39 ?_
      refine lv_bipush (v := 11) hx hb dX12_dampNow_42 (by decide) ?_
      refine lv_iload_n hx hb dX12_dampNow_44 rfl (lv_at hl 1 rfl) ?_
      refine lv_iadd hx hb dX12_dampNow_45 ?_
      refine lv_topi (fun x_131 ex_131 => ?_)
      have hx_131 : x_131.toInt = (11 + x.toInt) := by rw [ex_131]; exact i_add (show (11 : Int32).toInt = 11 from rfl) rfl (by omega)
      refine va_iald hx hb hK hP 1 0 rfl rfl (i_in hx_131 (by omega)) dX12_dampNow_46 ?_
      refine lv_topi (fun x_132 ex_132 => ?_)
      have px_132 := RwOK.at zfw hx_131 (show 0 ≤ (11 + x.toInt) ∧ (11 + x.toInt) < 100 by omega)
      rw [← ex_132] at px_132
      have hx_132 := PR.r_11 px_132 (by omega)
      refine lv_iload_n hx hb dX12_dampNow_47 rfl (lv_at hl 2 rfl) ?_
      refine lv_isub hx hb dX12_dampNow_48 ?_
      refine lv_topi (fun x_133 ex_133 => ?_)
      have hx_133 : x_133.toInt = (x_132.toInt - y.toInt) := by rw [ex_133]; exact i_sub rfl rfl (by omega)
      refine lv_i2l hx hb dX12_dampNow_49 rfl ?_
      refine lv_topl (fun x_134 ex_134 => ?_)
      have hx_134 : x_134.toInt = (x_132.toInt - y.toInt) := by rw [ex_134]; exact i_wide hx_133
      refine lv_iconst (v := 0) hx hb dX12_dampNow_50 (by decide) ?_
      refine lv_bipush (v := 20) hx hb dX12_dampNow_51 (by decide) ?_
      refine pci (va_runS (As := [.long x_134, .int 0, .int 20]) (rest := [.int x_130, .ref w0]) ⟨hx, hb, hml, hown, hts⟩ (v_within_20 l D K x_134 H.size) (va_cwS 3 hts gX12_dampNow_X12_within rfl rfl rfl (by decide +kernel) ⟨Nat.le_of_ble_eq_true rfl, Nat.le_of_ble_eq_true rfl⟩) (mkS hK hN (va_P.nil) (va_D.nil (A := fun _ => True))) rfl rfl hl.1 rfl (lv_room (Nat.le_of_ble_eq_true rfl)) dX12_dampNow_53 ⟨Nat.le_of_ble_eq_true rfl, Nat.le_of_ble_eq_true rfl⟩) (fun r_135 hw => ?_)
      obtain ⟨h_136, -⟩ := hw
      refine va_iast hx hb hK hP hD hS 1 0 rfl rfl (i_in hx_130 (by omega)) dX12_dampNow_56 (fun H locs hP hD hS => ?_)
      generalize hf_137 : (upd fw (x_130 : Int32).toNatClampNeg r_135) = f_137 at hP hD
      have hf_137_0 : RwOK f_137 := by rw [← hf_137]; exact RwOK.upd zfw hx_130 (by omega) rfl (PR.w_11 (by omega) (by omega))
      have kf_137 : f_137 ((11 + x.toInt)).toNat = r_135 := by rw [← hf_137, i_clamp hx_130]; exact pk_us
      have hP : va_P D vwCl [(m0, .inr (12, [m_0, m_1, m_2, .ref w0, m_4, m_5, .ref u0, .ref s0, .int (u_126.2.2.2.1 0), m_9, m_10, m_11, m_12, m_13, m_14, m_15, m_16, m_17, m_18, m_19, m_20, m_21, m_22, m_23, m_24, m_25, m_26, m_27, m_28, m_29, m_30, m_31, m_32, m_33, m_34, m_35, m_36, m_37, m_38, m_39, m_40, m_41, m_42, m_43, m_44, m_45, m_46, m_47, m_48, m_49, m_50, m_51, m_52, m_53, m_54, m_55, m_56, m_57, m_58, m_59])), (w0, .inl (K 0, 5500, .inl f_137)), (u0, .inl (K 0, 558, .inl (u_126.2.1 0))), (s0, .inl (K 0, 16, .inl (u_126.2.1 1)))] H := hP
      have hD : va_D A [(m0, .inr (12, [m_0, m_1, m_2, .ref w0, m_4, m_5, .ref u0, .ref s0, .int (u_126.2.2.2.1 0), m_9, m_10, m_11, m_12, m_13, m_14, m_15, m_16, m_17, m_18, m_19, m_20, m_21, m_22, m_23, m_24, m_25, m_26, m_27, m_28, m_29, m_30, m_31, m_32, m_33, m_34, m_35, m_36, m_37, m_38, m_39, m_40, m_41, m_42, m_43, m_44, m_45, m_46, m_47, m_48, m_49, m_50, m_51, m_52, m_53, m_54, m_55, m_56, m_57, m_58, m_59])), (w0, .inl (K 0, 5500, .inl f_137)), (u0, .inl (K 0, 558, .inl (u_126.2.1 0))), (s0, .inl (K 0, 16, .inl (u_126.2.1 1)))] := hD
      refine lv_aload_n hx hb dX12_dampNow_57 rfl (lv_at hl 0 rfl) ?_
      refine va_get (ci := 12) (v := .ref w0) (C := RX12) (T := TX12) (N := 60) hx hb hts hw12 hown hK hP 0 rfl rfl 3 (by decide) (hts (.fieldLink RX12 13 "SmokeTuneModel" "row" "[I") (List.mem_cons_of_mem _ (List.mem_append_left _ (List.mem_of_getElem? (i := 1) rfl)))) (fun _ h9 => h9) rfl dX12_dampNow_58 ?_
      refine lv_bipush (v := 11) hx hb dX12_dampNow_61 (by decide) ?_
      refine lv_iload_n hx hb dX12_dampNow_63 rfl (lv_at hl 1 rfl) ?_
      refine lv_iadd hx hb dX12_dampNow_64 ?_
      refine lv_topi (fun x_138 ex_138 => ?_)
      have hx_138 : x_138.toInt = (11 + x.toInt) := by rw [ex_138]; exact i_add (show (11 : Int32).toInt = 11 from rfl) rfl (by omega)
      refine va_iald hx hb hK hP 1 0 rfl rfl (i_in hx_138 (by omega)) dX12_dampNow_65 ?_
      refine lv_topi (fun x_139 ex_139 => ?_)
      have erx_139 : x_139 = r_135 := ex_139.trans (by rw [i_clamp hx_138]; exact kf_137)
      have hrx_139 : x_139.toInt = r_135.toInt := (congrArg Int32.toInt erx_139).trans rfl
      rw [← hQ]
      have hP9 := hP.sub (ws' := [(m0, .inr (12, [m_0, m_1, m_2, .ref w0, m_4, m_5, .ref u0, .ref s0, .int (u_126.2.2.2.1 0), m_9, m_10, m_11, m_12, m_13, m_14, m_15, m_16, m_17, m_18, m_19, m_20, m_21, m_22, m_23, m_24, m_25, m_26, m_27, m_28, m_29, m_30, m_31, m_32, m_33, m_34, m_35, m_36, m_37, m_38, m_39, m_40, m_41, m_42, m_43, m_44, m_45, m_46, m_47, m_48, m_49, m_50, m_51, m_52, m_53, m_54, m_55, m_56, m_57, m_58, m_59])), (w0, .inl (K 0, 5500, .inl f_137)), (u0, .inl (K 0, 558, .inl (u_126.2.1 0))), (s0, .inl (K 0, 16, .inl (u_126.2.1 1)))]) [0, 1, 2, 3] rfl
      have hD9 := hD.sub (ws' := [(m0, .inr (12, [m_0, m_1, m_2, .ref w0, m_4, m_5, .ref u0, .ref s0, .int (u_126.2.2.2.1 0), m_9, m_10, m_11, m_12, m_13, m_14, m_15, m_16, m_17, m_18, m_19, m_20, m_21, m_22, m_23, m_24, m_25, m_26, m_27, m_28, m_29, m_30, m_31, m_32, m_33, m_34, m_35, m_36, m_37, m_38, m_39, m_40, m_41, m_42, m_43, m_44, m_45, m_46, m_47, m_48, m_49, m_50, m_51, m_52, m_53, m_54, m_55, m_56, m_57, m_58, m_59])), (w0, .inl (K 0, 5500, .inl f_137)), (u0, .inl (K 0, 558, .inl (u_126.2.1 0))), (s0, .inl (K 0, 16, .inl (u_126.2.1 1)))]) [0, 1, 2, 3] (by decide) rfl
      exact W.iret (v := x_139) hx hb hr (fun t ht hW => ⟨⟨x_139, ((fun _ => 0, fun i => match i with | 0 => f_137 | 1 => (u_126.2.1 0) | _ => (u_126.2.1 1), fun _ => fun _ => 0, fun i => match i with | _ => (u_126.2.2.2.1 0), fun _ => 0, fun _ => fun _ => none) : Su), rfl, ⟨(show (-2) ≤ x_139.toInt ∧ x_139.toInt ≤ 20 by rw [hrx_139]; omega), (show 0 ≤ ((u_126.2.2.2.1 0) : Int32).toInt ∧ ((u_126.2.2.2.1 0) : Int32).toInt ≤ 16 by omega), hf_137_0, k_128, k_129, trivial⟩, (⟨by rw [ht]; exact hP9, hD9⟩ : Wd D A _ t)⟩, hS.F ht⟩) hS.2.2 dX12_dampNow_66
    · refine lv_if_ne (tgt := 25) hx hb dX12_dampNow_19 (by decide) (fun c_140 => absurd (by decide) c_140) (fun c_140 => ?_)
      refine lv_bipush (v := (-2)) hx hb dX12_dampNow_22 (by decide) ?_
      rw [← hQ]
      have hP9 := hP.sub (ws' := [(m0, .inr (12, [m_0, m_1, m_2, .ref w0, m_4, m_5, .ref u0, .ref s0, .int nu, m_9, m_10, m_11, m_12, m_13, m_14, m_15, m_16, m_17, m_18, m_19, m_20, m_21, m_22, m_23, m_24, m_25, m_26, m_27, m_28, m_29, m_30, m_31, m_32, m_33, m_34, m_35, m_36, m_37, m_38, m_39, m_40, m_41, m_42, m_43, m_44, m_45, m_46, m_47, m_48, m_49, m_50, m_51, m_52, m_53, m_54, m_55, m_56, m_57, m_58, m_59])), (w0, .inl (K 0, 5500, .inl fw)), (u0, .inl (K 0, 558, .inl fu)), (s0, .inl (K 0, 16, .inl fs))]) [0, 1, 2, 3] rfl
      have hD9 := hD.sub (ws' := [(m0, .inr (12, [m_0, m_1, m_2, .ref w0, m_4, m_5, .ref u0, .ref s0, .int nu, m_9, m_10, m_11, m_12, m_13, m_14, m_15, m_16, m_17, m_18, m_19, m_20, m_21, m_22, m_23, m_24, m_25, m_26, m_27, m_28, m_29, m_30, m_31, m_32, m_33, m_34, m_35, m_36, m_37, m_38, m_39, m_40, m_41, m_42, m_43, m_44, m_45, m_46, m_47, m_48, m_49, m_50, m_51, m_52, m_53, m_54, m_55, m_56, m_57, m_58, m_59])), (w0, .inl (K 0, 5500, .inl fw)), (u0, .inl (K 0, 558, .inl fu)), (s0, .inl (K 0, 16, .inl fs))]) [0, 1, 2, 3] (by decide) rfl
      exact W.iret (v := (-2)) hx hb hr (fun t ht hW => ⟨⟨(-2), ((fun _ => 0, fun i => match i with | 0 => fw | 1 => fu | _ => fs, fun _ => fun _ => 0, fun i => match i with | _ => nu, fun _ => 0, fun _ => fun _ => none) : Su), rfl, ⟨(show (-2) ≤ ((-2) : Int32).toInt ∧ ((-2) : Int32).toInt ≤ 20 by decide), (show 0 ≤ (nu : Int32).toInt ∧ (nu : Int32).toInt ≤ 16 by omega), zfw, zfu, zfs, trivial⟩, (⟨by rw [ht]; exact hP9, hD9⟩ : Wd D A _ t)⟩, hS.F ht⟩) hS.2.2 dX12_dampNow_24
  · refine lv_if_ne (tgt := 14) hx hb dX12_dampNow_9 (by decide) (fun c_141 => absurd (by decide) c_141) (fun c_141 => ?_)
    refine lv_iconst (v := (-1)) hx hb dX12_dampNow_12 (by decide) ?_
    rw [← hQ]
    have hP9 := hP.sub (ws' := [(m0, .inr (12, [m_0, m_1, m_2, .ref w0, m_4, m_5, .ref u0, .ref s0, .int nu, m_9, m_10, m_11, m_12, m_13, m_14, m_15, m_16, m_17, m_18, m_19, m_20, m_21, m_22, m_23, m_24, m_25, m_26, m_27, m_28, m_29, m_30, m_31, m_32, m_33, m_34, m_35, m_36, m_37, m_38, m_39, m_40, m_41, m_42, m_43, m_44, m_45, m_46, m_47, m_48, m_49, m_50, m_51, m_52, m_53, m_54, m_55, m_56, m_57, m_58, m_59])), (w0, .inl (K 0, 5500, .inl fw)), (u0, .inl (K 0, 558, .inl fu)), (s0, .inl (K 0, 16, .inl fs))]) [0, 1, 2, 3] rfl
    have hD9 := hD.sub (ws' := [(m0, .inr (12, [m_0, m_1, m_2, .ref w0, m_4, m_5, .ref u0, .ref s0, .int nu, m_9, m_10, m_11, m_12, m_13, m_14, m_15, m_16, m_17, m_18, m_19, m_20, m_21, m_22, m_23, m_24, m_25, m_26, m_27, m_28, m_29, m_30, m_31, m_32, m_33, m_34, m_35, m_36, m_37, m_38, m_39, m_40, m_41, m_42, m_43, m_44, m_45, m_46, m_47, m_48, m_49, m_50, m_51, m_52, m_53, m_54, m_55, m_56, m_57, m_58, m_59])), (w0, .inl (K 0, 5500, .inl fw)), (u0, .inl (K 0, 558, .inl fu)), (s0, .inl (K 0, 16, .inl fs))]) [0, 1, 2, 3] (by decide) rfl
    exact W.iret (v := (-1)) hx hb hr (fun t ht hW => ⟨⟨(-1), ((fun _ => 0, fun i => match i with | 0 => fw | 1 => fu | _ => fs, fun _ => fun _ => 0, fun i => match i with | _ => nu, fun _ => 0, fun _ => fun _ => none) : Su), rfl, ⟨(show (-2) ≤ ((-1) : Int32).toInt ∧ ((-1) : Int32).toInt ≤ 20 by decide), (show 0 ≤ (nu : Int32).toInt ∧ (nu : Int32).toInt ≤ 16 by omega), zfw, zfu, zfs, trivial⟩, (⟨by rw [ht]; exact hP9, hD9⟩ : Wd D A _ t)⟩, hS.F ht⟩) hS.2.2 dX12_dampNow_13
set_option maxHeartbeats 4000000 in
set_option maxRecDepth 100000 in
theorem v_buyNow (l : Launch) (D : va_G) (K : Nat → ClassId) (m0 : Nat) (x : Int32) (y : Int32) (m_0 : Value) (m_1 : Value) (m_2 : Value) (w0 : Nat) (m_4 : Value) (m_5 : Value) (u0 : Nat) (s0 : Nat) (nu : Int32) (m_9 : Value) (m_10 : Value) (m_11 : Value) (m_12 : Value) (m_13 : Value) (m_14 : Value) (m_15 : Value) (m_16 : Value) (m_17 : Value) (m_18 : Value) (m_19 : Value) (m_20 : Value) (m_21 : Value) (m_22 : Value) (m_23 : Value) (m_24 : Value) (m_25 : Value) (m_26 : Value) (m_27 : Value) (m_28 : Value) (m_29 : Value) (m_30 : Value) (m_31 : Value) (m_32 : Value) (m_33 : Value) (m_34 : Value) (m_35 : Value) (m_36 : Value) (m_37 : Value) (m_38 : Value) (m_39 : Value) (m_40 : Value) (m_41 : Value) (m_42 : Value) (m_43 : Value) (m_44 : Value) (m_45 : Value) (m_46 : Value) (m_47 : Value) (m_48 : Value) (m_49 : Value) (m_50 : Value) (m_51 : Value) (m_52 : Value) (m_53 : Value) (m_54 : Value) (m_55 : Value) (m_56 : Value) (m_57 : Value) (m_58 : Value) (m_59 : Value) (fw : Nat → Int32) (fu : Nat → Int32) (fs : Nat → Int32) (sz : Nat) (znu : 0 ≤ nu.toInt ∧ nu.toInt ≤ 16) (zfw : RwOK fw) (zfu : Pu 558 fu) (zfs : Rg 16 0 3 fs) : Met l yX12_buyNow wsX12_buyNow ({ frames := 2, cells := 0, slots := 0, locals := 46 }) (va_Pc [.ref m0, .int x, .int y] (Pre D K [(m0, .inr (12, [m_0, m_1, m_2, .ref w0, m_4, m_5, .ref u0, .ref s0, .int nu, m_9, m_10, m_11, m_12, m_13, m_14, m_15, m_16, m_17, m_18, m_19, m_20, m_21, m_22, m_23, m_24, m_25, m_26, m_27, m_28, m_29, m_30, m_31, m_32, m_33, m_34, m_35, m_36, m_37, m_38, m_39, m_40, m_41, m_42, m_43, m_44, m_45, m_46, m_47, m_48, m_49, m_50, m_51, m_52, m_53, m_54, m_55, m_56, m_57, m_58, m_59])), (w0, .inl (K 0, 5500, .inl fw)), (u0, .inl (K 0, 558, .inl fu)), (s0, .inl (K 0, 16, .inl fs))] sz)) (va_Qi (S := Su) (fun (r : Int32) (u : Su) => ((-2) ≤ r.toInt ∧ r.toInt ≤ 999) ∧ (0 ≤ (u.2.2.2.1 0).toInt ∧ (u.2.2.2.1 0).toInt ≤ 16) ∧ (RwOK (u.2.1 0)) ∧ (Pu 558 (u.2.1 1)) ∧ (Rg 16 0 3 (u.2.1 2)) ∧ True) (fun u t => Wd D (va_A [(m0, .inr (12, [m_0, m_1, m_2, .ref w0, m_4, m_5, .ref u0, .ref s0, .int nu, m_9, m_10, m_11, m_12, m_13, m_14, m_15, m_16, m_17, m_18, m_19, m_20, m_21, m_22, m_23, m_24, m_25, m_26, m_27, m_28, m_29, m_30, m_31, m_32, m_33, m_34, m_35, m_36, m_37, m_38, m_39, m_40, m_41, m_42, m_43, m_44, m_45, m_46, m_47, m_48, m_49, m_50, m_51, m_52, m_53, m_54, m_55, m_56, m_57, m_58, m_59])), (w0, .inl (K 0, 5500, .inl fw)), (u0, .inl (K 0, 558, .inl fu)), (s0, .inl (K 0, 16, .inl fs))] sz) ((fun u => [(m0, .inr (12, [m_0, m_1, m_2, .ref w0, m_4, m_5, .ref u0, .ref s0, .int (u.2.2.2.1 0), m_9, m_10, m_11, m_12, m_13, m_14, m_15, m_16, m_17, m_18, m_19, m_20, m_21, m_22, m_23, m_24, m_25, m_26, m_27, m_28, m_29, m_30, m_31, m_32, m_33, m_34, m_35, m_36, m_37, m_38, m_39, m_40, m_41, m_42, m_43, m_44, m_45, m_46, m_47, m_48, m_49, m_50, m_51, m_52, m_53, m_54, m_55, m_56, m_57, m_58, m_59])), (w0, .inl (K 0, 5500, .inl (u.2.1 0))), (u0, .inl (K 0, 558, .inl (u.2.1 1))), (s0, .inl (K 0, 16, .inl (u.2.1 2)))]) u) t) (va_A [(m0, .inr (12, [m_0, m_1, m_2, .ref w0, m_4, m_5, .ref u0, .ref s0, .int nu, m_9, m_10, m_11, m_12, m_13, m_14, m_15, m_16, m_17, m_18, m_19, m_20, m_21, m_22, m_23, m_24, m_25, m_26, m_27, m_28, m_29, m_30, m_31, m_32, m_33, m_34, m_35, m_36, m_37, m_38, m_39, m_40, m_41, m_42, m_43, m_44, m_45, m_46, m_47, m_48, m_49, m_50, m_51, m_52, m_53, m_54, m_55, m_56, m_57, m_58, m_59])), (w0, .inl (K 0, 5500, .inl fw)), (u0, .inl (K 0, 558, .inl fu)), (s0, .inl (K 0, 16, .inl fs))] sz)) 0 0 (va_A [(m0, .inr (12, [m_0, m_1, m_2, .ref w0, m_4, m_5, .ref u0, .ref s0, .int nu, m_9, m_10, m_11, m_12, m_13, m_14, m_15, m_16, m_17, m_18, m_19, m_20, m_21, m_22, m_23, m_24, m_25, m_26, m_27, m_28, m_29, m_30, m_31, m_32, m_33, m_34, m_35, m_36, m_37, m_38, m_39, m_40, m_41, m_42, m_43, m_44, m_45, m_46, m_47, m_48, m_49, m_50, m_51, m_52, m_53, m_54, m_55, m_56, m_57, m_58, m_59])), (w0, .inl (K 0, 5500, .inl fw)), (u0, .inl (K 0, 558, .inl fu)), (s0, .inl (K 0, 16, .inl fs))] sz) := by
  refine Met.ofW (cc := cX12_buyNow) (maxL := 3) (ret := (some .int)) (by decide) rfl ?_
  intro p e s m args below meth c s₁ B hml hv
  obtain ⟨rfl, hsz, hP, hK, hD0, hN⟩ := hv
  have hx := B.exec
  have hb := B.bytes
  have hr := B.returns
  have hts := atoms_spec (ws := wsX12_buyNow) B.pre
  have hown : s.vm.findClass RX12 = some m.cls := findClass_of_methodNamed B.named
  have hlocks := B.notSynchronized
  subst hsz
  have hD := hD0.self (sz := s.heap.size)
  generalize hAe : va_A [(m0, .inr (12, [m_0, m_1, m_2, .ref w0, m_4, m_5, .ref u0, .ref s0, .int nu, m_9, m_10, m_11, m_12, m_13, m_14, m_15, m_16, m_17, m_18, m_19, m_20, m_21, m_22, m_23, m_24, m_25, m_26, m_27, m_28, m_29, m_30, m_31, m_32, m_33, m_34, m_35, m_36, m_37, m_38, m_39, m_40, m_41, m_42, m_43, m_44, m_45, m_46, m_47, m_48, m_49, m_50, m_51, m_52, m_53, m_54, m_55, m_56, m_57, m_58, m_59])), (w0, .inl (K 0, 5500, .inl fw)), (u0, .inl (K 0, 558, .inl fu)), (s0, .inl (K 0, 16, .inl fs))] s.heap.size = A at hD ⊢
  have hA : ∀ q : Nat, s.heap.size ≤ q → A q := fun q h => by rw [← hAe]; exact Or.inr h
  have hS : va_S A s.heap s.heap [] := va_S.rf
  have hP : va_P D vwCl [(m0, .inr (12, [m_0, m_1, m_2, .ref w0, m_4, m_5, .ref u0, .ref s0, .int nu, m_9, m_10, m_11, m_12, m_13, m_14, m_15, m_16, m_17, m_18, m_19, m_20, m_21, m_22, m_23, m_24, m_25, m_26, m_27, m_28, m_29, m_30, m_31, m_32, m_33, m_34, m_35, m_36, m_37, m_38, m_39, m_40, m_41, m_42, m_43, m_44, m_45, m_46, m_47, m_48, m_49, m_50, m_51, m_52, m_53, m_54, m_55, m_56, m_57, m_58, m_59])), (w0, .inl (K 0, 5500, .inl fw)), (u0, .inl (K 0, 558, .inl fu)), (s0, .inl (K 0, 16, .inl fs))] s.heap := hP
  have hl := lv_entry [.ref m0, .int x, .int y] (n := 3) (Nat.le_of_ble_eq_true rfl)
  rw [lg_entry_eq]
  generalize (lg_sl [.ref m0, .int x, .int y] ++ List.replicate (3 - (lg_sl [.ref m0, .int x, .int y]).length) Slot.unset).toArray = ls at hl ⊢
  have hl : lv_has ls 3 [(0, .ref m0), (1, .int x), (2, .int y)] := hl
  have hw12 : ∀ w ∈ wsX120, w ∈ wsX12_buyNow := fun w h => (List.mem_cons_of_mem _ (List.mem_append_right _ h))
  generalize hQ : MQ below _ _ s _ _ _ = Q
  refine lv_iload_n hx hb dX12_buyNow_0 rfl (lv_at hl 2 rfl) ?_
  refine lv_i2l hx hb dX12_buyNow_1 rfl ?_
  refine lv_topl (fun x_115 ex_115 => ?_)
  have hx_115 : x_115.toInt = y.toInt := by rw [ex_115]; exact i_wide rfl
  have hbx_115 := i_rng (a := y) rfl
  refine lv_lconst (v := 1) hx hb dX12_buyNow_2 (by decide) ?_
  refine lv_ldc2 (v := 999) hx hb hown (hts (.constantLong RX12 193 (999)) (List.mem_cons_of_mem _ (List.mem_append_left _ (List.mem_of_getElem? (i := 0) rfl)))) dX12_buyNow_3 ?_
  refine pci (va_runS (As := [.long x_115, .long 1, .long 999]) (rest := []) ⟨hx, hb, hml, hown, hts⟩ (v_in l D K y.toInt 1 999 x_115 1 999 s.heap.size hx_115 (show (1 : Int64).toInt = 1 from rfl) (show (999 : Int64).toInt = 999 from rfl)) (va_cwS 3 hts gX12_buyNow_X12_in rfl rfl rfl (by decide +kernel) ⟨Nat.le_of_ble_eq_true rfl, Nat.le_of_ble_eq_true rfl⟩) (mkS hK hN (va_P.nil) (va_D.nil (A := fun _ => True))) rfl rfl hl.1 rfl (lv_room (Nat.le_of_ble_eq_true rfl)) dX12_buyNow_6 ⟨Nat.le_of_ble_eq_true rfl, Nat.le_of_ble_eq_true rfl⟩) (fun r_116 hw => ?_)
  obtain ⟨hw, -⟩ := hw
  rcases hw with ⟨rfl, h_117, h_118⟩ | ⟨rfl, h_119⟩
  · refine lv_if_ne (tgt := 14) hx hb dX12_buyNow_9 (by decide) (fun c_120 => ?_) (fun c_120 => absurd c_120 (by decide))
    refine lv_aload_n hx hb dX12_buyNow_14 rfl (lv_at hl 0 rfl) ?_
    refine lv_iload_n hx hb dX12_buyNow_15 rfl (lv_at hl 1 rfl) ?_
    refine pci (va_runV (As := [.int x]) (rest := []) ⟨hx, hb, hml, hown, hts⟩ (v_isHouse l D K x.toInt m0 x m_0 m_1 m_2 w0 m_4 m_5 (.ref u0) (.ref s0) (.int nu) m_9 m_10 m_11 m_12 m_13 m_14 m_15 m_16 m_17 m_18 m_19 m_20 m_21 m_22 m_23 m_24 m_25 m_26 m_27 m_28 m_29 m_30 m_31 m_32 m_33 m_34 m_35 m_36 m_37 m_38 m_39 m_40 m_41 m_42 m_43 m_44 m_45 m_46 m_47 m_48 m_49 m_50 m_51 m_52 m_53 m_54 m_55 m_56 m_57 m_58 m_59 fw s.heap.size rfl zfw) (cwV 1 hts gX12_buyNow_X12_isHouse rfl rfl rfl (by decide +kernel) ⟨Nat.le_of_ble_eq_true rfl, Nat.le_of_ble_eq_true rfl⟩) (mkV hK hN (hP.sub [0, 1] rfl) (hD.sub [0, 1] (by decide) rfl) (ci := 12) (q0 := 0) rfl rfl) rfl rfl hl.1 rfl (lv_room (Nat.le_of_ble_eq_true rfl)) dX12_buyNow_16 ⟨Nat.le_of_ble_eq_true rfl, Nat.le_of_ble_eq_true rfl⟩) (fun r_121 hw => ?_)
    obtain ⟨hw, -⟩ := hw
    rcases hw with ⟨rfl, h_122, h_123⟩ | rfl
    · refine lv_if_ne (tgt := 25) hx hb dX12_buyNow_19 (by decide) (fun c_124 => ?_) (fun c_124 => absurd c_124 (by decide))
      refine lv_aload_n hx hb dX12_buyNow_25 rfl (lv_at hl 0 rfl) ?_
      refine lv_iconst (v := 2) hx hb dX12_buyNow_26 (by decide) ?_
      refine kcv (S := Su) (wr := []) (va_runV (As := [.int 2]) (rest := []) ⟨hx, hb, hml, hown, hts⟩ (v_remember l D K m0 2 m_0 m_1 m_2 w0 m_4 m_5 u0 s0 nu m_9 m_10 m_11 m_12 m_13 m_14 m_15 m_16 m_17 m_18 m_19 m_20 m_21 m_22 m_23 m_24 m_25 m_26 m_27 m_28 m_29 m_30 m_31 m_32 m_33 m_34 m_35 m_36 m_37 m_38 m_39 m_40 m_41 m_42 m_43 m_44 m_45 m_46 m_47 m_48 m_49 m_50 m_51 m_52 m_53 m_54 m_55 m_56 m_57 m_58 m_59 fw fu fs s.heap.size (by first | omega | decide) (by first | omega | decide) zfw zfu zfs) (cwV 1 hts gX12_buyNow_X12_remember rfl rfl rfl (by decide +kernel) ⟨Nat.le_of_ble_eq_true rfl, Nat.le_of_ble_eq_true rfl⟩) (mkV hK hN (hP.sub [0, 1, 2, 3] rfl) (hD.sub [0, 1, 2, 3] (by decide) rfl) (ci := 12) (q0 := 0) rfl rfl) rfl rfl hl.1 rfl (lv_room (Nat.le_of_ble_eq_true rfl)) dX12_buyNow_27 ⟨Nat.le_of_ble_eq_true rfl, Nat.le_of_ble_eq_true rfl⟩) hP hD hS hA [0, 1, 2, 3] [] rfl rfl (by decide) (by decide) (fun u_126 H locs hw hP hD hS => ?_)
      have hP : va_P D vwCl [(m0, .inr (12, [m_0, m_1, m_2, .ref w0, m_4, m_5, .ref u0, .ref s0, .int (u_126.2.2.2.1 0), m_9, m_10, m_11, m_12, m_13, m_14, m_15, m_16, m_17, m_18, m_19, m_20, m_21, m_22, m_23, m_24, m_25, m_26, m_27, m_28, m_29, m_30, m_31, m_32, m_33, m_34, m_35, m_36, m_37, m_38, m_39, m_40, m_41, m_42, m_43, m_44, m_45, m_46, m_47, m_48, m_49, m_50, m_51, m_52, m_53, m_54, m_55, m_56, m_57, m_58, m_59])), (w0, .inl (K 0, 5500, .inl fw)), (u0, .inl (K 0, 558, .inl (u_126.2.1 0))), (s0, .inl (K 0, 16, .inl (u_126.2.1 1)))] H := hP
      have hD : va_D A [(m0, .inr (12, [m_0, m_1, m_2, .ref w0, m_4, m_5, .ref u0, .ref s0, .int (u_126.2.2.2.1 0), m_9, m_10, m_11, m_12, m_13, m_14, m_15, m_16, m_17, m_18, m_19, m_20, m_21, m_22, m_23, m_24, m_25, m_26, m_27, m_28, m_29, m_30, m_31, m_32, m_33, m_34, m_35, m_36, m_37, m_38, m_39, m_40, m_41, m_42, m_43, m_44, m_45, m_46, m_47, m_48, m_49, m_50, m_51, m_52, m_53, m_54, m_55, m_56, m_57, m_58, m_59])), (w0, .inl (K 0, 5500, .inl fw)), (u0, .inl (K 0, 558, .inl (u_126.2.1 0))), (s0, .inl (K 0, 16, .inl (u_126.2.1 1)))] := hD
      obtain ⟨k_127, k_128, k_129, -⟩ := hw
      refine lv_aload_n hx hb dX12_buyNow_30 rfl (lv_at hl 0 rfl) ?_
      refine va_get (ci := 12) (v := .ref w0) (C := RX12) (T := TX12) (N := 60) hx hb hts hw12 hown hK hP 0 rfl rfl 3 (by decide) (hts (.fieldLink RX12 13 "SmokeTuneModel" "row" "[I") (List.mem_cons_of_mem _ (List.mem_append_left _ (List.mem_of_getElem? (i := 1) rfl)))) (fun _ h9 => h9) rfl dX12_buyNow_31 ?_
      refine lv_bipush (v := 19) hx hb dX12_buyNow_34 (by decide) ?_
      refine lv_iload_n hx hb dX12_buyNow_36 rfl (lv_at hl 1 rfl) ?_
      refine lv_iadd hx hb dX12_buyNow_37 ?_
      refine lv_topi (fun x_130 ex_130 => ?_)
      have hx_130 : x_130.toInt = (19 + x.toInt) := by rw [ex_130]; exact i_add (show (19 : Int32).toInt = 19 from rfl) rfl (by omega)
      refine lv_aload_n hx hb dX12_buyNow_38 rfl (lv_at hl 0 rfl) ?_
      refine va_get (ci := 12) (v := .ref w0) (C := RX12) (T := TX12) (N := 60) hx hb hts hw12 hown hK hP 0 rfl rfl 3 (by decide) (hts (.fieldLink RX12 13 "SmokeTuneModel" "row" "[I") (List.mem_cons_of_mem _ (List.mem_append_left _ (List.mem_of_getElem? (i := 1) rfl)))) (fun _ h9 => h9) rfl dX12_buyNow_39 ?_
      refine lv_bipush (v := 19) hx hb dX12_buyNow_42 (by decide) ?_
      refine lv_iload_n hx hb dX12_buyNow_44 rfl (lv_at hl 1 rfl) ?_
      refine lv_iadd hx hb dX12_buyNow_45 ?_
      refine lv_topi (fun x_131 ex_131 => ?_)
      have hx_131 : x_131.toInt = (19 + x.toInt) := by rw [ex_131]; exact i_add (show (19 : Int32).toInt = 19 from rfl) rfl (by omega)
      refine va_iald hx hb hK hP 1 0 rfl rfl (i_in hx_131 (by omega)) dX12_buyNow_46 ?_
      refine lv_topi (fun x_132 ex_132 => ?_)
      have px_132 := RwOK.at zfw hx_131 (show 0 ≤ (19 + x.toInt) ∧ (19 + x.toInt) < 100 by omega)
      rw [← ex_132] at px_132
      refine lv_iload_n hx hb dX12_buyNow_47 rfl (lv_at hl 2 rfl) ?_
      refine lv_iadd hx hb dX12_buyNow_48 ?_
      refine lv_topi (fun x_133 ex_133 => ?_)
      refine lv_i2l hx hb dX12_buyNow_49 rfl ?_
      refine lv_topl (fun x_134 ex_134 => ?_)
      have hx_134 : x_134.toInt = x_133.toInt := by rw [ex_134]; exact i_wide rfl
      have hbx_134 := i_rng (a := x_133) rfl
      refine lv_iconst (v := 0) hx hb dX12_buyNow_50 (by decide) ?_
      refine lv_sipush (v := 999) hx hb dX12_buyNow_51 (by decide) ?_
      refine pci (va_runS (As := [.long x_134, .int 0, .int 999]) (rest := [.int x_130, .ref w0]) ⟨hx, hb, hml, hown, hts⟩ (v_within_999 l D K x_134 H.size) (va_cwS 3 hts gX12_buyNow_X12_within rfl rfl rfl (by decide +kernel) ⟨Nat.le_of_ble_eq_true rfl, Nat.le_of_ble_eq_true rfl⟩) (mkS hK hN (va_P.nil) (va_D.nil (A := fun _ => True))) rfl rfl hl.1 rfl (lv_room (Nat.le_of_ble_eq_true rfl)) dX12_buyNow_54 ⟨Nat.le_of_ble_eq_true rfl, Nat.le_of_ble_eq_true rfl⟩) (fun r_135 hw => ?_)
      obtain ⟨h_136, -⟩ := hw
      refine va_iast hx hb hK hP hD hS 1 0 rfl rfl (i_in hx_130 (by omega)) dX12_buyNow_57 (fun H locs hP hD hS => ?_)
      generalize hf_137 : (upd fw (x_130 : Int32).toNatClampNeg r_135) = f_137 at hP hD
      have hf_137_0 : RwOK f_137 := by rw [← hf_137]; exact RwOK.upd zfw hx_130 (by omega) rfl (PR.free (by omega))
      have kf_137 : f_137 ((19 + x.toInt)).toNat = r_135 := by rw [← hf_137, i_clamp hx_130]; exact pk_us
      have hP : va_P D vwCl [(m0, .inr (12, [m_0, m_1, m_2, .ref w0, m_4, m_5, .ref u0, .ref s0, .int (u_126.2.2.2.1 0), m_9, m_10, m_11, m_12, m_13, m_14, m_15, m_16, m_17, m_18, m_19, m_20, m_21, m_22, m_23, m_24, m_25, m_26, m_27, m_28, m_29, m_30, m_31, m_32, m_33, m_34, m_35, m_36, m_37, m_38, m_39, m_40, m_41, m_42, m_43, m_44, m_45, m_46, m_47, m_48, m_49, m_50, m_51, m_52, m_53, m_54, m_55, m_56, m_57, m_58, m_59])), (w0, .inl (K 0, 5500, .inl f_137)), (u0, .inl (K 0, 558, .inl (u_126.2.1 0))), (s0, .inl (K 0, 16, .inl (u_126.2.1 1)))] H := hP
      have hD : va_D A [(m0, .inr (12, [m_0, m_1, m_2, .ref w0, m_4, m_5, .ref u0, .ref s0, .int (u_126.2.2.2.1 0), m_9, m_10, m_11, m_12, m_13, m_14, m_15, m_16, m_17, m_18, m_19, m_20, m_21, m_22, m_23, m_24, m_25, m_26, m_27, m_28, m_29, m_30, m_31, m_32, m_33, m_34, m_35, m_36, m_37, m_38, m_39, m_40, m_41, m_42, m_43, m_44, m_45, m_46, m_47, m_48, m_49, m_50, m_51, m_52, m_53, m_54, m_55, m_56, m_57, m_58, m_59])), (w0, .inl (K 0, 5500, .inl f_137)), (u0, .inl (K 0, 558, .inl (u_126.2.1 0))), (s0, .inl (K 0, 16, .inl (u_126.2.1 1)))] := hD
      refine lv_aload_n hx hb dX12_buyNow_58 rfl (lv_at hl 0 rfl) ?_
      refine va_get (ci := 12) (v := .ref w0) (C := RX12) (T := TX12) (N := 60) hx hb hts hw12 hown hK hP 0 rfl rfl 3 (by decide) (hts (.fieldLink RX12 13 "SmokeTuneModel" "row" "[I") (List.mem_cons_of_mem _ (List.mem_append_left _ (List.mem_of_getElem? (i := 1) rfl)))) (fun _ h9 => h9) rfl dX12_buyNow_59 ?_
      refine lv_bipush (v := 19) hx hb dX12_buyNow_62 (by decide) ?_
      refine lv_iload_n hx hb dX12_buyNow_64 rfl (lv_at hl 1 rfl) ?_
      refine lv_iadd hx hb dX12_buyNow_65 ?_
      refine lv_topi (fun x_138 ex_138 => ?_)
      have hx_138 : x_138.toInt = (19 + x.toInt) := by rw [ex_138]; exact i_add (show (19 : Int32).toInt = 19 from rfl) rfl (by omega)
      refine va_iald hx hb hK hP 1 0 rfl rfl (i_in hx_138 (by omega)) dX12_buyNow_66 ?_
      refine lv_topi (fun x_139 ex_139 => ?_)
      have erx_139 : x_139 = r_135 := ex_139.trans (by rw [i_clamp hx_138]; exact kf_137)
      have hrx_139 : x_139.toInt = r_135.toInt := (congrArg Int32.toInt erx_139).trans rfl
      rw [← hQ]
      have hP9 := hP.sub (ws' := [(m0, .inr (12, [m_0, m_1, m_2, .ref w0, m_4, m_5, .ref u0, .ref s0, .int (u_126.2.2.2.1 0), m_9, m_10, m_11, m_12, m_13, m_14, m_15, m_16, m_17, m_18, m_19, m_20, m_21, m_22, m_23, m_24, m_25, m_26, m_27, m_28, m_29, m_30, m_31, m_32, m_33, m_34, m_35, m_36, m_37, m_38, m_39, m_40, m_41, m_42, m_43, m_44, m_45, m_46, m_47, m_48, m_49, m_50, m_51, m_52, m_53, m_54, m_55, m_56, m_57, m_58, m_59])), (w0, .inl (K 0, 5500, .inl f_137)), (u0, .inl (K 0, 558, .inl (u_126.2.1 0))), (s0, .inl (K 0, 16, .inl (u_126.2.1 1)))]) [0, 1, 2, 3] rfl
      have hD9 := hD.sub (ws' := [(m0, .inr (12, [m_0, m_1, m_2, .ref w0, m_4, m_5, .ref u0, .ref s0, .int (u_126.2.2.2.1 0), m_9, m_10, m_11, m_12, m_13, m_14, m_15, m_16, m_17, m_18, m_19, m_20, m_21, m_22, m_23, m_24, m_25, m_26, m_27, m_28, m_29, m_30, m_31, m_32, m_33, m_34, m_35, m_36, m_37, m_38, m_39, m_40, m_41, m_42, m_43, m_44, m_45, m_46, m_47, m_48, m_49, m_50, m_51, m_52, m_53, m_54, m_55, m_56, m_57, m_58, m_59])), (w0, .inl (K 0, 5500, .inl f_137)), (u0, .inl (K 0, 558, .inl (u_126.2.1 0))), (s0, .inl (K 0, 16, .inl (u_126.2.1 1)))]) [0, 1, 2, 3] (by decide) rfl
      exact W.iret (v := x_139) hx hb hr (fun t ht hW => ⟨⟨x_139, ((fun _ => 0, fun i => match i with | 0 => f_137 | 1 => (u_126.2.1 0) | _ => (u_126.2.1 1), fun _ => fun _ => 0, fun i => match i with | _ => (u_126.2.2.2.1 0), fun _ => 0, fun _ => fun _ => none) : Su), rfl, ⟨(show (-2) ≤ x_139.toInt ∧ x_139.toInt ≤ 999 by rw [hrx_139]; omega), (show 0 ≤ ((u_126.2.2.2.1 0) : Int32).toInt ∧ ((u_126.2.2.2.1 0) : Int32).toInt ≤ 16 by omega), hf_137_0, k_128, k_129, trivial⟩, (⟨by rw [ht]; exact hP9, hD9⟩ : Wd D A _ t)⟩, hS.F ht⟩) hS.2.2 dX12_buyNow_67
    · refine lv_if_ne (tgt := 25) hx hb dX12_buyNow_19 (by decide) (fun c_140 => absurd (by decide) c_140) (fun c_140 => ?_)
      refine lv_bipush (v := (-2)) hx hb dX12_buyNow_22 (by decide) ?_
      rw [← hQ]
      have hP9 := hP.sub (ws' := [(m0, .inr (12, [m_0, m_1, m_2, .ref w0, m_4, m_5, .ref u0, .ref s0, .int nu, m_9, m_10, m_11, m_12, m_13, m_14, m_15, m_16, m_17, m_18, m_19, m_20, m_21, m_22, m_23, m_24, m_25, m_26, m_27, m_28, m_29, m_30, m_31, m_32, m_33, m_34, m_35, m_36, m_37, m_38, m_39, m_40, m_41, m_42, m_43, m_44, m_45, m_46, m_47, m_48, m_49, m_50, m_51, m_52, m_53, m_54, m_55, m_56, m_57, m_58, m_59])), (w0, .inl (K 0, 5500, .inl fw)), (u0, .inl (K 0, 558, .inl fu)), (s0, .inl (K 0, 16, .inl fs))]) [0, 1, 2, 3] rfl
      have hD9 := hD.sub (ws' := [(m0, .inr (12, [m_0, m_1, m_2, .ref w0, m_4, m_5, .ref u0, .ref s0, .int nu, m_9, m_10, m_11, m_12, m_13, m_14, m_15, m_16, m_17, m_18, m_19, m_20, m_21, m_22, m_23, m_24, m_25, m_26, m_27, m_28, m_29, m_30, m_31, m_32, m_33, m_34, m_35, m_36, m_37, m_38, m_39, m_40, m_41, m_42, m_43, m_44, m_45, m_46, m_47, m_48, m_49, m_50, m_51, m_52, m_53, m_54, m_55, m_56, m_57, m_58, m_59])), (w0, .inl (K 0, 5500, .inl fw)), (u0, .inl (K 0, 558, .inl fu)), (s0, .inl (K 0, 16, .inl fs))]) [0, 1, 2, 3] (by decide) rfl
      exact W.iret (v := (-2)) hx hb hr (fun t ht hW => ⟨⟨(-2), ((fun _ => 0, fun i => match i with | 0 => fw | 1 => fu | _ => fs, fun _ => fun _ => 0, fun i => match i with | _ => nu, fun _ => 0, fun _ => fun _ => none) : Su), rfl, ⟨(show (-2) ≤ ((-2) : Int32).toInt ∧ ((-2) : Int32).toInt ≤ 999 by decide), (show 0 ≤ (nu : Int32).toInt ∧ (nu : Int32).toInt ≤ 16 by omega), zfw, zfu, zfs, trivial⟩, (⟨by rw [ht]; exact hP9, hD9⟩ : Wd D A _ t)⟩, hS.F ht⟩) hS.2.2 dX12_buyNow_24
  · refine lv_if_ne (tgt := 14) hx hb dX12_buyNow_9 (by decide) (fun c_141 => absurd (by decide) c_141) (fun c_141 => ?_)
    refine lv_iconst (v := (-1)) hx hb dX12_buyNow_12 (by decide) ?_
    rw [← hQ]
    have hP9 := hP.sub (ws' := [(m0, .inr (12, [m_0, m_1, m_2, .ref w0, m_4, m_5, .ref u0, .ref s0, .int nu, m_9, m_10, m_11, m_12, m_13, m_14, m_15, m_16, m_17, m_18, m_19, m_20, m_21, m_22, m_23, m_24, m_25, m_26, m_27, m_28, m_29, m_30, m_31, m_32, m_33, m_34, m_35, m_36, m_37, m_38, m_39, m_40, m_41, m_42, m_43, m_44, m_45, m_46, m_47, m_48, m_49, m_50, m_51, m_52, m_53, m_54, m_55, m_56, m_57, m_58, m_59])), (w0, .inl (K 0, 5500, .inl fw)), (u0, .inl (K 0, 558, .inl fu)), (s0, .inl (K 0, 16, .inl fs))]) [0, 1, 2, 3] rfl
    have hD9 := hD.sub (ws' := [(m0, .inr (12, [m_0, m_1, m_2, .ref w0, m_4, m_5, .ref u0, .ref s0, .int nu, m_9, m_10, m_11, m_12, m_13, m_14, m_15, m_16, m_17, m_18, m_19, m_20, m_21, m_22, m_23, m_24, m_25, m_26, m_27, m_28, m_29, m_30, m_31, m_32, m_33, m_34, m_35, m_36, m_37, m_38, m_39, m_40, m_41, m_42, m_43, m_44, m_45, m_46, m_47, m_48, m_49, m_50, m_51, m_52, m_53, m_54, m_55, m_56, m_57, m_58, m_59])), (w0, .inl (K 0, 5500, .inl fw)), (u0, .inl (K 0, 558, .inl fu)), (s0, .inl (K 0, 16, .inl fs))]) [0, 1, 2, 3] (by decide) rfl
    exact W.iret (v := (-1)) hx hb hr (fun t ht hW => ⟨⟨(-1), ((fun _ => 0, fun i => match i with | 0 => fw | 1 => fu | _ => fs, fun _ => fun _ => 0, fun i => match i with | _ => nu, fun _ => 0, fun _ => fun _ => none) : Su), rfl, ⟨(show (-2) ≤ ((-1) : Int32).toInt ∧ ((-1) : Int32).toInt ≤ 999 by decide), (show 0 ≤ (nu : Int32).toInt ∧ (nu : Int32).toInt ≤ 16 by omega), zfw, zfu, zfs, trivial⟩, (⟨by rw [ht]; exact hP9, hD9⟩ : Wd D A _ t)⟩, hS.F ht⟩) hS.2.2 dX12_buyNow_13
set_option maxHeartbeats 4000000 in
set_option maxRecDepth 100000 in
theorem v_stoke (l : Launch) (D : va_G) (K : Nat → ClassId) (m0 : Nat) (x : Int32) (thr : Int32) (sta : Int32) (r0 : Nat) (w0 : Nat) (m_4 : Value) (m_5 : Value) (u0 : Nat) (s0 : Nat) (nu : Int32) (m_9 : Value) (m_10 : Value) (m_11 : Value) (m_12 : Value) (m_13 : Value) (m_14 : Value) (m_15 : Value) (m_16 : Value) (m_17 : Value) (m_18 : Value) (m_19 : Value) (m_21 : Value) (m_22 : Value) (m_23 : Value) (m_24 : Value) (m_25 : Value) (m_26 : Value) (m_27 : Value) (m_28 : Value) (m_29 : Value) (m_30 : Value) (m_31 : Value) (m_32 : Value) (m_33 : Value) (lw : Int32) (e0 : Nat) (m_36 : Value) (q0 : Nat) (bro : Int32) (val : Int64) (sm : Int64) (m_41 : Value) (m_42 : Value) (m_43 : Value) (m_44 : Value) (m_45 : Value) (m_46 : Value) (m_47 : Value) (m_48 : Value) (m_49 : Value) (m_50 : Value) (m_51 : Value) (m_52 : Value) (m_53 : Value) (m_54 : Value) (m_55 : Value) (m_56 : Value) (m_57 : Value) (m_58 : Value) (m_59 : Value) (fw : Nat → Int32) (fe : Nat → Int64) (frs : Nat → Int64) (fu : Nat → Int32) (fs : Nat → Int32) (frf : Nat → Int32) (sz : Nat) (zbro : 0 ≤ bro.toInt ∧ bro.toInt ≤ 1) (znu : 0 ≤ nu.toInt ∧ nu.toInt ≤ 16) (zfw : RwOK fw) (zfu : Pu 558 fu) (zfs : Rg 16 0 3 fs) : Met l yX12_stoke wsX12_stoke ({ frames := 8, cells := 0, slots := 0, locals := 188 }) (va_Pc [.ref m0, .int x] (Pre D K [(m0, .inr (12, [.int thr, .int sta, .ref r0, .ref w0, m_4, m_5, .ref u0, .ref s0, .int nu, m_9, m_10, m_11, m_12, m_13, m_14, m_15, m_16, m_17, m_18, m_19, .int 0, m_21, m_22, m_23, m_24, m_25, m_26, m_27, m_28, m_29, m_30, m_31, m_32, m_33, .int lw, .ref e0, m_36, .ref q0, .int bro, .long val, .long sm, m_41, m_42, m_43, m_44, m_45, m_46, m_47, m_48, m_49, m_50, m_51, m_52, m_53, m_54, m_55, m_56, m_57, m_58, m_59])), (w0, .inl (K 0, 5500, .inl fw)), (e0, .inl (K 2, 13, .inr (.inl fe))), (q0, .inl (K 2, 400, .inr (.inl frs))), (u0, .inl (K 0, 558, .inl fu)), (s0, .inl (K 0, 16, .inl fs)), (r0, .inl (K 0, 7, .inl frf))] sz)) (va_Qi (S := Su) (fun (r : Int32) (u : Su) => ((-6) ≤ r.toInt) ∧ ((-6) ≤ (u.2.2.2.1 0).toInt ∧ (u.2.2.2.1 0).toInt ≤ 0) ∧ (0 ≤ (u.2.2.2.1 1).toInt ∧ (u.2.2.2.1 1).toInt ≤ 16) ∧ (0 ≤ (u.2.2.2.1 3).toInt ∧ (u.2.2.2.1 3).toInt ≤ 1) ∧ (RwOK (u.2.1 0)) ∧ (Pu 558 (u.2.1 1)) ∧ (Rg 16 0 3 (u.2.1 2)) ∧ True) (fun u t => Wd D (va_A [(m0, .inr (12, [.int thr, .int sta, .ref r0, .ref w0, m_4, m_5, .ref u0, .ref s0, .int nu, m_9, m_10, m_11, m_12, m_13, m_14, m_15, m_16, m_17, m_18, m_19, .int 0, m_21, m_22, m_23, m_24, m_25, m_26, m_27, m_28, m_29, m_30, m_31, m_32, m_33, .int lw, .ref e0, m_36, .ref q0, .int bro, .long val, .long sm, m_41, m_42, m_43, m_44, m_45, m_46, m_47, m_48, m_49, m_50, m_51, m_52, m_53, m_54, m_55, m_56, m_57, m_58, m_59])), (w0, .inl (K 0, 5500, .inl fw)), (e0, .inl (K 2, 13, .inr (.inl fe))), (q0, .inl (K 2, 400, .inr (.inl frs))), (u0, .inl (K 0, 558, .inl fu)), (s0, .inl (K 0, 16, .inl fs)), (r0, .inl (K 0, 7, .inl frf))] sz) ((fun u => [(m0, .inr (12, [.int 0, .int (u.2.2.2.1 0), .ref r0, .ref w0, m_4, m_5, .ref u0, .ref s0, .int (u.2.2.2.1 1), m_9, m_10, m_11, m_12, m_13, m_14, m_15, m_16, m_17, m_18, m_19, .int 0, m_21, m_22, m_23, m_24, m_25, m_26, m_27, m_28, m_29, m_30, m_31, m_32, m_33, .int (u.2.2.2.1 2), .ref e0, m_36, .ref q0, .int (u.2.2.2.1 3), .long (u.2.2.2.2.1 0), .long (u.2.2.2.2.1 1), m_41, m_42, m_43, m_44, m_45, m_46, m_47, m_48, m_49, m_50, m_51, m_52, m_53, m_54, m_55, m_56, m_57, m_58, m_59])), (w0, .inl (K 0, 5500, .inl (u.2.1 0))), (e0, .inl (K 2, 13, .inr (.inl (u.2.2.1 0)))), (q0, .inl (K 2, 400, .inr (.inl (u.2.2.1 1)))), (u0, .inl (K 0, 558, .inl (u.2.1 1))), (s0, .inl (K 0, 16, .inl (u.2.1 2))), (r0, .inl (K 0, 7, .inl (u.2.1 3)))]) u) t) (va_A [(m0, .inr (12, [.int thr, .int sta, .ref r0, .ref w0, m_4, m_5, .ref u0, .ref s0, .int nu, m_9, m_10, m_11, m_12, m_13, m_14, m_15, m_16, m_17, m_18, m_19, .int 0, m_21, m_22, m_23, m_24, m_25, m_26, m_27, m_28, m_29, m_30, m_31, m_32, m_33, .int lw, .ref e0, m_36, .ref q0, .int bro, .long val, .long sm, m_41, m_42, m_43, m_44, m_45, m_46, m_47, m_48, m_49, m_50, m_51, m_52, m_53, m_54, m_55, m_56, m_57, m_58, m_59])), (w0, .inl (K 0, 5500, .inl fw)), (e0, .inl (K 2, 13, .inr (.inl fe))), (q0, .inl (K 2, 400, .inr (.inl frs))), (u0, .inl (K 0, 558, .inl fu)), (s0, .inl (K 0, 16, .inl fs)), (r0, .inl (K 0, 7, .inl frf))] sz)) 0 0 (va_A [(m0, .inr (12, [.int thr, .int sta, .ref r0, .ref w0, m_4, m_5, .ref u0, .ref s0, .int nu, m_9, m_10, m_11, m_12, m_13, m_14, m_15, m_16, m_17, m_18, m_19, .int 0, m_21, m_22, m_23, m_24, m_25, m_26, m_27, m_28, m_29, m_30, m_31, m_32, m_33, .int lw, .ref e0, m_36, .ref q0, .int bro, .long val, .long sm, m_41, m_42, m_43, m_44, m_45, m_46, m_47, m_48, m_49, m_50, m_51, m_52, m_53, m_54, m_55, m_56, m_57, m_58, m_59])), (w0, .inl (K 0, 5500, .inl fw)), (e0, .inl (K 2, 13, .inr (.inl fe))), (q0, .inl (K 2, 400, .inr (.inl frs))), (u0, .inl (K 0, 558, .inl fu)), (s0, .inl (K 0, 16, .inl fs)), (r0, .inl (K 0, 7, .inl frf))] sz) := by
  refine Met.ofW (cc := cX12_stoke) (maxL := 2) (ret := (some .int)) (by decide) rfl ?_
  intro p e s m args below meth c s₁ B hml hv
  obtain ⟨rfl, hsz, hP, hK, hD0, hN⟩ := hv
  have hx := B.exec
  have hb := B.bytes
  have hr := B.returns
  have hts := atoms_spec (ws := wsX12_stoke) B.pre
  have hown : s.vm.findClass RX12 = some m.cls := findClass_of_methodNamed B.named
  have hlocks := B.notSynchronized
  subst hsz
  have hD := hD0.self (sz := s.heap.size)
  generalize hAe : va_A [(m0, .inr (12, [.int thr, .int sta, .ref r0, .ref w0, m_4, m_5, .ref u0, .ref s0, .int nu, m_9, m_10, m_11, m_12, m_13, m_14, m_15, m_16, m_17, m_18, m_19, .int 0, m_21, m_22, m_23, m_24, m_25, m_26, m_27, m_28, m_29, m_30, m_31, m_32, m_33, .int lw, .ref e0, m_36, .ref q0, .int bro, .long val, .long sm, m_41, m_42, m_43, m_44, m_45, m_46, m_47, m_48, m_49, m_50, m_51, m_52, m_53, m_54, m_55, m_56, m_57, m_58, m_59])), (w0, .inl (K 0, 5500, .inl fw)), (e0, .inl (K 2, 13, .inr (.inl fe))), (q0, .inl (K 2, 400, .inr (.inl frs))), (u0, .inl (K 0, 558, .inl fu)), (s0, .inl (K 0, 16, .inl fs)), (r0, .inl (K 0, 7, .inl frf))] s.heap.size = A at hD ⊢
  have hA : ∀ q : Nat, s.heap.size ≤ q → A q := fun q h => by rw [← hAe]; exact Or.inr h
  have hS : va_S A s.heap s.heap [] := va_S.rf
  have hP : va_P D vwCl [(m0, .inr (12, [.int thr, .int sta, .ref r0, .ref w0, m_4, m_5, .ref u0, .ref s0, .int nu, m_9, m_10, m_11, m_12, m_13, m_14, m_15, m_16, m_17, m_18, m_19, .int 0, m_21, m_22, m_23, m_24, m_25, m_26, m_27, m_28, m_29, m_30, m_31, m_32, m_33, .int lw, .ref e0, m_36, .ref q0, .int bro, .long val, .long sm, m_41, m_42, m_43, m_44, m_45, m_46, m_47, m_48, m_49, m_50, m_51, m_52, m_53, m_54, m_55, m_56, m_57, m_58, m_59])), (w0, .inl (K 0, 5500, .inl fw)), (e0, .inl (K 2, 13, .inr (.inl fe))), (q0, .inl (K 2, 400, .inr (.inl frs))), (u0, .inl (K 0, 558, .inl fu)), (s0, .inl (K 0, 16, .inl fs)), (r0, .inl (K 0, 7, .inl frf))] s.heap := hP
  have hl := lv_entry [.ref m0, .int x] (n := 2) (Nat.le_of_ble_eq_true rfl)
  rw [lg_entry_eq]
  generalize (lg_sl [.ref m0, .int x] ++ List.replicate (2 - (lg_sl [.ref m0, .int x]).length) Slot.unset).toArray = ls at hl ⊢
  have hl : lv_has ls 2 [(0, .ref m0), (1, .int x)] := hl
  have hw12 : ∀ w ∈ wsX120, w ∈ wsX12_stoke := fun w h => (List.mem_cons_of_mem _ (List.mem_append_right _ h))
  generalize hQ : MQ below _ _ s _ _ _ = Q
  refine lv_aload_n hx hb dX12_stoke_0 rfl (lv_at hl 0 rfl) ?_
  refine lv_iconst (v := 0) hx hb dX12_stoke_1 (by decide) ?_
  refine va_put (ci := 12) (v := .int 0) (ty := .int) (C := RX12) (T := TX12) (N := 60) hx hb hts hw12 tyX12 tyX12_ok nmX12 hown hK hP hD hS 0 rfl rfl 0 (by decide) (hts (.fieldLink RX12 158 "SmokeTuneModel" "thrown" "I") (List.mem_cons_of_mem _ (List.mem_append_left _ (List.mem_append_left _ (List.mem_of_getElem? (i := 0) rfl))))) (fun _ h9 => h9) rfl (by decide +kernel) (by first | rfl | decide) (by first | rfl | decide) (Nat.le_of_ble_eq_true rfl) dX12_stoke_2 (fun H locs hP hD hS => ?_)
  have hP : va_P D vwCl [(m0, .inr (12, [.int 0, .int sta, .ref r0, .ref w0, m_4, m_5, .ref u0, .ref s0, .int nu, m_9, m_10, m_11, m_12, m_13, m_14, m_15, m_16, m_17, m_18, m_19, .int 0, m_21, m_22, m_23, m_24, m_25, m_26, m_27, m_28, m_29, m_30, m_31, m_32, m_33, .int lw, .ref e0, m_36, .ref q0, .int bro, .long val, .long sm, m_41, m_42, m_43, m_44, m_45, m_46, m_47, m_48, m_49, m_50, m_51, m_52, m_53, m_54, m_55, m_56, m_57, m_58, m_59])), (w0, .inl (K 0, 5500, .inl fw)), (e0, .inl (K 2, 13, .inr (.inl fe))), (q0, .inl (K 2, 400, .inr (.inl frs))), (u0, .inl (K 0, 558, .inl fu)), (s0, .inl (K 0, 16, .inl fs)), (r0, .inl (K 0, 7, .inl frf))] H := hP
  have hD : va_D A [(m0, .inr (12, [.int 0, .int sta, .ref r0, .ref w0, m_4, m_5, .ref u0, .ref s0, .int nu, m_9, m_10, m_11, m_12, m_13, m_14, m_15, m_16, m_17, m_18, m_19, .int 0, m_21, m_22, m_23, m_24, m_25, m_26, m_27, m_28, m_29, m_30, m_31, m_32, m_33, .int lw, .ref e0, m_36, .ref q0, .int bro, .long val, .long sm, m_41, m_42, m_43, m_44, m_45, m_46, m_47, m_48, m_49, m_50, m_51, m_52, m_53, m_54, m_55, m_56, m_57, m_58, m_59])), (w0, .inl (K 0, 5500, .inl fw)), (e0, .inl (K 2, 13, .inr (.inl fe))), (q0, .inl (K 2, 400, .inr (.inl frs))), (u0, .inl (K 0, 558, .inl fu)), (s0, .inl (K 0, 16, .inl fs)), (r0, .inl (K 0, 7, .inl frf))] := hD
  refine lv_aload_n hx hb dX12_stoke_5 rfl (lv_at hl 0 rfl) ?_
  refine lv_aload_n hx hb dX12_stoke_6 rfl (lv_at hl 0 rfl) ?_
  refine lv_iload_n hx hb dX12_stoke_7 rfl (lv_at hl 1 rfl) ?_
  refine kci (S := Su) (wr := [(r0, .inl (K 0, 7, .inl frf))]) (va_runV (As := [.int x]) (rest := [.ref m0]) ⟨hx, hb, hml, hown, hts⟩ (v_stokeNow l D K m0 x (.int 0) (.int sta) (.ref r0) w0 m_4 m_5 u0 s0 nu m_9 m_10 m_11 m_12 m_13 m_14 m_15 m_16 m_17 m_18 m_19 m_21 m_22 m_23 m_24 m_25 m_26 m_27 m_28 m_29 m_30 m_31 m_32 m_33 lw e0 m_36 q0 bro val sm m_41 m_42 m_43 m_44 m_45 m_46 m_47 m_48 m_49 m_50 m_51 m_52 m_53 m_54 m_55 m_56 m_57 m_58 m_59 fw fe frs fu fs H.size (by first | omega | decide) (by first | omega | decide) zfw zfu zfs) (cwV 1 hts gX12_stoke_X12_stokeNow rfl rfl rfl (by decide +kernel) ⟨Nat.le_of_ble_eq_true rfl, Nat.le_of_ble_eq_true rfl⟩) (mkV hK hN (hP.sub [0, 1, 2, 3, 4, 5] rfl) (hD.sub [0, 1, 2, 3, 4, 5] (by decide) rfl) (ci := 12) (q0 := 0) rfl rfl) rfl rfl hl.1 rfl (lv_room (Nat.le_of_ble_eq_true rfl)) dX12_stoke_8 ⟨Nat.le_of_ble_eq_true rfl, Nat.le_of_ble_eq_true rfl⟩) hP hD hS hA [0, 1, 2, 3, 4, 5] [6] rfl rfl (by decide) (by decide) (fun r_85 u_86 H locs hw hP hD hS => ?_)
  have hP : va_P D vwCl [(r0, .inl (K 0, 7, .inl frf)), (m0, .inr (12, [.int 0, .int sta, .ref r0, .ref w0, m_4, m_5, .ref u0, .ref s0, .int (u_86.2.2.2.1 0), m_9, m_10, m_11, m_12, m_13, m_14, m_15, m_16, m_17, m_18, m_19, .int 0, m_21, m_22, m_23, m_24, m_25, m_26, m_27, m_28, m_29, m_30, m_31, m_32, m_33, .int (u_86.2.2.2.1 1), .ref e0, m_36, .ref q0, .int (u_86.2.2.2.1 2), .long (u_86.2.2.2.2.1 0), .long (u_86.2.2.2.2.1 1), m_41, m_42, m_43, m_44, m_45, m_46, m_47, m_48, m_49, m_50, m_51, m_52, m_53, m_54, m_55, m_56, m_57, m_58, m_59])), (w0, .inl (K 0, 5500, .inl (u_86.2.1 0))), (e0, .inl (K 2, 13, .inr (.inl (u_86.2.2.1 0)))), (q0, .inl (K 2, 400, .inr (.inl (u_86.2.2.1 1)))), (u0, .inl (K 0, 558, .inl (u_86.2.1 1))), (s0, .inl (K 0, 16, .inl (u_86.2.1 2)))] H := hP
  have hD : va_D A [(r0, .inl (K 0, 7, .inl frf)), (m0, .inr (12, [.int 0, .int sta, .ref r0, .ref w0, m_4, m_5, .ref u0, .ref s0, .int (u_86.2.2.2.1 0), m_9, m_10, m_11, m_12, m_13, m_14, m_15, m_16, m_17, m_18, m_19, .int 0, m_21, m_22, m_23, m_24, m_25, m_26, m_27, m_28, m_29, m_30, m_31, m_32, m_33, .int (u_86.2.2.2.1 1), .ref e0, m_36, .ref q0, .int (u_86.2.2.2.1 2), .long (u_86.2.2.2.2.1 0), .long (u_86.2.2.2.2.1 1), m_41, m_42, m_43, m_44, m_45, m_46, m_47, m_48, m_49, m_50, m_51, m_52, m_53, m_54, m_55, m_56, m_57, m_58, m_59])), (w0, .inl (K 0, 5500, .inl (u_86.2.1 0))), (e0, .inl (K 2, 13, .inr (.inl (u_86.2.2.1 0)))), (q0, .inl (K 2, 400, .inr (.inl (u_86.2.2.1 1)))), (u0, .inl (K 0, 558, .inl (u_86.2.1 1))), (s0, .inl (K 0, 16, .inl (u_86.2.1 2)))] := hD
  obtain ⟨h_92, k_87, k_88, k_89, k_90, k_91, -⟩ := hw
  refine kci (S := Su) (wr := [(w0, .inl (K 0, 5500, .inl (u_86.2.1 0))), (e0, .inl (K 2, 13, .inr (.inl (u_86.2.2.1 0)))), (q0, .inl (K 2, 400, .inr (.inl (u_86.2.2.1 1)))), (u0, .inl (K 0, 558, .inl (u_86.2.1 1))), (s0, .inl (K 0, 16, .inl (u_86.2.1 2)))]) (va_runV (As := [.int r_85]) (rest := []) ⟨hx, hb, hml, hown, hts⟩ (v_tell l D K m0 r_85 (.int 0) sta r0 (.ref w0) m_4 m_5 (.ref u0) (.ref s0) (.int (u_86.2.2.2.1 0)) m_9 m_10 m_11 m_12 m_13 m_14 m_15 m_16 m_17 m_18 m_19 (.int 0) m_21 m_22 m_23 m_24 m_25 m_26 m_27 m_28 m_29 m_30 m_31 m_32 m_33 (.int (u_86.2.2.2.1 1)) (.ref e0) m_36 (.ref q0) (.int (u_86.2.2.2.1 2)) (.long (u_86.2.2.2.2.1 0)) (.long (u_86.2.2.2.2.1 1)) m_41 m_42 m_43 m_44 m_45 m_46 m_47 m_48 m_49 m_50 m_51 m_52 m_53 m_54 m_55 m_56 m_57 m_58 m_59 frf H.size (by first | omega | decide)) (cwV 1 hts gX12_stoke_X12_tell rfl rfl rfl (by decide +kernel) ⟨Nat.le_of_ble_eq_true rfl, Nat.le_of_ble_eq_true rfl⟩) (mkV hK hN (hP.sub [1, 0] rfl) (hD.sub [1, 0] (by decide) rfl) (ci := 12) (q0 := 0) rfl rfl) rfl rfl hl.1 rfl (lv_room (Nat.le_of_ble_eq_true rfl)) dX12_stoke_11 ⟨Nat.le_of_ble_eq_true rfl, Nat.le_of_ble_eq_true rfl⟩) hP hD hS hA [1, 0] [2, 3, 4, 5, 6] rfl rfl (by decide) (by decide) (fun r_93 u_94 H locs hw hP hD hS => ?_)
  have hP : va_P D vwCl [(w0, .inl (K 0, 5500, .inl (u_86.2.1 0))), (e0, .inl (K 2, 13, .inr (.inl (u_86.2.2.1 0)))), (q0, .inl (K 2, 400, .inr (.inl (u_86.2.2.1 1)))), (u0, .inl (K 0, 558, .inl (u_86.2.1 1))), (s0, .inl (K 0, 16, .inl (u_86.2.1 2))), (m0, .inr (12, [.int 0, .int (u_94.2.2.2.1 0), .ref r0, .ref w0, m_4, m_5, .ref u0, .ref s0, .int (u_86.2.2.2.1 0), m_9, m_10, m_11, m_12, m_13, m_14, m_15, m_16, m_17, m_18, m_19, .int 0, m_21, m_22, m_23, m_24, m_25, m_26, m_27, m_28, m_29, m_30, m_31, m_32, m_33, .int (u_86.2.2.2.1 1), .ref e0, m_36, .ref q0, .int (u_86.2.2.2.1 2), .long (u_86.2.2.2.2.1 0), .long (u_86.2.2.2.2.1 1), m_41, m_42, m_43, m_44, m_45, m_46, m_47, m_48, m_49, m_50, m_51, m_52, m_53, m_54, m_55, m_56, m_57, m_58, m_59])), (r0, .inl (K 0, 7, .inl (u_94.2.1 0)))] H := hP
  have hD : va_D A [(w0, .inl (K 0, 5500, .inl (u_86.2.1 0))), (e0, .inl (K 2, 13, .inr (.inl (u_86.2.2.1 0)))), (q0, .inl (K 2, 400, .inr (.inl (u_86.2.2.1 1)))), (u0, .inl (K 0, 558, .inl (u_86.2.1 1))), (s0, .inl (K 0, 16, .inl (u_86.2.1 2))), (m0, .inr (12, [.int 0, .int (u_94.2.2.2.1 0), .ref r0, .ref w0, m_4, m_5, .ref u0, .ref s0, .int (u_86.2.2.2.1 0), m_9, m_10, m_11, m_12, m_13, m_14, m_15, m_16, m_17, m_18, m_19, .int 0, m_21, m_22, m_23, m_24, m_25, m_26, m_27, m_28, m_29, m_30, m_31, m_32, m_33, .int (u_86.2.2.2.1 1), .ref e0, m_36, .ref q0, .int (u_86.2.2.2.1 2), .long (u_86.2.2.2.2.1 0), .long (u_86.2.2.2.2.1 1), m_41, m_42, m_43, m_44, m_45, m_46, m_47, m_48, m_49, m_50, m_51, m_52, m_53, m_54, m_55, m_56, m_57, m_58, m_59])), (r0, .inl (K 0, 7, .inl (u_94.2.1 0)))] := hD
  obtain ⟨h_96, k_95, -⟩ := hw
  rw [← hQ]
  have hP9 := hP.sub (ws' := [(m0, .inr (12, [.int 0, .int (u_94.2.2.2.1 0), .ref r0, .ref w0, m_4, m_5, .ref u0, .ref s0, .int (u_86.2.2.2.1 0), m_9, m_10, m_11, m_12, m_13, m_14, m_15, m_16, m_17, m_18, m_19, .int 0, m_21, m_22, m_23, m_24, m_25, m_26, m_27, m_28, m_29, m_30, m_31, m_32, m_33, .int (u_86.2.2.2.1 1), .ref e0, m_36, .ref q0, .int (u_86.2.2.2.1 2), .long (u_86.2.2.2.2.1 0), .long (u_86.2.2.2.2.1 1), m_41, m_42, m_43, m_44, m_45, m_46, m_47, m_48, m_49, m_50, m_51, m_52, m_53, m_54, m_55, m_56, m_57, m_58, m_59])), (w0, .inl (K 0, 5500, .inl (u_86.2.1 0))), (e0, .inl (K 2, 13, .inr (.inl (u_86.2.2.1 0)))), (q0, .inl (K 2, 400, .inr (.inl (u_86.2.2.1 1)))), (u0, .inl (K 0, 558, .inl (u_86.2.1 1))), (s0, .inl (K 0, 16, .inl (u_86.2.1 2))), (r0, .inl (K 0, 7, .inl (u_94.2.1 0)))]) [5, 0, 1, 2, 3, 4, 6] rfl
  have hD9 := hD.sub (ws' := [(m0, .inr (12, [.int 0, .int (u_94.2.2.2.1 0), .ref r0, .ref w0, m_4, m_5, .ref u0, .ref s0, .int (u_86.2.2.2.1 0), m_9, m_10, m_11, m_12, m_13, m_14, m_15, m_16, m_17, m_18, m_19, .int 0, m_21, m_22, m_23, m_24, m_25, m_26, m_27, m_28, m_29, m_30, m_31, m_32, m_33, .int (u_86.2.2.2.1 1), .ref e0, m_36, .ref q0, .int (u_86.2.2.2.1 2), .long (u_86.2.2.2.2.1 0), .long (u_86.2.2.2.2.1 1), m_41, m_42, m_43, m_44, m_45, m_46, m_47, m_48, m_49, m_50, m_51, m_52, m_53, m_54, m_55, m_56, m_57, m_58, m_59])), (w0, .inl (K 0, 5500, .inl (u_86.2.1 0))), (e0, .inl (K 2, 13, .inr (.inl (u_86.2.2.1 0)))), (q0, .inl (K 2, 400, .inr (.inl (u_86.2.2.1 1)))), (u0, .inl (K 0, 558, .inl (u_86.2.1 1))), (s0, .inl (K 0, 16, .inl (u_86.2.1 2))), (r0, .inl (K 0, 7, .inl (u_94.2.1 0)))]) [5, 0, 1, 2, 3, 4, 6] (by decide) rfl
  exact W.iret (v := r_93) hx hb hr (fun t ht hW => ⟨⟨r_93, ((fun _ => 0, fun i => match i with | 0 => (u_86.2.1 0) | 1 => (u_86.2.1 1) | 2 => (u_86.2.1 2) | _ => (u_94.2.1 0), fun i => match i with | 0 => (u_86.2.2.1 0) | _ => (u_86.2.2.1 1), fun i => match i with | 0 => (u_94.2.2.2.1 0) | 1 => (u_86.2.2.2.1 0) | 2 => (u_86.2.2.2.1 1) | _ => (u_86.2.2.2.1 2), fun i => match i with | 0 => (u_86.2.2.2.2.1 0) | _ => (u_86.2.2.2.2.1 1), fun _ => fun _ => none) : Su), rfl, ⟨(show (-6) ≤ r_93.toInt by omega), (show (-6) ≤ ((u_94.2.2.2.1 0) : Int32).toInt ∧ ((u_94.2.2.2.1 0) : Int32).toInt ≤ 0 by omega), (show 0 ≤ ((u_86.2.2.2.1 0) : Int32).toInt ∧ ((u_86.2.2.2.1 0) : Int32).toInt ≤ 16 by omega), (show 0 ≤ ((u_86.2.2.2.1 2) : Int32).toInt ∧ ((u_86.2.2.2.1 2) : Int32).toInt ≤ 1 by omega), k_89, k_90, k_91, trivial⟩, (⟨by rw [ht]; exact hP9, hD9⟩ : Wd D A _ t)⟩, hS.F ht⟩) hS.2.2 dX12_stoke_14
set_option maxHeartbeats 4000000 in
set_option maxRecDepth 100000 in
theorem v_damp (l : Launch) (D : va_G) (K : Nat → ClassId) (m0 : Nat) (x : Int32) (y : Int32) (thr : Int32) (sta : Int32) (r0 : Nat) (w0 : Nat) (m_4 : Value) (m_5 : Value) (u0 : Nat) (s0 : Nat) (nu : Int32) (m_9 : Value) (m_10 : Value) (m_11 : Value) (m_12 : Value) (m_13 : Value) (m_14 : Value) (m_15 : Value) (m_16 : Value) (m_17 : Value) (m_18 : Value) (m_19 : Value) (m_21 : Value) (m_22 : Value) (m_23 : Value) (m_24 : Value) (m_25 : Value) (m_26 : Value) (m_27 : Value) (m_28 : Value) (m_29 : Value) (m_30 : Value) (m_31 : Value) (m_32 : Value) (m_33 : Value) (lw : Int32) (e0 : Nat) (m_36 : Value) (q0 : Nat) (bro : Int32) (val : Int64) (sm : Int64) (m_41 : Value) (m_42 : Value) (m_43 : Value) (m_44 : Value) (m_45 : Value) (m_46 : Value) (m_47 : Value) (m_48 : Value) (m_49 : Value) (m_50 : Value) (m_51 : Value) (m_52 : Value) (m_53 : Value) (m_54 : Value) (m_55 : Value) (m_56 : Value) (m_57 : Value) (m_58 : Value) (m_59 : Value) (fw : Nat → Int32) (fe : Nat → Int64) (frs : Nat → Int64) (fu : Nat → Int32) (fs : Nat → Int32) (frf : Nat → Int32) (sz : Nat) (zbro : 0 ≤ bro.toInt ∧ bro.toInt ≤ 1) (znu : 0 ≤ nu.toInt ∧ nu.toInt ≤ 16) (zfw : RwOK fw) (zfu : Pu 558 fu) (zfs : Rg 16 0 3 fs) : Met l yX12_damp wsX12_damp ({ frames := 3, cells := 0, slots := 0, locals := 68 }) (va_Pc [.ref m0, .int x, .int y] (Pre D K [(m0, .inr (12, [.int thr, .int sta, .ref r0, .ref w0, m_4, m_5, .ref u0, .ref s0, .int nu, m_9, m_10, m_11, m_12, m_13, m_14, m_15, m_16, m_17, m_18, m_19, .int 0, m_21, m_22, m_23, m_24, m_25, m_26, m_27, m_28, m_29, m_30, m_31, m_32, m_33, .int lw, .ref e0, m_36, .ref q0, .int bro, .long val, .long sm, m_41, m_42, m_43, m_44, m_45, m_46, m_47, m_48, m_49, m_50, m_51, m_52, m_53, m_54, m_55, m_56, m_57, m_58, m_59])), (w0, .inl (K 0, 5500, .inl fw)), (e0, .inl (K 2, 13, .inr (.inl fe))), (q0, .inl (K 2, 400, .inr (.inl frs))), (u0, .inl (K 0, 558, .inl fu)), (s0, .inl (K 0, 16, .inl fs)), (r0, .inl (K 0, 7, .inl frf))] sz)) (va_Qi (S := Su) (fun (r : Int32) (u : Su) => ((-6) ≤ r.toInt) ∧ ((-6) ≤ (u.2.2.2.1 0).toInt ∧ (u.2.2.2.1 0).toInt ≤ 0) ∧ (0 ≤ (u.2.2.2.1 1).toInt ∧ (u.2.2.2.1 1).toInt ≤ 16) ∧ (RwOK (u.2.1 0)) ∧ (Pu 558 (u.2.1 1)) ∧ (Rg 16 0 3 (u.2.1 2)) ∧ True) (fun u t => Wd D (va_A [(m0, .inr (12, [.int thr, .int sta, .ref r0, .ref w0, m_4, m_5, .ref u0, .ref s0, .int nu, m_9, m_10, m_11, m_12, m_13, m_14, m_15, m_16, m_17, m_18, m_19, .int 0, m_21, m_22, m_23, m_24, m_25, m_26, m_27, m_28, m_29, m_30, m_31, m_32, m_33, .int lw, .ref e0, m_36, .ref q0, .int bro, .long val, .long sm, m_41, m_42, m_43, m_44, m_45, m_46, m_47, m_48, m_49, m_50, m_51, m_52, m_53, m_54, m_55, m_56, m_57, m_58, m_59])), (w0, .inl (K 0, 5500, .inl fw)), (e0, .inl (K 2, 13, .inr (.inl fe))), (q0, .inl (K 2, 400, .inr (.inl frs))), (u0, .inl (K 0, 558, .inl fu)), (s0, .inl (K 0, 16, .inl fs)), (r0, .inl (K 0, 7, .inl frf))] sz) ((fun u => [(m0, .inr (12, [.int 0, .int (u.2.2.2.1 0), .ref r0, .ref w0, m_4, m_5, .ref u0, .ref s0, .int (u.2.2.2.1 1), m_9, m_10, m_11, m_12, m_13, m_14, m_15, m_16, m_17, m_18, m_19, .int 0, m_21, m_22, m_23, m_24, m_25, m_26, m_27, m_28, m_29, m_30, m_31, m_32, m_33, .int lw, .ref e0, m_36, .ref q0, .int bro, .long val, .long sm, m_41, m_42, m_43, m_44, m_45, m_46, m_47, m_48, m_49, m_50, m_51, m_52, m_53, m_54, m_55, m_56, m_57, m_58, m_59])), (w0, .inl (K 0, 5500, .inl (u.2.1 0))), (e0, .inl (K 2, 13, .inr (.inl fe))), (q0, .inl (K 2, 400, .inr (.inl frs))), (u0, .inl (K 0, 558, .inl (u.2.1 1))), (s0, .inl (K 0, 16, .inl (u.2.1 2))), (r0, .inl (K 0, 7, .inl (u.2.1 3)))]) u) t) (va_A [(m0, .inr (12, [.int thr, .int sta, .ref r0, .ref w0, m_4, m_5, .ref u0, .ref s0, .int nu, m_9, m_10, m_11, m_12, m_13, m_14, m_15, m_16, m_17, m_18, m_19, .int 0, m_21, m_22, m_23, m_24, m_25, m_26, m_27, m_28, m_29, m_30, m_31, m_32, m_33, .int lw, .ref e0, m_36, .ref q0, .int bro, .long val, .long sm, m_41, m_42, m_43, m_44, m_45, m_46, m_47, m_48, m_49, m_50, m_51, m_52, m_53, m_54, m_55, m_56, m_57, m_58, m_59])), (w0, .inl (K 0, 5500, .inl fw)), (e0, .inl (K 2, 13, .inr (.inl fe))), (q0, .inl (K 2, 400, .inr (.inl frs))), (u0, .inl (K 0, 558, .inl fu)), (s0, .inl (K 0, 16, .inl fs)), (r0, .inl (K 0, 7, .inl frf))] sz)) 0 0 (va_A [(m0, .inr (12, [.int thr, .int sta, .ref r0, .ref w0, m_4, m_5, .ref u0, .ref s0, .int nu, m_9, m_10, m_11, m_12, m_13, m_14, m_15, m_16, m_17, m_18, m_19, .int 0, m_21, m_22, m_23, m_24, m_25, m_26, m_27, m_28, m_29, m_30, m_31, m_32, m_33, .int lw, .ref e0, m_36, .ref q0, .int bro, .long val, .long sm, m_41, m_42, m_43, m_44, m_45, m_46, m_47, m_48, m_49, m_50, m_51, m_52, m_53, m_54, m_55, m_56, m_57, m_58, m_59])), (w0, .inl (K 0, 5500, .inl fw)), (e0, .inl (K 2, 13, .inr (.inl fe))), (q0, .inl (K 2, 400, .inr (.inl frs))), (u0, .inl (K 0, 558, .inl fu)), (s0, .inl (K 0, 16, .inl fs)), (r0, .inl (K 0, 7, .inl frf))] sz) := by
  refine Met.ofW (cc := cX12_damp) (maxL := 3) (ret := (some .int)) (by decide) rfl ?_
  intro p e s m args below meth c s₁ B hml hv
  obtain ⟨rfl, hsz, hP, hK, hD0, hN⟩ := hv
  have hx := B.exec
  have hb := B.bytes
  have hr := B.returns
  have hts := atoms_spec (ws := wsX12_damp) B.pre
  have hown : s.vm.findClass RX12 = some m.cls := findClass_of_methodNamed B.named
  have hlocks := B.notSynchronized
  subst hsz
  have hD := hD0.self (sz := s.heap.size)
  generalize hAe : va_A [(m0, .inr (12, [.int thr, .int sta, .ref r0, .ref w0, m_4, m_5, .ref u0, .ref s0, .int nu, m_9, m_10, m_11, m_12, m_13, m_14, m_15, m_16, m_17, m_18, m_19, .int 0, m_21, m_22, m_23, m_24, m_25, m_26, m_27, m_28, m_29, m_30, m_31, m_32, m_33, .int lw, .ref e0, m_36, .ref q0, .int bro, .long val, .long sm, m_41, m_42, m_43, m_44, m_45, m_46, m_47, m_48, m_49, m_50, m_51, m_52, m_53, m_54, m_55, m_56, m_57, m_58, m_59])), (w0, .inl (K 0, 5500, .inl fw)), (e0, .inl (K 2, 13, .inr (.inl fe))), (q0, .inl (K 2, 400, .inr (.inl frs))), (u0, .inl (K 0, 558, .inl fu)), (s0, .inl (K 0, 16, .inl fs)), (r0, .inl (K 0, 7, .inl frf))] s.heap.size = A at hD ⊢
  have hA : ∀ q : Nat, s.heap.size ≤ q → A q := fun q h => by rw [← hAe]; exact Or.inr h
  have hS : va_S A s.heap s.heap [] := va_S.rf
  have hP : va_P D vwCl [(m0, .inr (12, [.int thr, .int sta, .ref r0, .ref w0, m_4, m_5, .ref u0, .ref s0, .int nu, m_9, m_10, m_11, m_12, m_13, m_14, m_15, m_16, m_17, m_18, m_19, .int 0, m_21, m_22, m_23, m_24, m_25, m_26, m_27, m_28, m_29, m_30, m_31, m_32, m_33, .int lw, .ref e0, m_36, .ref q0, .int bro, .long val, .long sm, m_41, m_42, m_43, m_44, m_45, m_46, m_47, m_48, m_49, m_50, m_51, m_52, m_53, m_54, m_55, m_56, m_57, m_58, m_59])), (w0, .inl (K 0, 5500, .inl fw)), (e0, .inl (K 2, 13, .inr (.inl fe))), (q0, .inl (K 2, 400, .inr (.inl frs))), (u0, .inl (K 0, 558, .inl fu)), (s0, .inl (K 0, 16, .inl fs)), (r0, .inl (K 0, 7, .inl frf))] s.heap := hP
  have hl := lv_entry [.ref m0, .int x, .int y] (n := 3) (Nat.le_of_ble_eq_true rfl)
  rw [lg_entry_eq]
  generalize (lg_sl [.ref m0, .int x, .int y] ++ List.replicate (3 - (lg_sl [.ref m0, .int x, .int y]).length) Slot.unset).toArray = ls at hl ⊢
  have hl : lv_has ls 3 [(0, .ref m0), (1, .int x), (2, .int y)] := hl
  have hw12 : ∀ w ∈ wsX120, w ∈ wsX12_damp := fun w h => (List.mem_cons_of_mem _ (List.mem_append_right _ h))
  generalize hQ : MQ below _ _ s _ _ _ = Q
  refine lv_aload_n hx hb dX12_damp_0 rfl (lv_at hl 0 rfl) ?_
  refine lv_iconst (v := 0) hx hb dX12_damp_1 (by decide) ?_
  refine va_put (ci := 12) (v := .int 0) (ty := .int) (C := RX12) (T := TX12) (N := 60) hx hb hts hw12 tyX12 tyX12_ok nmX12 hown hK hP hD hS 0 rfl rfl 0 (by decide) (hts (.fieldLink RX12 158 "SmokeTuneModel" "thrown" "I") (List.mem_cons_of_mem _ (List.mem_append_left _ (List.mem_append_left _ (List.mem_of_getElem? (i := 0) rfl))))) (fun _ h9 => h9) rfl (by decide +kernel) (by first | rfl | decide) (by first | rfl | decide) (Nat.le_of_ble_eq_true rfl) dX12_damp_2 (fun H locs hP hD hS => ?_)
  have hP : va_P D vwCl [(m0, .inr (12, [.int 0, .int sta, .ref r0, .ref w0, m_4, m_5, .ref u0, .ref s0, .int nu, m_9, m_10, m_11, m_12, m_13, m_14, m_15, m_16, m_17, m_18, m_19, .int 0, m_21, m_22, m_23, m_24, m_25, m_26, m_27, m_28, m_29, m_30, m_31, m_32, m_33, .int lw, .ref e0, m_36, .ref q0, .int bro, .long val, .long sm, m_41, m_42, m_43, m_44, m_45, m_46, m_47, m_48, m_49, m_50, m_51, m_52, m_53, m_54, m_55, m_56, m_57, m_58, m_59])), (w0, .inl (K 0, 5500, .inl fw)), (e0, .inl (K 2, 13, .inr (.inl fe))), (q0, .inl (K 2, 400, .inr (.inl frs))), (u0, .inl (K 0, 558, .inl fu)), (s0, .inl (K 0, 16, .inl fs)), (r0, .inl (K 0, 7, .inl frf))] H := hP
  have hD : va_D A [(m0, .inr (12, [.int 0, .int sta, .ref r0, .ref w0, m_4, m_5, .ref u0, .ref s0, .int nu, m_9, m_10, m_11, m_12, m_13, m_14, m_15, m_16, m_17, m_18, m_19, .int 0, m_21, m_22, m_23, m_24, m_25, m_26, m_27, m_28, m_29, m_30, m_31, m_32, m_33, .int lw, .ref e0, m_36, .ref q0, .int bro, .long val, .long sm, m_41, m_42, m_43, m_44, m_45, m_46, m_47, m_48, m_49, m_50, m_51, m_52, m_53, m_54, m_55, m_56, m_57, m_58, m_59])), (w0, .inl (K 0, 5500, .inl fw)), (e0, .inl (K 2, 13, .inr (.inl fe))), (q0, .inl (K 2, 400, .inr (.inl frs))), (u0, .inl (K 0, 558, .inl fu)), (s0, .inl (K 0, 16, .inl fs)), (r0, .inl (K 0, 7, .inl frf))] := hD
  refine lv_aload_n hx hb dX12_damp_5 rfl (lv_at hl 0 rfl) ?_
  refine lv_aload_n hx hb dX12_damp_6 rfl (lv_at hl 0 rfl) ?_
  refine lv_iload_n hx hb dX12_damp_7 rfl (lv_at hl 1 rfl) ?_
  refine lv_iload_n hx hb dX12_damp_8 rfl (lv_at hl 2 rfl) ?_
  refine kci (S := Su) (wr := [(e0, .inl (K 2, 13, .inr (.inl fe))), (q0, .inl (K 2, 400, .inr (.inl frs))), (r0, .inl (K 0, 7, .inl frf))]) (va_runV (As := [.int x, .int y]) (rest := [.ref m0]) ⟨hx, hb, hml, hown, hts⟩ (v_dampNow l D K m0 x y (.int 0) (.int sta) (.ref r0) w0 m_4 m_5 u0 s0 nu m_9 m_10 m_11 m_12 m_13 m_14 m_15 m_16 m_17 m_18 m_19 (.int 0) m_21 m_22 m_23 m_24 m_25 m_26 m_27 m_28 m_29 m_30 m_31 m_32 m_33 (.int lw) (.ref e0) m_36 (.ref q0) (.int bro) (.long val) (.long sm) m_41 m_42 m_43 m_44 m_45 m_46 m_47 m_48 m_49 m_50 m_51 m_52 m_53 m_54 m_55 m_56 m_57 m_58 m_59 fw fu fs H.size (by first | omega | decide) zfw zfu zfs) (cwV 2 hts gX12_damp_X12_dampNow rfl rfl rfl (by decide +kernel) ⟨Nat.le_of_ble_eq_true rfl, Nat.le_of_ble_eq_true rfl⟩) (mkV hK hN (hP.sub [0, 1, 4, 5] rfl) (hD.sub [0, 1, 4, 5] (by decide) rfl) (ci := 12) (q0 := 0) rfl rfl) rfl rfl hl.1 rfl (lv_room (Nat.le_of_ble_eq_true rfl)) dX12_damp_9 ⟨Nat.le_of_ble_eq_true rfl, Nat.le_of_ble_eq_true rfl⟩) hP hD hS hA [0, 1, 4, 5] [2, 3, 6] rfl rfl (by decide) (by decide) (fun r_83 u_84 H locs hw hP hD hS => ?_)
  have hP : va_P D vwCl [(e0, .inl (K 2, 13, .inr (.inl fe))), (q0, .inl (K 2, 400, .inr (.inl frs))), (r0, .inl (K 0, 7, .inl frf)), (m0, .inr (12, [.int 0, .int sta, .ref r0, .ref w0, m_4, m_5, .ref u0, .ref s0, .int (u_84.2.2.2.1 0), m_9, m_10, m_11, m_12, m_13, m_14, m_15, m_16, m_17, m_18, m_19, .int 0, m_21, m_22, m_23, m_24, m_25, m_26, m_27, m_28, m_29, m_30, m_31, m_32, m_33, .int lw, .ref e0, m_36, .ref q0, .int bro, .long val, .long sm, m_41, m_42, m_43, m_44, m_45, m_46, m_47, m_48, m_49, m_50, m_51, m_52, m_53, m_54, m_55, m_56, m_57, m_58, m_59])), (w0, .inl (K 0, 5500, .inl (u_84.2.1 0))), (u0, .inl (K 0, 558, .inl (u_84.2.1 1))), (s0, .inl (K 0, 16, .inl (u_84.2.1 2)))] H := hP
  have hD : va_D A [(e0, .inl (K 2, 13, .inr (.inl fe))), (q0, .inl (K 2, 400, .inr (.inl frs))), (r0, .inl (K 0, 7, .inl frf)), (m0, .inr (12, [.int 0, .int sta, .ref r0, .ref w0, m_4, m_5, .ref u0, .ref s0, .int (u_84.2.2.2.1 0), m_9, m_10, m_11, m_12, m_13, m_14, m_15, m_16, m_17, m_18, m_19, .int 0, m_21, m_22, m_23, m_24, m_25, m_26, m_27, m_28, m_29, m_30, m_31, m_32, m_33, .int lw, .ref e0, m_36, .ref q0, .int bro, .long val, .long sm, m_41, m_42, m_43, m_44, m_45, m_46, m_47, m_48, m_49, m_50, m_51, m_52, m_53, m_54, m_55, m_56, m_57, m_58, m_59])), (w0, .inl (K 0, 5500, .inl (u_84.2.1 0))), (u0, .inl (K 0, 558, .inl (u_84.2.1 1))), (s0, .inl (K 0, 16, .inl (u_84.2.1 2)))] := hD
  obtain ⟨h_89, k_85, k_86, k_87, k_88, -⟩ := hw
  refine kci (S := Su) (wr := [(e0, .inl (K 2, 13, .inr (.inl fe))), (q0, .inl (K 2, 400, .inr (.inl frs))), (w0, .inl (K 0, 5500, .inl (u_84.2.1 0))), (u0, .inl (K 0, 558, .inl (u_84.2.1 1))), (s0, .inl (K 0, 16, .inl (u_84.2.1 2)))]) (va_runV (As := [.int r_83]) (rest := []) ⟨hx, hb, hml, hown, hts⟩ (v_tell l D K m0 r_83 (.int 0) sta r0 (.ref w0) m_4 m_5 (.ref u0) (.ref s0) (.int (u_84.2.2.2.1 0)) m_9 m_10 m_11 m_12 m_13 m_14 m_15 m_16 m_17 m_18 m_19 (.int 0) m_21 m_22 m_23 m_24 m_25 m_26 m_27 m_28 m_29 m_30 m_31 m_32 m_33 (.int lw) (.ref e0) m_36 (.ref q0) (.int bro) (.long val) (.long sm) m_41 m_42 m_43 m_44 m_45 m_46 m_47 m_48 m_49 m_50 m_51 m_52 m_53 m_54 m_55 m_56 m_57 m_58 m_59 frf H.size (by first | omega | decide)) (cwV 1 hts gX12_damp_X12_tell rfl rfl rfl (by decide +kernel) ⟨Nat.le_of_ble_eq_true rfl, Nat.le_of_ble_eq_true rfl⟩) (mkV hK hN (hP.sub [3, 2] rfl) (hD.sub [3, 2] (by decide) rfl) (ci := 12) (q0 := 0) rfl rfl) rfl rfl hl.1 rfl (lv_room (Nat.le_of_ble_eq_true rfl)) dX12_damp_12 ⟨Nat.le_of_ble_eq_true rfl, Nat.le_of_ble_eq_true rfl⟩) hP hD hS hA [3, 2] [0, 1, 4, 5, 6] rfl rfl (by decide) (by decide) (fun r_90 u_91 H locs hw hP hD hS => ?_)
  have hP : va_P D vwCl [(e0, .inl (K 2, 13, .inr (.inl fe))), (q0, .inl (K 2, 400, .inr (.inl frs))), (w0, .inl (K 0, 5500, .inl (u_84.2.1 0))), (u0, .inl (K 0, 558, .inl (u_84.2.1 1))), (s0, .inl (K 0, 16, .inl (u_84.2.1 2))), (m0, .inr (12, [.int 0, .int (u_91.2.2.2.1 0), .ref r0, .ref w0, m_4, m_5, .ref u0, .ref s0, .int (u_84.2.2.2.1 0), m_9, m_10, m_11, m_12, m_13, m_14, m_15, m_16, m_17, m_18, m_19, .int 0, m_21, m_22, m_23, m_24, m_25, m_26, m_27, m_28, m_29, m_30, m_31, m_32, m_33, .int lw, .ref e0, m_36, .ref q0, .int bro, .long val, .long sm, m_41, m_42, m_43, m_44, m_45, m_46, m_47, m_48, m_49, m_50, m_51, m_52, m_53, m_54, m_55, m_56, m_57, m_58, m_59])), (r0, .inl (K 0, 7, .inl (u_91.2.1 0)))] H := hP
  have hD : va_D A [(e0, .inl (K 2, 13, .inr (.inl fe))), (q0, .inl (K 2, 400, .inr (.inl frs))), (w0, .inl (K 0, 5500, .inl (u_84.2.1 0))), (u0, .inl (K 0, 558, .inl (u_84.2.1 1))), (s0, .inl (K 0, 16, .inl (u_84.2.1 2))), (m0, .inr (12, [.int 0, .int (u_91.2.2.2.1 0), .ref r0, .ref w0, m_4, m_5, .ref u0, .ref s0, .int (u_84.2.2.2.1 0), m_9, m_10, m_11, m_12, m_13, m_14, m_15, m_16, m_17, m_18, m_19, .int 0, m_21, m_22, m_23, m_24, m_25, m_26, m_27, m_28, m_29, m_30, m_31, m_32, m_33, .int lw, .ref e0, m_36, .ref q0, .int bro, .long val, .long sm, m_41, m_42, m_43, m_44, m_45, m_46, m_47, m_48, m_49, m_50, m_51, m_52, m_53, m_54, m_55, m_56, m_57, m_58, m_59])), (r0, .inl (K 0, 7, .inl (u_91.2.1 0)))] := hD
  obtain ⟨h_93, k_92, -⟩ := hw
  rw [← hQ]
  have hP9 := hP.sub (ws' := [(m0, .inr (12, [.int 0, .int (u_91.2.2.2.1 0), .ref r0, .ref w0, m_4, m_5, .ref u0, .ref s0, .int (u_84.2.2.2.1 0), m_9, m_10, m_11, m_12, m_13, m_14, m_15, m_16, m_17, m_18, m_19, .int 0, m_21, m_22, m_23, m_24, m_25, m_26, m_27, m_28, m_29, m_30, m_31, m_32, m_33, .int lw, .ref e0, m_36, .ref q0, .int bro, .long val, .long sm, m_41, m_42, m_43, m_44, m_45, m_46, m_47, m_48, m_49, m_50, m_51, m_52, m_53, m_54, m_55, m_56, m_57, m_58, m_59])), (w0, .inl (K 0, 5500, .inl (u_84.2.1 0))), (e0, .inl (K 2, 13, .inr (.inl fe))), (q0, .inl (K 2, 400, .inr (.inl frs))), (u0, .inl (K 0, 558, .inl (u_84.2.1 1))), (s0, .inl (K 0, 16, .inl (u_84.2.1 2))), (r0, .inl (K 0, 7, .inl (u_91.2.1 0)))]) [5, 2, 0, 1, 3, 4, 6] rfl
  have hD9 := hD.sub (ws' := [(m0, .inr (12, [.int 0, .int (u_91.2.2.2.1 0), .ref r0, .ref w0, m_4, m_5, .ref u0, .ref s0, .int (u_84.2.2.2.1 0), m_9, m_10, m_11, m_12, m_13, m_14, m_15, m_16, m_17, m_18, m_19, .int 0, m_21, m_22, m_23, m_24, m_25, m_26, m_27, m_28, m_29, m_30, m_31, m_32, m_33, .int lw, .ref e0, m_36, .ref q0, .int bro, .long val, .long sm, m_41, m_42, m_43, m_44, m_45, m_46, m_47, m_48, m_49, m_50, m_51, m_52, m_53, m_54, m_55, m_56, m_57, m_58, m_59])), (w0, .inl (K 0, 5500, .inl (u_84.2.1 0))), (e0, .inl (K 2, 13, .inr (.inl fe))), (q0, .inl (K 2, 400, .inr (.inl frs))), (u0, .inl (K 0, 558, .inl (u_84.2.1 1))), (s0, .inl (K 0, 16, .inl (u_84.2.1 2))), (r0, .inl (K 0, 7, .inl (u_91.2.1 0)))]) [5, 2, 0, 1, 3, 4, 6] (by decide) rfl
  exact W.iret (v := r_90) hx hb hr (fun t ht hW => ⟨⟨r_90, ((fun _ => 0, fun i => match i with | 0 => (u_84.2.1 0) | 1 => (u_84.2.1 1) | 2 => (u_84.2.1 2) | _ => (u_91.2.1 0), fun _ => fun _ => 0, fun i => match i with | 0 => (u_91.2.2.2.1 0) | _ => (u_84.2.2.2.1 0), fun _ => 0, fun _ => fun _ => none) : Su), rfl, ⟨(show (-6) ≤ r_90.toInt by omega), (show (-6) ≤ ((u_91.2.2.2.1 0) : Int32).toInt ∧ ((u_91.2.2.2.1 0) : Int32).toInt ≤ 0 by omega), (show 0 ≤ ((u_84.2.2.2.1 0) : Int32).toInt ∧ ((u_84.2.2.2.1 0) : Int32).toInt ≤ 16 by omega), k_86, k_87, k_88, trivial⟩, (⟨by rw [ht]; exact hP9, hD9⟩ : Wd D A _ t)⟩, hS.F ht⟩) hS.2.2 dX12_damp_15
set_option maxHeartbeats 4000000 in
set_option maxRecDepth 100000 in
theorem v_buy (l : Launch) (D : va_G) (K : Nat → ClassId) (m0 : Nat) (x : Int32) (y : Int32) (thr : Int32) (sta : Int32) (r0 : Nat) (w0 : Nat) (m_4 : Value) (m_5 : Value) (u0 : Nat) (s0 : Nat) (nu : Int32) (m_9 : Value) (m_10 : Value) (m_11 : Value) (m_12 : Value) (m_13 : Value) (m_14 : Value) (m_15 : Value) (m_16 : Value) (m_17 : Value) (m_18 : Value) (m_19 : Value) (m_21 : Value) (m_22 : Value) (m_23 : Value) (m_24 : Value) (m_25 : Value) (m_26 : Value) (m_27 : Value) (m_28 : Value) (m_29 : Value) (m_30 : Value) (m_31 : Value) (m_32 : Value) (m_33 : Value) (lw : Int32) (e0 : Nat) (m_36 : Value) (q0 : Nat) (bro : Int32) (val : Int64) (sm : Int64) (m_41 : Value) (m_42 : Value) (m_43 : Value) (m_44 : Value) (m_45 : Value) (m_46 : Value) (m_47 : Value) (m_48 : Value) (m_49 : Value) (m_50 : Value) (m_51 : Value) (m_52 : Value) (m_53 : Value) (m_54 : Value) (m_55 : Value) (m_56 : Value) (m_57 : Value) (m_58 : Value) (m_59 : Value) (fw : Nat → Int32) (fe : Nat → Int64) (frs : Nat → Int64) (fu : Nat → Int32) (fs : Nat → Int32) (frf : Nat → Int32) (sz : Nat) (zbro : 0 ≤ bro.toInt ∧ bro.toInt ≤ 1) (znu : 0 ≤ nu.toInt ∧ nu.toInt ≤ 16) (zfw : RwOK fw) (zfu : Pu 558 fu) (zfs : Rg 16 0 3 fs) : Met l yX12_buy wsX12_buy ({ frames := 3, cells := 0, slots := 0, locals := 68 }) (va_Pc [.ref m0, .int x, .int y] (Pre D K [(m0, .inr (12, [.int thr, .int sta, .ref r0, .ref w0, m_4, m_5, .ref u0, .ref s0, .int nu, m_9, m_10, m_11, m_12, m_13, m_14, m_15, m_16, m_17, m_18, m_19, .int 0, m_21, m_22, m_23, m_24, m_25, m_26, m_27, m_28, m_29, m_30, m_31, m_32, m_33, .int lw, .ref e0, m_36, .ref q0, .int bro, .long val, .long sm, m_41, m_42, m_43, m_44, m_45, m_46, m_47, m_48, m_49, m_50, m_51, m_52, m_53, m_54, m_55, m_56, m_57, m_58, m_59])), (w0, .inl (K 0, 5500, .inl fw)), (e0, .inl (K 2, 13, .inr (.inl fe))), (q0, .inl (K 2, 400, .inr (.inl frs))), (u0, .inl (K 0, 558, .inl fu)), (s0, .inl (K 0, 16, .inl fs)), (r0, .inl (K 0, 7, .inl frf))] sz)) (va_Qi (S := Su) (fun (r : Int32) (u : Su) => ((-6) ≤ r.toInt) ∧ ((-6) ≤ (u.2.2.2.1 0).toInt ∧ (u.2.2.2.1 0).toInt ≤ 0) ∧ (0 ≤ (u.2.2.2.1 1).toInt ∧ (u.2.2.2.1 1).toInt ≤ 16) ∧ (RwOK (u.2.1 0)) ∧ (Pu 558 (u.2.1 1)) ∧ (Rg 16 0 3 (u.2.1 2)) ∧ True) (fun u t => Wd D (va_A [(m0, .inr (12, [.int thr, .int sta, .ref r0, .ref w0, m_4, m_5, .ref u0, .ref s0, .int nu, m_9, m_10, m_11, m_12, m_13, m_14, m_15, m_16, m_17, m_18, m_19, .int 0, m_21, m_22, m_23, m_24, m_25, m_26, m_27, m_28, m_29, m_30, m_31, m_32, m_33, .int lw, .ref e0, m_36, .ref q0, .int bro, .long val, .long sm, m_41, m_42, m_43, m_44, m_45, m_46, m_47, m_48, m_49, m_50, m_51, m_52, m_53, m_54, m_55, m_56, m_57, m_58, m_59])), (w0, .inl (K 0, 5500, .inl fw)), (e0, .inl (K 2, 13, .inr (.inl fe))), (q0, .inl (K 2, 400, .inr (.inl frs))), (u0, .inl (K 0, 558, .inl fu)), (s0, .inl (K 0, 16, .inl fs)), (r0, .inl (K 0, 7, .inl frf))] sz) ((fun u => [(m0, .inr (12, [.int 0, .int (u.2.2.2.1 0), .ref r0, .ref w0, m_4, m_5, .ref u0, .ref s0, .int (u.2.2.2.1 1), m_9, m_10, m_11, m_12, m_13, m_14, m_15, m_16, m_17, m_18, m_19, .int 0, m_21, m_22, m_23, m_24, m_25, m_26, m_27, m_28, m_29, m_30, m_31, m_32, m_33, .int lw, .ref e0, m_36, .ref q0, .int bro, .long val, .long sm, m_41, m_42, m_43, m_44, m_45, m_46, m_47, m_48, m_49, m_50, m_51, m_52, m_53, m_54, m_55, m_56, m_57, m_58, m_59])), (w0, .inl (K 0, 5500, .inl (u.2.1 0))), (e0, .inl (K 2, 13, .inr (.inl fe))), (q0, .inl (K 2, 400, .inr (.inl frs))), (u0, .inl (K 0, 558, .inl (u.2.1 1))), (s0, .inl (K 0, 16, .inl (u.2.1 2))), (r0, .inl (K 0, 7, .inl (u.2.1 3)))]) u) t) (va_A [(m0, .inr (12, [.int thr, .int sta, .ref r0, .ref w0, m_4, m_5, .ref u0, .ref s0, .int nu, m_9, m_10, m_11, m_12, m_13, m_14, m_15, m_16, m_17, m_18, m_19, .int 0, m_21, m_22, m_23, m_24, m_25, m_26, m_27, m_28, m_29, m_30, m_31, m_32, m_33, .int lw, .ref e0, m_36, .ref q0, .int bro, .long val, .long sm, m_41, m_42, m_43, m_44, m_45, m_46, m_47, m_48, m_49, m_50, m_51, m_52, m_53, m_54, m_55, m_56, m_57, m_58, m_59])), (w0, .inl (K 0, 5500, .inl fw)), (e0, .inl (K 2, 13, .inr (.inl fe))), (q0, .inl (K 2, 400, .inr (.inl frs))), (u0, .inl (K 0, 558, .inl fu)), (s0, .inl (K 0, 16, .inl fs)), (r0, .inl (K 0, 7, .inl frf))] sz)) 0 0 (va_A [(m0, .inr (12, [.int thr, .int sta, .ref r0, .ref w0, m_4, m_5, .ref u0, .ref s0, .int nu, m_9, m_10, m_11, m_12, m_13, m_14, m_15, m_16, m_17, m_18, m_19, .int 0, m_21, m_22, m_23, m_24, m_25, m_26, m_27, m_28, m_29, m_30, m_31, m_32, m_33, .int lw, .ref e0, m_36, .ref q0, .int bro, .long val, .long sm, m_41, m_42, m_43, m_44, m_45, m_46, m_47, m_48, m_49, m_50, m_51, m_52, m_53, m_54, m_55, m_56, m_57, m_58, m_59])), (w0, .inl (K 0, 5500, .inl fw)), (e0, .inl (K 2, 13, .inr (.inl fe))), (q0, .inl (K 2, 400, .inr (.inl frs))), (u0, .inl (K 0, 558, .inl fu)), (s0, .inl (K 0, 16, .inl fs)), (r0, .inl (K 0, 7, .inl frf))] sz) := by
  refine Met.ofW (cc := cX12_buy) (maxL := 3) (ret := (some .int)) (by decide) rfl ?_
  intro p e s m args below meth c s₁ B hml hv
  obtain ⟨rfl, hsz, hP, hK, hD0, hN⟩ := hv
  have hx := B.exec
  have hb := B.bytes
  have hr := B.returns
  have hts := atoms_spec (ws := wsX12_buy) B.pre
  have hown : s.vm.findClass RX12 = some m.cls := findClass_of_methodNamed B.named
  have hlocks := B.notSynchronized
  subst hsz
  have hD := hD0.self (sz := s.heap.size)
  generalize hAe : va_A [(m0, .inr (12, [.int thr, .int sta, .ref r0, .ref w0, m_4, m_5, .ref u0, .ref s0, .int nu, m_9, m_10, m_11, m_12, m_13, m_14, m_15, m_16, m_17, m_18, m_19, .int 0, m_21, m_22, m_23, m_24, m_25, m_26, m_27, m_28, m_29, m_30, m_31, m_32, m_33, .int lw, .ref e0, m_36, .ref q0, .int bro, .long val, .long sm, m_41, m_42, m_43, m_44, m_45, m_46, m_47, m_48, m_49, m_50, m_51, m_52, m_53, m_54, m_55, m_56, m_57, m_58, m_59])), (w0, .inl (K 0, 5500, .inl fw)), (e0, .inl (K 2, 13, .inr (.inl fe))), (q0, .inl (K 2, 400, .inr (.inl frs))), (u0, .inl (K 0, 558, .inl fu)), (s0, .inl (K 0, 16, .inl fs)), (r0, .inl (K 0, 7, .inl frf))] s.heap.size = A at hD ⊢
  have hA : ∀ q : Nat, s.heap.size ≤ q → A q := fun q h => by rw [← hAe]; exact Or.inr h
  have hS : va_S A s.heap s.heap [] := va_S.rf
  have hP : va_P D vwCl [(m0, .inr (12, [.int thr, .int sta, .ref r0, .ref w0, m_4, m_5, .ref u0, .ref s0, .int nu, m_9, m_10, m_11, m_12, m_13, m_14, m_15, m_16, m_17, m_18, m_19, .int 0, m_21, m_22, m_23, m_24, m_25, m_26, m_27, m_28, m_29, m_30, m_31, m_32, m_33, .int lw, .ref e0, m_36, .ref q0, .int bro, .long val, .long sm, m_41, m_42, m_43, m_44, m_45, m_46, m_47, m_48, m_49, m_50, m_51, m_52, m_53, m_54, m_55, m_56, m_57, m_58, m_59])), (w0, .inl (K 0, 5500, .inl fw)), (e0, .inl (K 2, 13, .inr (.inl fe))), (q0, .inl (K 2, 400, .inr (.inl frs))), (u0, .inl (K 0, 558, .inl fu)), (s0, .inl (K 0, 16, .inl fs)), (r0, .inl (K 0, 7, .inl frf))] s.heap := hP
  have hl := lv_entry [.ref m0, .int x, .int y] (n := 3) (Nat.le_of_ble_eq_true rfl)
  rw [lg_entry_eq]
  generalize (lg_sl [.ref m0, .int x, .int y] ++ List.replicate (3 - (lg_sl [.ref m0, .int x, .int y]).length) Slot.unset).toArray = ls at hl ⊢
  have hl : lv_has ls 3 [(0, .ref m0), (1, .int x), (2, .int y)] := hl
  have hw12 : ∀ w ∈ wsX120, w ∈ wsX12_buy := fun w h => (List.mem_cons_of_mem _ (List.mem_append_right _ h))
  generalize hQ : MQ below _ _ s _ _ _ = Q
  refine lv_aload_n hx hb dX12_buy_0 rfl (lv_at hl 0 rfl) ?_
  refine lv_iconst (v := 0) hx hb dX12_buy_1 (by decide) ?_
  refine va_put (ci := 12) (v := .int 0) (ty := .int) (C := RX12) (T := TX12) (N := 60) hx hb hts hw12 tyX12 tyX12_ok nmX12 hown hK hP hD hS 0 rfl rfl 0 (by decide) (hts (.fieldLink RX12 158 "SmokeTuneModel" "thrown" "I") (List.mem_cons_of_mem _ (List.mem_append_left _ (List.mem_append_left _ (List.mem_of_getElem? (i := 0) rfl))))) (fun _ h9 => h9) rfl (by decide +kernel) (by first | rfl | decide) (by first | rfl | decide) (Nat.le_of_ble_eq_true rfl) dX12_buy_2 (fun H locs hP hD hS => ?_)
  have hP : va_P D vwCl [(m0, .inr (12, [.int 0, .int sta, .ref r0, .ref w0, m_4, m_5, .ref u0, .ref s0, .int nu, m_9, m_10, m_11, m_12, m_13, m_14, m_15, m_16, m_17, m_18, m_19, .int 0, m_21, m_22, m_23, m_24, m_25, m_26, m_27, m_28, m_29, m_30, m_31, m_32, m_33, .int lw, .ref e0, m_36, .ref q0, .int bro, .long val, .long sm, m_41, m_42, m_43, m_44, m_45, m_46, m_47, m_48, m_49, m_50, m_51, m_52, m_53, m_54, m_55, m_56, m_57, m_58, m_59])), (w0, .inl (K 0, 5500, .inl fw)), (e0, .inl (K 2, 13, .inr (.inl fe))), (q0, .inl (K 2, 400, .inr (.inl frs))), (u0, .inl (K 0, 558, .inl fu)), (s0, .inl (K 0, 16, .inl fs)), (r0, .inl (K 0, 7, .inl frf))] H := hP
  have hD : va_D A [(m0, .inr (12, [.int 0, .int sta, .ref r0, .ref w0, m_4, m_5, .ref u0, .ref s0, .int nu, m_9, m_10, m_11, m_12, m_13, m_14, m_15, m_16, m_17, m_18, m_19, .int 0, m_21, m_22, m_23, m_24, m_25, m_26, m_27, m_28, m_29, m_30, m_31, m_32, m_33, .int lw, .ref e0, m_36, .ref q0, .int bro, .long val, .long sm, m_41, m_42, m_43, m_44, m_45, m_46, m_47, m_48, m_49, m_50, m_51, m_52, m_53, m_54, m_55, m_56, m_57, m_58, m_59])), (w0, .inl (K 0, 5500, .inl fw)), (e0, .inl (K 2, 13, .inr (.inl fe))), (q0, .inl (K 2, 400, .inr (.inl frs))), (u0, .inl (K 0, 558, .inl fu)), (s0, .inl (K 0, 16, .inl fs)), (r0, .inl (K 0, 7, .inl frf))] := hD
  refine lv_aload_n hx hb dX12_buy_5 rfl (lv_at hl 0 rfl) ?_
  refine lv_aload_n hx hb dX12_buy_6 rfl (lv_at hl 0 rfl) ?_
  refine lv_iload_n hx hb dX12_buy_7 rfl (lv_at hl 1 rfl) ?_
  refine lv_iload_n hx hb dX12_buy_8 rfl (lv_at hl 2 rfl) ?_
  refine kci (S := Su) (wr := [(e0, .inl (K 2, 13, .inr (.inl fe))), (q0, .inl (K 2, 400, .inr (.inl frs))), (r0, .inl (K 0, 7, .inl frf))]) (va_runV (As := [.int x, .int y]) (rest := [.ref m0]) ⟨hx, hb, hml, hown, hts⟩ (v_buyNow l D K m0 x y (.int 0) (.int sta) (.ref r0) w0 m_4 m_5 u0 s0 nu m_9 m_10 m_11 m_12 m_13 m_14 m_15 m_16 m_17 m_18 m_19 (.int 0) m_21 m_22 m_23 m_24 m_25 m_26 m_27 m_28 m_29 m_30 m_31 m_32 m_33 (.int lw) (.ref e0) m_36 (.ref q0) (.int bro) (.long val) (.long sm) m_41 m_42 m_43 m_44 m_45 m_46 m_47 m_48 m_49 m_50 m_51 m_52 m_53 m_54 m_55 m_56 m_57 m_58 m_59 fw fu fs H.size (by first | omega | decide) zfw zfu zfs) (cwV 2 hts gX12_buy_X12_buyNow rfl rfl rfl (by decide +kernel) ⟨Nat.le_of_ble_eq_true rfl, Nat.le_of_ble_eq_true rfl⟩) (mkV hK hN (hP.sub [0, 1, 4, 5] rfl) (hD.sub [0, 1, 4, 5] (by decide) rfl) (ci := 12) (q0 := 0) rfl rfl) rfl rfl hl.1 rfl (lv_room (Nat.le_of_ble_eq_true rfl)) dX12_buy_9 ⟨Nat.le_of_ble_eq_true rfl, Nat.le_of_ble_eq_true rfl⟩) hP hD hS hA [0, 1, 4, 5] [2, 3, 6] rfl rfl (by decide) (by decide) (fun r_83 u_84 H locs hw hP hD hS => ?_)
  have hP : va_P D vwCl [(e0, .inl (K 2, 13, .inr (.inl fe))), (q0, .inl (K 2, 400, .inr (.inl frs))), (r0, .inl (K 0, 7, .inl frf)), (m0, .inr (12, [.int 0, .int sta, .ref r0, .ref w0, m_4, m_5, .ref u0, .ref s0, .int (u_84.2.2.2.1 0), m_9, m_10, m_11, m_12, m_13, m_14, m_15, m_16, m_17, m_18, m_19, .int 0, m_21, m_22, m_23, m_24, m_25, m_26, m_27, m_28, m_29, m_30, m_31, m_32, m_33, .int lw, .ref e0, m_36, .ref q0, .int bro, .long val, .long sm, m_41, m_42, m_43, m_44, m_45, m_46, m_47, m_48, m_49, m_50, m_51, m_52, m_53, m_54, m_55, m_56, m_57, m_58, m_59])), (w0, .inl (K 0, 5500, .inl (u_84.2.1 0))), (u0, .inl (K 0, 558, .inl (u_84.2.1 1))), (s0, .inl (K 0, 16, .inl (u_84.2.1 2)))] H := hP
  have hD : va_D A [(e0, .inl (K 2, 13, .inr (.inl fe))), (q0, .inl (K 2, 400, .inr (.inl frs))), (r0, .inl (K 0, 7, .inl frf)), (m0, .inr (12, [.int 0, .int sta, .ref r0, .ref w0, m_4, m_5, .ref u0, .ref s0, .int (u_84.2.2.2.1 0), m_9, m_10, m_11, m_12, m_13, m_14, m_15, m_16, m_17, m_18, m_19, .int 0, m_21, m_22, m_23, m_24, m_25, m_26, m_27, m_28, m_29, m_30, m_31, m_32, m_33, .int lw, .ref e0, m_36, .ref q0, .int bro, .long val, .long sm, m_41, m_42, m_43, m_44, m_45, m_46, m_47, m_48, m_49, m_50, m_51, m_52, m_53, m_54, m_55, m_56, m_57, m_58, m_59])), (w0, .inl (K 0, 5500, .inl (u_84.2.1 0))), (u0, .inl (K 0, 558, .inl (u_84.2.1 1))), (s0, .inl (K 0, 16, .inl (u_84.2.1 2)))] := hD
  obtain ⟨h_89, k_85, k_86, k_87, k_88, -⟩ := hw
  refine kci (S := Su) (wr := [(e0, .inl (K 2, 13, .inr (.inl fe))), (q0, .inl (K 2, 400, .inr (.inl frs))), (w0, .inl (K 0, 5500, .inl (u_84.2.1 0))), (u0, .inl (K 0, 558, .inl (u_84.2.1 1))), (s0, .inl (K 0, 16, .inl (u_84.2.1 2)))]) (va_runV (As := [.int r_83]) (rest := []) ⟨hx, hb, hml, hown, hts⟩ (v_tell l D K m0 r_83 (.int 0) sta r0 (.ref w0) m_4 m_5 (.ref u0) (.ref s0) (.int (u_84.2.2.2.1 0)) m_9 m_10 m_11 m_12 m_13 m_14 m_15 m_16 m_17 m_18 m_19 (.int 0) m_21 m_22 m_23 m_24 m_25 m_26 m_27 m_28 m_29 m_30 m_31 m_32 m_33 (.int lw) (.ref e0) m_36 (.ref q0) (.int bro) (.long val) (.long sm) m_41 m_42 m_43 m_44 m_45 m_46 m_47 m_48 m_49 m_50 m_51 m_52 m_53 m_54 m_55 m_56 m_57 m_58 m_59 frf H.size (by first | omega | decide)) (cwV 1 hts gX12_buy_X12_tell rfl rfl rfl (by decide +kernel) ⟨Nat.le_of_ble_eq_true rfl, Nat.le_of_ble_eq_true rfl⟩) (mkV hK hN (hP.sub [3, 2] rfl) (hD.sub [3, 2] (by decide) rfl) (ci := 12) (q0 := 0) rfl rfl) rfl rfl hl.1 rfl (lv_room (Nat.le_of_ble_eq_true rfl)) dX12_buy_12 ⟨Nat.le_of_ble_eq_true rfl, Nat.le_of_ble_eq_true rfl⟩) hP hD hS hA [3, 2] [0, 1, 4, 5, 6] rfl rfl (by decide) (by decide) (fun r_90 u_91 H locs hw hP hD hS => ?_)
  have hP : va_P D vwCl [(e0, .inl (K 2, 13, .inr (.inl fe))), (q0, .inl (K 2, 400, .inr (.inl frs))), (w0, .inl (K 0, 5500, .inl (u_84.2.1 0))), (u0, .inl (K 0, 558, .inl (u_84.2.1 1))), (s0, .inl (K 0, 16, .inl (u_84.2.1 2))), (m0, .inr (12, [.int 0, .int (u_91.2.2.2.1 0), .ref r0, .ref w0, m_4, m_5, .ref u0, .ref s0, .int (u_84.2.2.2.1 0), m_9, m_10, m_11, m_12, m_13, m_14, m_15, m_16, m_17, m_18, m_19, .int 0, m_21, m_22, m_23, m_24, m_25, m_26, m_27, m_28, m_29, m_30, m_31, m_32, m_33, .int lw, .ref e0, m_36, .ref q0, .int bro, .long val, .long sm, m_41, m_42, m_43, m_44, m_45, m_46, m_47, m_48, m_49, m_50, m_51, m_52, m_53, m_54, m_55, m_56, m_57, m_58, m_59])), (r0, .inl (K 0, 7, .inl (u_91.2.1 0)))] H := hP
  have hD : va_D A [(e0, .inl (K 2, 13, .inr (.inl fe))), (q0, .inl (K 2, 400, .inr (.inl frs))), (w0, .inl (K 0, 5500, .inl (u_84.2.1 0))), (u0, .inl (K 0, 558, .inl (u_84.2.1 1))), (s0, .inl (K 0, 16, .inl (u_84.2.1 2))), (m0, .inr (12, [.int 0, .int (u_91.2.2.2.1 0), .ref r0, .ref w0, m_4, m_5, .ref u0, .ref s0, .int (u_84.2.2.2.1 0), m_9, m_10, m_11, m_12, m_13, m_14, m_15, m_16, m_17, m_18, m_19, .int 0, m_21, m_22, m_23, m_24, m_25, m_26, m_27, m_28, m_29, m_30, m_31, m_32, m_33, .int lw, .ref e0, m_36, .ref q0, .int bro, .long val, .long sm, m_41, m_42, m_43, m_44, m_45, m_46, m_47, m_48, m_49, m_50, m_51, m_52, m_53, m_54, m_55, m_56, m_57, m_58, m_59])), (r0, .inl (K 0, 7, .inl (u_91.2.1 0)))] := hD
  obtain ⟨h_93, k_92, -⟩ := hw
  rw [← hQ]
  have hP9 := hP.sub (ws' := [(m0, .inr (12, [.int 0, .int (u_91.2.2.2.1 0), .ref r0, .ref w0, m_4, m_5, .ref u0, .ref s0, .int (u_84.2.2.2.1 0), m_9, m_10, m_11, m_12, m_13, m_14, m_15, m_16, m_17, m_18, m_19, .int 0, m_21, m_22, m_23, m_24, m_25, m_26, m_27, m_28, m_29, m_30, m_31, m_32, m_33, .int lw, .ref e0, m_36, .ref q0, .int bro, .long val, .long sm, m_41, m_42, m_43, m_44, m_45, m_46, m_47, m_48, m_49, m_50, m_51, m_52, m_53, m_54, m_55, m_56, m_57, m_58, m_59])), (w0, .inl (K 0, 5500, .inl (u_84.2.1 0))), (e0, .inl (K 2, 13, .inr (.inl fe))), (q0, .inl (K 2, 400, .inr (.inl frs))), (u0, .inl (K 0, 558, .inl (u_84.2.1 1))), (s0, .inl (K 0, 16, .inl (u_84.2.1 2))), (r0, .inl (K 0, 7, .inl (u_91.2.1 0)))]) [5, 2, 0, 1, 3, 4, 6] rfl
  have hD9 := hD.sub (ws' := [(m0, .inr (12, [.int 0, .int (u_91.2.2.2.1 0), .ref r0, .ref w0, m_4, m_5, .ref u0, .ref s0, .int (u_84.2.2.2.1 0), m_9, m_10, m_11, m_12, m_13, m_14, m_15, m_16, m_17, m_18, m_19, .int 0, m_21, m_22, m_23, m_24, m_25, m_26, m_27, m_28, m_29, m_30, m_31, m_32, m_33, .int lw, .ref e0, m_36, .ref q0, .int bro, .long val, .long sm, m_41, m_42, m_43, m_44, m_45, m_46, m_47, m_48, m_49, m_50, m_51, m_52, m_53, m_54, m_55, m_56, m_57, m_58, m_59])), (w0, .inl (K 0, 5500, .inl (u_84.2.1 0))), (e0, .inl (K 2, 13, .inr (.inl fe))), (q0, .inl (K 2, 400, .inr (.inl frs))), (u0, .inl (K 0, 558, .inl (u_84.2.1 1))), (s0, .inl (K 0, 16, .inl (u_84.2.1 2))), (r0, .inl (K 0, 7, .inl (u_91.2.1 0)))]) [5, 2, 0, 1, 3, 4, 6] (by decide) rfl
  exact W.iret (v := r_90) hx hb hr (fun t ht hW => ⟨⟨r_90, ((fun _ => 0, fun i => match i with | 0 => (u_84.2.1 0) | 1 => (u_84.2.1 1) | 2 => (u_84.2.1 2) | _ => (u_91.2.1 0), fun _ => fun _ => 0, fun i => match i with | 0 => (u_91.2.2.2.1 0) | _ => (u_84.2.2.2.1 0), fun _ => 0, fun _ => fun _ => none) : Su), rfl, ⟨(show (-6) ≤ r_90.toInt by omega), (show (-6) ≤ ((u_91.2.2.2.1 0) : Int32).toInt ∧ ((u_91.2.2.2.1 0) : Int32).toInt ≤ 0 by omega), (show 0 ≤ ((u_84.2.2.2.1 0) : Int32).toInt ∧ ((u_84.2.2.2.1 0) : Int32).toInt ≤ 16 by omega), k_86, k_87, k_88, trivial⟩, (⟨by rw [ht]; exact hP9, hD9⟩ : Wd D A _ t)⟩, hS.F ht⟩) hS.2.2 dX12_buy_15
