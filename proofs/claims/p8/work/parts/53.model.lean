theorem dX12_burnsOf_0 : decode cX12_burnsOf 0 = .ok (.aload_n 0, 1) := by decide +kernel
theorem dX12_burnsOf_1 : decode cX12_burnsOf 1 = .ok (.iload_n 1, 1) := by decide +kernel
theorem dX12_burnsOf_2 : decode cX12_burnsOf 2 = .ok (.iconst 0, 1) := by decide +kernel
theorem dX12_burnsOf_3 : decode cX12_burnsOf 3 = .ok (.iload_n 2, 1) := by decide +kernel
theorem dX12_burnsOf_4 : decode cX12_burnsOf 4 = .ok (.iconst (-1), 1) := by decide +kernel
theorem dX12_burnsOf_5 : decode cX12_burnsOf 5 = .ok (.lconst 1, 1) := by decide +kernel
theorem dX12_burnsOf_6 : decode cX12_burnsOf 6 = .ok (.invokevirtual 415, 3) := by decide +kernel
theorem dX12_burnsOf_9 : decode cX12_burnsOf 9 = .ok (.iconst 0, 1) := by decide +kernel
theorem dX12_burnsOf_10 : decode cX12_burnsOf 10 = .ok (.bipush 20, 2) := by decide +kernel
theorem dX12_burnsOf_12 : decode cX12_burnsOf 12 = .ok (.invokestatic 419, 3) := by decide +kernel
theorem dX12_burnsOf_15 : decode cX12_burnsOf 15 = .ok (.ireturn, 1) := by decide +kernel
theorem dX12_flaresOf_0 : decode cX12_flaresOf 0 = .ok (.aload_n 0, 1) := by decide +kernel
theorem dX12_flaresOf_1 : decode cX12_flaresOf 1 = .ok (.iload_n 1, 1) := by decide +kernel
theorem dX12_flaresOf_2 : decode cX12_flaresOf 2 = .ok (.iconst 1, 1) := by decide +kernel
theorem dX12_flaresOf_3 : decode cX12_flaresOf 3 = .ok (.iload_n 2, 1) := by decide +kernel
theorem dX12_flaresOf_4 : decode cX12_flaresOf 4 = .ok (.iconst (-1), 1) := by decide +kernel
theorem dX12_flaresOf_5 : decode cX12_flaresOf 5 = .ok (.ldc2_w 423, 3) := by decide +kernel
theorem dX12_flaresOf_8 : decode cX12_flaresOf 8 = .ok (.invokevirtual 415, 3) := by decide +kernel
theorem dX12_flaresOf_11 : decode cX12_flaresOf 11 = .ok (.iconst 0, 1) := by decide +kernel
theorem dX12_flaresOf_12 : decode cX12_flaresOf 12 = .ok (.bipush 20, 2) := by decide +kernel
theorem dX12_flaresOf_14 : decode cX12_flaresOf 14 = .ok (.invokestatic 419, 3) := by decide +kernel
theorem dX12_flaresOf_17 : decode cX12_flaresOf 17 = .ok (.ireturn, 1) := by decide +kernel
theorem dX12_isBarred_0 : decode cX12_isBarred 0 = .ok (.aload_n 0, 1) := by decide +kernel
theorem dX12_isBarred_1 : decode cX12_isBarred 1 = .ok (.aload_n 0, 1) := by decide +kernel
theorem dX12_isBarred_2 : decode cX12_isBarred 2 = .ok (.getfield 13, 3) := by decide +kernel
theorem dX12_isBarred_5 : decode cX12_isBarred 5 = .ok (.iconst 3, 1) := by decide +kernel
theorem dX12_isBarred_6 : decode cX12_isBarred 6 = .ok (.iaload, 1) := by decide +kernel
theorem dX12_isBarred_7 : decode cX12_isBarred 7 = .ok (.iconst 3, 1) := by decide +kernel
theorem dX12_isBarred_8 : decode cX12_isBarred 8 = .ok (.iload_n 1, 1) := by decide +kernel
theorem dX12_isBarred_9 : decode cX12_isBarred 9 = .ok (.iconst (-1), 1) := by decide +kernel
theorem dX12_isBarred_10 : decode cX12_isBarred 10 = .ok (.lconst 0, 1) := by decide +kernel
theorem dX12_isBarred_11 : decode cX12_isBarred 11 = .ok (.invokevirtual 415, 3) := by decide +kernel
theorem dX12_isBarred_14 : decode cX12_isBarred 14 = .ok (.lconst 1, 1) := by decide +kernel
theorem dX12_isBarred_15 : decode cX12_isBarred 15 = .ok (.lcmp, 1) := by decide +kernel
theorem dX12_isBarred_16 : decode cX12_isBarred 16 = .ok (.ifCond .ne 7, 3) := by decide +kernel
theorem dX12_isBarred_23 : decode cX12_isBarred 23 = .ok (.iconst 0, 1) := by decide +kernel
theorem dX12_isBarred_24 : decode cX12_isBarred 24 = .ok (.ireturn, 1) := by decide +kernel
theorem dX12_isBarred_19 : decode cX12_isBarred 19 = .ok (.iconst 1, 1) := by decide +kernel
theorem dX12_isBarred_20 : decode cX12_isBarred 20 = .ok (.goto 4, 3) := by decide +kernel
theorem dX12_of_0 : decode cX12_of 0 = .ok (.aload_n 0, 1) := by decide +kernel
theorem dX12_of_1 : decode cX12_of 1 = .ok (.iconst 0, 1) := by decide +kernel
theorem dX12_of_2 : decode cX12_of 2 = .ok (.putfield 158, 3) := by decide +kernel
theorem dX12_of_5 : decode cX12_of 5 = .ok (.aload_n 0, 1) := by decide +kernel
theorem dX12_of_6 : decode cX12_of 6 = .ok (.iload_n 1, 1) := by decide +kernel
theorem dX12_of_7 : decode cX12_of 7 = .ok (.invokevirtual 197, 3) := by decide +kernel
theorem dX12_of_10 : decode cX12_of 10 = .ok (.ifCond .ne 5, 3) := by decide +kernel
theorem dX12_of_15 : decode cX12_of 15 = .ok (.iload_n 2, 1) := by decide +kernel
theorem dX12_of_16 : decode cX12_of 16 = .ok (.tableswitch 182 0 10 #[60, 70, 80, 90, 100, 110, 120, 130, 144, 156, 168], 60) := by decide +kernel
theorem dX12_of_76 : decode cX12_of 76 = .ok (.aload_n 0, 1) := by decide +kernel
theorem dX12_of_77 : decode cX12_of 77 = .ok (.getfield 13, 3) := by decide +kernel
theorem dX12_of_80 : decode cX12_of 80 = .ok (.bipush 35, 2) := by decide +kernel
theorem dX12_of_82 : decode cX12_of 82 = .ok (.iload_n 1, 1) := by decide +kernel
theorem dX12_of_83 : decode cX12_of 83 = .ok (.iadd, 1) := by decide +kernel
theorem dX12_of_84 : decode cX12_of 84 = .ok (.iaload, 1) := by decide +kernel
theorem dX12_of_85 : decode cX12_of 85 = .ok (.ireturn, 1) := by decide +kernel
theorem dX12_of_86 : decode cX12_of 86 = .ok (.aload_n 0, 1) := by decide +kernel
theorem dX12_of_87 : decode cX12_of 87 = .ok (.getfield 13, 3) := by decide +kernel
theorem dX12_of_90 : decode cX12_of 90 = .ok (.bipush 43, 2) := by decide +kernel
theorem dX12_of_92 : decode cX12_of 92 = .ok (.iload_n 1, 1) := by decide +kernel
theorem dX12_of_93 : decode cX12_of 93 = .ok (.iadd, 1) := by decide +kernel
theorem dX12_of_94 : decode cX12_of 94 = .ok (.iaload, 1) := by decide +kernel
theorem dX12_of_95 : decode cX12_of 95 = .ok (.ireturn, 1) := by decide +kernel
theorem dX12_of_96 : decode cX12_of 96 = .ok (.aload_n 0, 1) := by decide +kernel
theorem dX12_of_97 : decode cX12_of 97 = .ok (.getfield 13, 3) := by decide +kernel
theorem dX12_of_100 : decode cX12_of 100 = .ok (.bipush 19, 2) := by decide +kernel
theorem dX12_of_102 : decode cX12_of 102 = .ok (.iload_n 1, 1) := by decide +kernel
theorem dX12_of_103 : decode cX12_of 103 = .ok (.iadd, 1) := by decide +kernel
theorem dX12_of_104 : decode cX12_of 104 = .ok (.iaload, 1) := by decide +kernel
theorem dX12_of_105 : decode cX12_of 105 = .ok (.ireturn, 1) := by decide +kernel
theorem dX12_of_106 : decode cX12_of 106 = .ok (.aload_n 0, 1) := by decide +kernel
theorem dX12_of_107 : decode cX12_of 107 = .ok (.getfield 13, 3) := by decide +kernel
theorem dX12_of_110 : decode cX12_of 110 = .ok (.bipush 51, 2) := by decide +kernel
theorem dX12_of_112 : decode cX12_of 112 = .ok (.iload_n 1, 1) := by decide +kernel
theorem dX12_of_113 : decode cX12_of 113 = .ok (.iadd, 1) := by decide +kernel
theorem dX12_of_114 : decode cX12_of 114 = .ok (.iaload, 1) := by decide +kernel
theorem dX12_of_115 : decode cX12_of 115 = .ok (.ireturn, 1) := by decide +kernel
theorem dX12_of_116 : decode cX12_of 116 = .ok (.aload_n 0, 1) := by decide +kernel
theorem dX12_of_117 : decode cX12_of 117 = .ok (.getfield 13, 3) := by decide +kernel
theorem dX12_of_120 : decode cX12_of 120 = .ok (.bipush 59, 2) := by decide +kernel
theorem dX12_of_122 : decode cX12_of 122 = .ok (.iload_n 1, 1) := by decide +kernel
theorem dX12_of_123 : decode cX12_of 123 = .ok (.iadd, 1) := by decide +kernel
theorem dX12_of_124 : decode cX12_of 124 = .ok (.iaload, 1) := by decide +kernel
theorem dX12_of_125 : decode cX12_of 125 = .ok (.ireturn, 1) := by decide +kernel
theorem dX12_of_126 : decode cX12_of 126 = .ok (.aload_n 0, 1) := by decide +kernel
theorem dX12_of_127 : decode cX12_of 127 = .ok (.getfield 13, 3) := by decide +kernel
theorem dX12_of_130 : decode cX12_of 130 = .ok (.bipush 11, 2) := by decide +kernel
theorem dX12_of_132 : decode cX12_of 132 = .ok (.iload_n 1, 1) := by decide +kernel
theorem dX12_of_133 : decode cX12_of 133 = .ok (.iadd, 1) := by decide +kernel
theorem dX12_of_134 : decode cX12_of 134 = .ok (.iaload, 1) := by decide +kernel
theorem dX12_of_135 : decode cX12_of 135 = .ok (.ireturn, 1) := by decide +kernel
theorem dX12_of_136 : decode cX12_of 136 = .ok (.aload_n 0, 1) := by decide +kernel
theorem dX12_of_137 : decode cX12_of 137 = .ok (.getfield 13, 3) := by decide +kernel
theorem dX12_of_140 : decode cX12_of 140 = .ok (.bipush 27, 2) := by decide +kernel
theorem dX12_of_142 : decode cX12_of 142 = .ok (.iload_n 1, 1) := by decide +kernel
theorem dX12_of_143 : decode cX12_of 143 = .ok (.iadd, 1) := by decide +kernel
theorem dX12_of_144 : decode cX12_of 144 = .ok (.iaload, 1) := by decide +kernel
theorem dX12_of_145 : decode cX12_of 145 = .ok (.ireturn, 1) := by decide +kernel
theorem dX12_of_146 : decode cX12_of 146 = .ok (.aload_n 0, 1) := by decide +kernel
theorem dX12_of_147 : decode cX12_of 147 = .ok (.iload_n 1, 1) := by decide +kernel
theorem dX12_of_148 : decode cX12_of 148 = .ok (.invokevirtual 185, 3) := by decide +kernel
theorem dX12_of_151 : decode cX12_of 151 = .ok (.ifCond .eq 7, 3) := by decide +kernel
theorem dX12_of_158 : decode cX12_of 158 = .ok (.iconst 0, 1) := by decide +kernel
theorem dX12_of_159 : decode cX12_of 159 = .ok (.ireturn, 1) := by decide +kernel
theorem dX12_of_154 : decode cX12_of 154 = .ok (.iconst 1, 1) := by decide +kernel
theorem dX12_of_155 : decode cX12_of 155 = .ok (.goto 4, 3) := by decide +kernel
theorem dX12_of_160 : decode cX12_of 160 = .ok (.aload_n 0, 1) := by decide +kernel
theorem dX12_of_161 : decode cX12_of 161 = .ok (.aload_n 0, 1) := by decide +kernel
theorem dX12_of_162 : decode cX12_of 162 = .ok (.getfield 13, 3) := by decide +kernel
theorem dX12_of_165 : decode cX12_of 165 = .ok (.iconst 3, 1) := by decide +kernel
theorem dX12_of_166 : decode cX12_of 166 = .ok (.iaload, 1) := by decide +kernel
theorem dX12_of_167 : decode cX12_of 167 = .ok (.iload_n 1, 1) := by decide +kernel
theorem dX12_of_168 : decode cX12_of 168 = .ok (.invokevirtual 200, 3) := by decide +kernel
theorem dX12_of_171 : decode cX12_of 171 = .ok (.ireturn, 1) := by decide +kernel
theorem dX12_of_172 : decode cX12_of 172 = .ok (.aload_n 0, 1) := by decide +kernel
theorem dX12_of_173 : decode cX12_of 173 = .ok (.aload_n 0, 1) := by decide +kernel
theorem dX12_of_174 : decode cX12_of 174 = .ok (.getfield 13, 3) := by decide +kernel
theorem dX12_of_177 : decode cX12_of 177 = .ok (.iconst 3, 1) := by decide +kernel
theorem dX12_of_178 : decode cX12_of 178 = .ok (.iaload, 1) := by decide +kernel
theorem dX12_of_179 : decode cX12_of 179 = .ok (.iload_n 1, 1) := by decide +kernel
theorem dX12_of_180 : decode cX12_of 180 = .ok (.invokevirtual 204, 3) := by decide +kernel
theorem dX12_of_183 : decode cX12_of 183 = .ok (.ireturn, 1) := by decide +kernel
theorem dX12_of_184 : decode cX12_of 184 = .ok (.aload_n 0, 1) := by decide +kernel
theorem dX12_of_185 : decode cX12_of 185 = .ok (.iload_n 1, 1) := by decide +kernel
theorem dX12_of_186 : decode cX12_of 186 = .ok (.invokevirtual 207, 3) := by decide +kernel
theorem dX12_of_189 : decode cX12_of 189 = .ok (.ifCond .eq 7, 3) := by decide +kernel
theorem dX12_of_196 : decode cX12_of 196 = .ok (.iconst 0, 1) := by decide +kernel
theorem dX12_of_197 : decode cX12_of 197 = .ok (.ireturn, 1) := by decide +kernel
theorem dX12_of_192 : decode cX12_of 192 = .ok (.iconst 1, 1) := by decide +kernel
theorem dX12_of_193 : decode cX12_of 193 = .ok (.goto 4, 3) := by decide +kernel
theorem dX12_of_198 : decode cX12_of 198 = .ok (.iconst (-1), 1) := by decide +kernel
theorem dX12_of_199 : decode cX12_of 199 = .ok (.ireturn, 1) := by decide +kernel
theorem dX12_of_13 : decode cX12_of 13 = .ok (.iconst (-1), 1) := by decide +kernel
theorem dX12_of_14 : decode cX12_of 14 = .ok (.ireturn, 1) := by decide +kernel
theorem dX12_discords_0 : decode cX12_discords 0 = .ok (.iconst 0, 1) := by decide +kernel
theorem dX12_discords_1 : decode cX12_discords 1 = .ok (.istore_n 1, 1) := by decide +kernel
theorem dX12_discords_2 : decode cX12_discords 2 = .ok (.iconst 0, 1) := by decide +kernel
theorem dX12_discords_3 : decode cX12_discords 3 = .ok (.istore_n 2, 1) := by decide +kernel
theorem dX12_discords_4 : decode cX12_discords 4 = .ok (.iload_n 2, 1) := by decide +kernel
theorem dX12_discords_5 : decode cX12_discords 5 = .ok (.aload_n 0, 1) := by decide +kernel
theorem dX12_discords_6 : decode cX12_discords 6 = .ok (.getfield 13, 3) := by decide +kernel
theorem dX12_discords_9 : decode cX12_discords 9 = .ok (.iconst 0, 1) := by decide +kernel
theorem dX12_discords_10 : decode cX12_discords 10 = .ok (.iaload, 1) := by decide +kernel
theorem dX12_discords_11 : decode cX12_discords 11 = .ok (.if_icmp .ge 122, 3) := by decide +kernel
theorem dX12_discords_14 : decode cX12_discords 14 = .ok (.iload_n 2, 1) := by decide +kernel
theorem dX12_discords_15 : decode cX12_discords 15 = .ok (.iconst 1, 1) := by decide +kernel
theorem dX12_discords_16 : decode cX12_discords 16 = .ok (.iadd, 1) := by decide +kernel
theorem dX12_discords_17 : decode cX12_discords 17 = .ok (.istore_n 3, 1) := by decide +kernel
theorem dX12_discords_18 : decode cX12_discords 18 = .ok (.iload_n 3, 1) := by decide +kernel
theorem dX12_discords_19 : decode cX12_discords 19 = .ok (.aload_n 0, 1) := by decide +kernel
theorem dX12_discords_20 : decode cX12_discords 20 = .ok (.getfield 13, 3) := by decide +kernel
theorem dX12_discords_23 : decode cX12_discords 23 = .ok (.iconst 0, 1) := by decide +kernel
theorem dX12_discords_24 : decode cX12_discords 24 = .ok (.iaload, 1) := by decide +kernel
theorem dX12_discords_25 : decode cX12_discords 25 = .ok (.if_icmp .ge 102, 3) := by decide +kernel
theorem dX12_discords_28 : decode cX12_discords 28 = .ok (.aload_n 0, 1) := by decide +kernel
theorem dX12_discords_29 : decode cX12_discords 29 = .ok (.iload_n 2, 1) := by decide +kernel
theorem dX12_discords_30 : decode cX12_discords 30 = .ok (.invokevirtual 185, 3) := by decide +kernel
theorem dX12_discords_33 : decode cX12_discords 33 = .ok (.ifCond .eq 88, 3) := by decide +kernel
theorem dX12_discords_36 : decode cX12_discords 36 = .ok (.aload_n 0, 1) := by decide +kernel
theorem dX12_discords_37 : decode cX12_discords 37 = .ok (.iload_n 3, 1) := by decide +kernel
theorem dX12_discords_38 : decode cX12_discords 38 = .ok (.invokevirtual 185, 3) := by decide +kernel
theorem dX12_discords_41 : decode cX12_discords 41 = .ok (.ifCond .eq 80, 3) := by decide +kernel
theorem dX12_discords_44 : decode cX12_discords 44 = .ok (.aload_n 0, 1) := by decide +kernel
theorem dX12_discords_45 : decode cX12_discords 45 = .ok (.getfield 13, 3) := by decide +kernel
theorem dX12_discords_48 : decode cX12_discords 48 = .ok (.bipush 43, 2) := by decide +kernel
theorem dX12_discords_50 : decode cX12_discords 50 = .ok (.iload_n 2, 1) := by decide +kernel
theorem dX12_discords_51 : decode cX12_discords 51 = .ok (.iadd, 1) := by decide +kernel
theorem dX12_discords_52 : decode cX12_discords 52 = .ok (.iaload, 1) := by decide +kernel
theorem dX12_discords_53 : decode cX12_discords 53 = .ok (.aload_n 0, 1) := by decide +kernel
theorem dX12_discords_54 : decode cX12_discords 54 = .ok (.getfield 13, 3) := by decide +kernel
theorem dX12_discords_57 : decode cX12_discords 57 = .ok (.bipush 43, 2) := by decide +kernel
theorem dX12_discords_59 : decode cX12_discords 59 = .ok (.iload_n 3, 1) := by decide +kernel
theorem dX12_discords_60 : decode cX12_discords 60 = .ok (.iadd, 1) := by decide +kernel
theorem dX12_discords_61 : decode cX12_discords 61 = .ok (.iaload, 1) := by decide +kernel
theorem dX12_discords_62 : decode cX12_discords 62 = .ok (.if_icmp .ne 59, 3) := by decide +kernel
theorem dX12_discords_65 : decode cX12_discords 65 = .ok (.aload_n 0, 1) := by decide +kernel
theorem dX12_discords_66 : decode cX12_discords 66 = .ok (.getfield 13, 3) := by decide +kernel
theorem dX12_discords_69 : decode cX12_discords 69 = .ok (.bipush 35, 2) := by decide +kernel
theorem dX12_discords_71 : decode cX12_discords 71 = .ok (.iload_n 2, 1) := by decide +kernel
theorem dX12_discords_72 : decode cX12_discords 72 = .ok (.iadd, 1) := by decide +kernel
theorem dX12_discords_73 : decode cX12_discords 73 = .ok (.iaload, 1) := by decide +kernel
theorem dX12_discords_74 : decode cX12_discords 74 = .ok (.aload_n 0, 1) := by decide +kernel
theorem dX12_discords_75 : decode cX12_discords 75 = .ok (.getfield 13, 3) := by decide +kernel
theorem dX12_discords_78 : decode cX12_discords 78 = .ok (.bipush 35, 2) := by decide +kernel
theorem dX12_discords_80 : decode cX12_discords 80 = .ok (.iload_n 3, 1) := by decide +kernel
theorem dX12_discords_81 : decode cX12_discords 81 = .ok (.iadd, 1) := by decide +kernel
theorem dX12_discords_82 : decode cX12_discords 82 = .ok (.iaload, 1) := by decide +kernel
theorem dX12_discords_83 : decode cX12_discords 83 = .ok (.invokestatic 425, 3) := by decide +kernel
theorem dX12_discords_86 : decode cX12_discords 86 = .ok (.ifCond .eq 35, 3) := by decide +kernel
theorem dX12_discords_89 : decode cX12_discords 89 = .ok (.iload_n 1, 1) := by decide +kernel
theorem dX12_discords_90 : decode cX12_discords 90 = .ok (.aload_n 0, 1) := by decide +kernel
theorem dX12_discords_91 : decode cX12_discords 91 = .ok (.aload_n 0, 1) := by decide +kernel
theorem dX12_discords_92 : decode cX12_discords 92 = .ok (.getfield 13, 3) := by decide +kernel
theorem dX12_discords_95 : decode cX12_discords 95 = .ok (.iconst 3, 1) := by decide +kernel
theorem dX12_discords_96 : decode cX12_discords 96 = .ok (.iaload, 1) := by decide +kernel
theorem dX12_discords_97 : decode cX12_discords 97 = .ok (.iconst 2, 1) := by decide +kernel
theorem dX12_discords_98 : decode cX12_discords 98 = .ok (.iload_n 2, 1) := by decide +kernel
theorem dX12_discords_99 : decode cX12_discords 99 = .ok (.aload_n 0, 1) := by decide +kernel
theorem dX12_discords_100 : decode cX12_discords 100 = .ok (.getfield 13, 3) := by decide +kernel
theorem dX12_discords_103 : decode cX12_discords 103 = .ok (.bipush 35, 2) := by decide +kernel
theorem dX12_discords_105 : decode cX12_discords 105 = .ok (.iload_n 3, 1) := by decide +kernel
theorem dX12_discords_106 : decode cX12_discords 106 = .ok (.iadd, 1) := by decide +kernel
theorem dX12_discords_107 : decode cX12_discords 107 = .ok (.iaload, 1) := by decide +kernel
theorem dX12_discords_108 : decode cX12_discords 108 = .ok (.lconst 1, 1) := by decide +kernel
theorem dX12_discords_109 : decode cX12_discords 109 = .ok (.invokevirtual 415, 3) := by decide +kernel
theorem dX12_discords_112 : decode cX12_discords 112 = .ok (.iconst 0, 1) := by decide +kernel
theorem dX12_discords_113 : decode cX12_discords 113 = .ok (.sipush 999, 3) := by decide +kernel
theorem dX12_discords_116 : decode cX12_discords 116 = .ok (.invokestatic 419, 3) := by decide +kernel
theorem dX12_discords_119 : decode cX12_discords 119 = .ok (.iadd, 1) := by decide +kernel
theorem dX12_discords_120 : decode cX12_discords 120 = .ok (.istore_n 1, 1) := by decide +kernel
theorem dX12_discords_121 : decode cX12_discords 121 = .ok (.iinc 3 1, 3) := by decide +kernel
theorem dX12_discords_124 : decode cX12_discords 124 = .ok (.goto (-106), 3) := by decide +kernel
theorem dX12_discords_127 : decode cX12_discords 127 = .ok (.iinc 2 1, 3) := by decide +kernel
theorem dX12_discords_130 : decode cX12_discords 130 = .ok (.goto (-126), 3) := by decide +kernel
theorem dX12_discords_133 : decode cX12_discords 133 = .ok (.iload_n 1, 1) := by decide +kernel
theorem dX12_discords_134 : decode cX12_discords 134 = .ok (.ireturn, 1) := by decide +kernel
theorem dX12_discord_0 : decode cX12_discord 0 = .ok (.aload_n 0, 1) := by decide +kernel
theorem dX12_discord_1 : decode cX12_discord 1 = .ok (.iconst 0, 1) := by decide +kernel
theorem dX12_discord_2 : decode cX12_discord 2 = .ok (.putfield 158, 3) := by decide +kernel
theorem dX12_discord_5 : decode cX12_discord 5 = .ok (.aload_n 0, 1) := by decide +kernel
theorem dX12_discord_6 : decode cX12_discord 6 = .ok (.invokevirtual 428, 3) := by decide +kernel
theorem dX12_discord_9 : decode cX12_discord 9 = .ok (.ireturn, 1) := by decide +kernel
theorem dX12_isMet_0 : decode cX12_isMet 0 = .ok (.aload_n 0, 1) := by decide +kernel
theorem dX12_isMet_1 : decode cX12_isMet 1 = .ok (.getfield 13, 3) := by decide +kernel
theorem dX12_isMet_4 : decode cX12_isMet 4 = .ok (.bipush 67, 2) := by decide +kernel
theorem dX12_isMet_6 : decode cX12_isMet 6 = .ok (.aload_n 0, 1) := by decide +kernel
theorem dX12_isMet_7 : decode cX12_isMet 7 = .ok (.iconst 0, 1) := by decide +kernel
theorem dX12_isMet_8 : decode cX12_isMet 8 = .ok (.invokevirtual 182, 3) := by decide +kernel
theorem dX12_isMet_11 : decode cX12_isMet 11 = .ok (.iadd, 1) := by decide +kernel
theorem dX12_isMet_12 : decode cX12_isMet 12 = .ok (.iaload, 1) := by decide +kernel
theorem dX12_isMet_13 : decode cX12_isMet 13 = .ok (.aload_n 0, 1) := by decide +kernel
theorem dX12_isMet_14 : decode cX12_isMet 14 = .ok (.invokevirtual 431, 3) := by decide +kernel
theorem dX12_isMet_17 : decode cX12_isMet 17 = .ok (.iconst (-1), 1) := by decide +kernel
theorem dX12_isMet_18 : decode cX12_isMet 18 = .ok (.ixor, 1) := by decide +kernel
theorem dX12_isMet_19 : decode cX12_isMet 19 = .ok (.iand, 1) := by decide +kernel
theorem dX12_isMet_20 : decode cX12_isMet 20 = .ok (.ifCond .ne 7, 3) := by decide +kernel
theorem dX12_isMet_27 : decode cX12_isMet 27 = .ok (.iconst 0, 1) := by decide +kernel
theorem dX12_isMet_28 : decode cX12_isMet 28 = .ok (.ireturn, 1) := by decide +kernel
theorem dX12_isMet_23 : decode cX12_isMet 23 = .ok (.iconst 1, 1) := by decide +kernel
theorem dX12_isMet_24 : decode cX12_isMet 24 = .ok (.goto 4, 3) := by decide +kernel
theorem dX12_sounds_0 : decode cX12_sounds 0 = .ok (.aload_n 0, 1) := by decide +kernel
theorem dX12_sounds_1 : decode cX12_sounds 1 = .ok (.iconst 0, 1) := by decide +kernel
theorem dX12_sounds_2 : decode cX12_sounds 2 = .ok (.putfield 158, 3) := by decide +kernel
theorem dX12_sounds_5 : decode cX12_sounds 5 = .ok (.iload_n 1, 1) := by decide +kernel
theorem dX12_sounds_6 : decode cX12_sounds 6 = .ok (.i2l, 1) := by decide +kernel
theorem dX12_sounds_7 : decode cX12_sounds 7 = .ok (.lconst 0, 1) := by decide +kernel
theorem dX12_sounds_8 : decode cX12_sounds 8 = .ok (.ldc2_w 434, 3) := by decide +kernel
theorem dX12_sounds_11 : decode cX12_sounds 11 = .ok (.invokestatic 178, 3) := by decide +kernel
theorem dX12_sounds_14 : decode cX12_sounds 14 = .ok (.ifCond .ne 5, 3) := by decide +kernel
theorem dX12_sounds_19 : decode cX12_sounds 19 = .ok (.aload_n 0, 1) := by decide +kernel
theorem dX12_sounds_20 : decode cX12_sounds 20 = .ok (.invokevirtual 431, 3) := by decide +kernel
theorem dX12_sounds_23 : decode cX12_sounds 23 = .ok (.istore_n 2, 1) := by decide +kernel
theorem dX12_sounds_24 : decode cX12_sounds 24 = .ok (.iconst 0, 1) := by decide +kernel
theorem dX12_sounds_25 : decode cX12_sounds 25 = .ok (.istore_n 3, 1) := by decide +kernel
theorem dX12_sounds_26 : decode cX12_sounds 26 = .ok (.iconst 0, 1) := by decide +kernel
theorem dX12_sounds_27 : decode cX12_sounds 27 = .ok (.istore 4, 2) := by decide +kernel
theorem dX12_sounds_29 : decode cX12_sounds 29 = .ok (.iload 4, 2) := by decide +kernel
theorem dX12_sounds_31 : decode cX12_sounds 31 = .ok (.bipush 7, 2) := by decide +kernel
theorem dX12_sounds_33 : decode cX12_sounds 33 = .ok (.if_icmp .ge 54, 3) := by decide +kernel
theorem dX12_sounds_36 : decode cX12_sounds 36 = .ok (.iload_n 3, 1) := by decide +kernel
theorem dX12_sounds_37 : decode cX12_sounds 37 = .ok (.iload_n 2, 1) := by decide +kernel
theorem dX12_sounds_38 : decode cX12_sounds 38 = .ok (.iload 4, 2) := by decide +kernel
theorem dX12_sounds_40 : decode cX12_sounds 40 = .ok (.invokestatic 436, 3) := by decide +kernel
theorem dX12_sounds_43 : decode cX12_sounds 43 = .ok (.ifCond .eq 35, 3) := by decide +kernel
theorem dX12_sounds_78 : decode cX12_sounds 78 = .ok (.iconst 0, 1) := by decide +kernel
theorem dX12_sounds_79 : decode cX12_sounds 79 = .ok (.iadd, 1) := by decide +kernel
theorem dX12_sounds_80 : decode cX12_sounds 80 = .ok (.istore_n 3, 1) := by decide +kernel
theorem dX12_sounds_81 : decode cX12_sounds 81 = .ok (.iinc 4 1, 3) := by decide +kernel
theorem dX12_sounds_84 : decode cX12_sounds 84 = .ok (.goto (-55), 3) := by decide +kernel
theorem dX12_sounds_46 : decode cX12_sounds 46 = .ok (.iload_n 2, 1) := by decide +kernel
theorem dX12_sounds_47 : decode cX12_sounds 47 = .ok (.iload 4, 2) := by decide +kernel
theorem dX12_sounds_49 : decode cX12_sounds 49 = .ok (.iconst 2, 1) := by decide +kernel
theorem dX12_sounds_50 : decode cX12_sounds 50 = .ok (.iadd, 1) := by decide +kernel
theorem dX12_sounds_51 : decode cX12_sounds 51 = .ok (.bipush 7, 2) := by decide +kernel
theorem dX12_sounds_53 : decode cX12_sounds 53 = .ok (.irem, 1) := by decide +kernel
theorem dX12_sounds_54 : decode cX12_sounds 54 = .ok (.invokestatic 436, 3) := by decide +kernel
theorem dX12_sounds_57 : decode cX12_sounds 57 = .ok (.ifCond .eq 21, 3) := by decide +kernel
theorem dX12_sounds_60 : decode cX12_sounds 60 = .ok (.iload_n 2, 1) := by decide +kernel
theorem dX12_sounds_61 : decode cX12_sounds 61 = .ok (.iload 4, 2) := by decide +kernel
theorem dX12_sounds_63 : decode cX12_sounds 63 = .ok (.iconst 4, 1) := by decide +kernel
theorem dX12_sounds_64 : decode cX12_sounds 64 = .ok (.iadd, 1) := by decide +kernel
theorem dX12_sounds_65 : decode cX12_sounds 65 = .ok (.bipush 7, 2) := by decide +kernel
theorem dX12_sounds_67 : decode cX12_sounds 67 = .ok (.irem, 1) := by decide +kernel
theorem dX12_sounds_68 : decode cX12_sounds 68 = .ok (.invokestatic 436, 3) := by decide +kernel
theorem dX12_sounds_71 : decode cX12_sounds 71 = .ok (.ifCond .eq 7, 3) := by decide +kernel
theorem dX12_sounds_74 : decode cX12_sounds 74 = .ok (.iconst 1, 1) := by decide +kernel
theorem dX12_sounds_75 : decode cX12_sounds 75 = .ok (.goto 4, 3) := by decide +kernel
theorem dX12_sounds_87 : decode cX12_sounds 87 = .ok (.iload_n 1, 1) := by decide +kernel
theorem dX12_sounds_88 : decode cX12_sounds 88 = .ok (.ifCond .ne 7, 3) := by decide +kernel
theorem dX12_sounds_95 : decode cX12_sounds 95 = .ok (.iload_n 1, 1) := by decide +kernel
theorem dX12_sounds_96 : decode cX12_sounds 96 = .ok (.iconst 1, 1) := by decide +kernel
theorem dX12_sounds_97 : decode cX12_sounds 97 = .ok (.if_icmp .ne 7, 3) := by decide +kernel
theorem dX12_sounds_104 : decode cX12_sounds 104 = .ok (.aload_n 0, 1) := by decide +kernel
theorem dX12_sounds_105 : decode cX12_sounds 105 = .ok (.invokevirtual 439, 3) := by decide +kernel
theorem dX12_sounds_108 : decode cX12_sounds 108 = .ok (.ifCond .eq 7, 3) := by decide +kernel
theorem dX12_sounds_115 : decode cX12_sounds 115 = .ok (.iconst 0, 1) := by decide +kernel
theorem dX12_sounds_116 : decode cX12_sounds 116 = .ok (.ireturn, 1) := by decide +kernel
theorem dX12_sounds_111 : decode cX12_sounds 111 = .ok (.iconst 1, 1) := by decide +kernel
theorem dX12_sounds_112 : decode cX12_sounds 112 = .ok (.goto 4, 3) := by decide +kernel
theorem dX12_sounds_100 : decode cX12_sounds 100 = .ok (.iload_n 3, 1) := by decide +kernel
theorem dX12_sounds_101 : decode cX12_sounds 101 = .ok (.goto 15, 3) := by decide +kernel
theorem dX12_sounds_91 : decode cX12_sounds 91 = .ok (.iload_n 2, 1) := by decide +kernel
theorem dX12_sounds_92 : decode cX12_sounds 92 = .ok (.goto 24, 3) := by decide +kernel
theorem dX12_sounds_17 : decode cX12_sounds 17 = .ok (.iconst (-1), 1) := by decide +kernel
theorem dX12_sounds_18 : decode cX12_sounds 18 = .ok (.ireturn, 1) := by decide +kernel
theorem dX12_flare_0 : decode cX12_flare 0 = .ok (.aload_n 0, 1) := by decide +kernel
theorem dX12_flare_1 : decode cX12_flare 1 = .ok (.getfield 13, 3) := by decide +kernel
theorem dX12_flare_4 : decode cX12_flare 4 = .ok (.bipush 11, 2) := by decide +kernel
theorem dX12_flare_6 : decode cX12_flare 6 = .ok (.iload_n 2, 1) := by decide +kernel
theorem dX12_flare_7 : decode cX12_flare 7 = .ok (.iadd, 1) := by decide +kernel
theorem dX12_flare_8 : decode cX12_flare 8 = .ok (.aload_n 0, 1) := by decide +kernel
theorem dX12_flare_9 : decode cX12_flare 9 = .ok (.getfield 13, 3) := by decide +kernel
theorem dX12_flare_12 : decode cX12_flare 12 = .ok (.bipush 11, 2) := by decide +kernel
theorem dX12_flare_14 : decode cX12_flare 14 = .ok (.iload_n 2, 1) := by decide +kernel
theorem dX12_flare_15 : decode cX12_flare 15 = .ok (.iadd, 1) := by decide +kernel
theorem dX12_flare_16 : decode cX12_flare 16 = .ok (.iaload, 1) := by decide +kernel
theorem dX12_flare_17 : decode cX12_flare 17 = .ok (.aload_n 0, 1) := by decide +kernel
theorem dX12_flare_18 : decode cX12_flare 18 = .ok (.iload_n 1, 1) := by decide +kernel
theorem dX12_flare_19 : decode cX12_flare 19 = .ok (.iload_n 2, 1) := by decide +kernel
theorem dX12_flare_20 : decode cX12_flare 20 = .ok (.invokevirtual 204, 3) := by decide +kernel
theorem dX12_flare_23 : decode cX12_flare 23 = .ok (.iadd, 1) := by decide +kernel
theorem dX12_flare_24 : decode cX12_flare 24 = .ok (.i2l, 1) := by decide +kernel
theorem dX12_flare_25 : decode cX12_flare 25 = .ok (.iconst 0, 1) := by decide +kernel
theorem dX12_flare_26 : decode cX12_flare 26 = .ok (.bipush 20, 2) := by decide +kernel
theorem dX12_flare_28 : decode cX12_flare 28 = .ok (.invokestatic 419, 3) := by decide +kernel
theorem dX12_flare_31 : decode cX12_flare 31 = .ok (.iastore, 1) := by decide +kernel
theorem dX12_flare_32 : decode cX12_flare 32 = .ok (.return_, 1) := by decide +kernel
theorem dX12_canStoke_0 : decode cX12_canStoke 0 = .ok (.aload_n 0, 1) := by decide +kernel
theorem dX12_canStoke_1 : decode cX12_canStoke 1 = .ok (.getfield 13, 3) := by decide +kernel
theorem dX12_canStoke_4 : decode cX12_canStoke 4 = .ok (.bipush 19, 2) := by decide +kernel
theorem dX12_canStoke_6 : decode cX12_canStoke 6 = .ok (.iload_n 1, 1) := by decide +kernel
theorem dX12_canStoke_7 : decode cX12_canStoke 7 = .ok (.iadd, 1) := by decide +kernel
theorem dX12_canStoke_8 : decode cX12_canStoke 8 = .ok (.iaload, 1) := by decide +kernel
theorem dX12_canStoke_9 : decode cX12_canStoke 9 = .ok (.ifCond .le 15, 3) := by decide +kernel
theorem dX12_canStoke_12 : decode cX12_canStoke 12 = .ok (.aload_n 0, 1) := by decide +kernel
theorem dX12_canStoke_13 : decode cX12_canStoke 13 = .ok (.iload_n 1, 1) := by decide +kernel
theorem dX12_canStoke_14 : decode cX12_canStoke 14 = .ok (.invokevirtual 207, 3) := by decide +kernel
theorem dX12_canStoke_17 : decode cX12_canStoke 17 = .ok (.ifCond .ne 7, 3) := by decide +kernel
theorem dX12_canStoke_20 : decode cX12_canStoke 20 = .ok (.iconst 1, 1) := by decide +kernel
theorem dX12_canStoke_21 : decode cX12_canStoke 21 = .ok (.goto 4, 3) := by decide +kernel
theorem dX12_canStoke_25 : decode cX12_canStoke 25 = .ok (.ireturn, 1) := by decide +kernel
theorem dX12_canStoke_24 : decode cX12_canStoke 24 = .ok (.iconst 0, 1) := by decide +kernel
theorem dX12_stokeIt_0 : decode cX12_stokeIt 0 = .ok (.aload_n 0, 1) := by decide +kernel
theorem dX12_stokeIt_1 : decode cX12_stokeIt 1 = .ok (.aload_n 0, 1) := by decide +kernel
theorem dX12_stokeIt_2 : decode cX12_stokeIt 2 = .ok (.getfield 13, 3) := by decide +kernel
theorem dX12_stokeIt_5 : decode cX12_stokeIt 5 = .ok (.iconst 3, 1) := by decide +kernel
theorem dX12_stokeIt_6 : decode cX12_stokeIt 6 = .ok (.iaload, 1) := by decide +kernel
theorem dX12_stokeIt_7 : decode cX12_stokeIt 7 = .ok (.iload_n 1, 1) := by decide +kernel
theorem dX12_stokeIt_8 : decode cX12_stokeIt 8 = .ok (.invokevirtual 442, 3) := by decide +kernel
theorem dX12_stokeIt_11 : decode cX12_stokeIt 11 = .ok (.aload_n 0, 1) := by decide +kernel
theorem dX12_stokeIt_12 : decode cX12_stokeIt 12 = .ok (.getfield 13, 3) := by decide +kernel
theorem dX12_stokeIt_15 : decode cX12_stokeIt 15 = .ok (.bipush 19, 2) := by decide +kernel
theorem dX12_stokeIt_17 : decode cX12_stokeIt 17 = .ok (.iload_n 1, 1) := by decide +kernel
theorem dX12_stokeIt_18 : decode cX12_stokeIt 18 = .ok (.iadd, 1) := by decide +kernel
theorem dX12_stokeIt_19 : decode cX12_stokeIt 19 = .ok (.dup2, 1) := by decide +kernel
theorem dX12_stokeIt_20 : decode cX12_stokeIt 20 = .ok (.iaload, 1) := by decide +kernel
theorem dX12_stokeIt_21 : decode cX12_stokeIt 21 = .ok (.iconst 1, 1) := by decide +kernel
theorem dX12_stokeIt_22 : decode cX12_stokeIt 22 = .ok (.isub, 1) := by decide +kernel
theorem dX12_stokeIt_23 : decode cX12_stokeIt 23 = .ok (.iastore, 1) := by decide +kernel
theorem dX12_stokeIt_24 : decode cX12_stokeIt 24 = .ok (.return_, 1) := by decide +kernel
theorem dX12_stokeNow_0 : decode cX12_stokeNow 0 = .ok (.aload_n 0, 1) := by decide +kernel
theorem dX12_stokeNow_1 : decode cX12_stokeNow 1 = .ok (.iload_n 1, 1) := by decide +kernel
theorem dX12_stokeNow_2 : decode cX12_stokeNow 2 = .ok (.invokevirtual 197, 3) := by decide +kernel
theorem dX12_stokeNow_5 : decode cX12_stokeNow 5 = .ok (.ifCond .ne 6, 3) := by decide +kernel
theorem dX12_stokeNow_11 : decode cX12_stokeNow 11 = .ok (.aload_n 0, 1) := by decide +kernel
theorem dX12_stokeNow_12 : decode cX12_stokeNow 12 = .ok (.iload_n 1, 1) := by decide +kernel
theorem dX12_stokeNow_13 : decode cX12_stokeNow 13 = .ok (.invokevirtual 445, 3) := by decide +kernel
theorem dX12_stokeNow_16 : decode cX12_stokeNow 16 = .ok (.ifCond .ne 6, 3) := by decide +kernel
theorem dX12_stokeNow_22 : decode cX12_stokeNow 22 = .ok (.aload_n 0, 1) := by decide +kernel
theorem dX12_stokeNow_23 : decode cX12_stokeNow 23 = .ok (.iconst 0, 1) := by decide +kernel
theorem dX12_stokeNow_24 : decode cX12_stokeNow 24 = .ok (.invokevirtual 448, 3) := by decide +kernel
theorem dX12_stokeNow_27 : decode cX12_stokeNow 27 = .ok (.aload_n 0, 1) := by decide +kernel
theorem dX12_stokeNow_28 : decode cX12_stokeNow 28 = .ok (.iload_n 1, 1) := by decide +kernel
theorem dX12_stokeNow_29 : decode cX12_stokeNow 29 = .ok (.invokevirtual 451, 3) := by decide +kernel
theorem dX12_stokeNow_32 : decode cX12_stokeNow 32 = .ok (.aload_n 0, 1) := by decide +kernel
theorem dX12_stokeNow_33 : decode cX12_stokeNow 33 = .ok (.getfield 13, 3) := by decide +kernel
theorem dX12_stokeNow_36 : decode cX12_stokeNow 36 = .ok (.bipush 11, 2) := by decide +kernel
theorem dX12_stokeNow_38 : decode cX12_stokeNow 38 = .ok (.iload_n 1, 1) := by decide +kernel
theorem dX12_stokeNow_39 : decode cX12_stokeNow 39 = .ok (.iadd, 1) := by decide +kernel
theorem dX12_stokeNow_40 : decode cX12_stokeNow 40 = .ok (.iaload, 1) := by decide +kernel
theorem dX12_stokeNow_41 : decode cX12_stokeNow 41 = .ok (.ireturn, 1) := by decide +kernel
theorem dX12_stokeNow_19 : decode cX12_stokeNow 19 = .ok (.bipush (-3), 2) := by decide +kernel
theorem dX12_stokeNow_21 : decode cX12_stokeNow 21 = .ok (.ireturn, 1) := by decide +kernel
theorem dX12_stokeNow_8 : decode cX12_stokeNow 8 = .ok (.bipush (-2), 2) := by decide +kernel
theorem dX12_stokeNow_10 : decode cX12_stokeNow 10 = .ok (.ireturn, 1) := by decide +kernel
theorem dX12_dampNow_0 : decode cX12_dampNow 0 = .ok (.iload_n 2, 1) := by decide +kernel
theorem dX12_dampNow_1 : decode cX12_dampNow 1 = .ok (.i2l, 1) := by decide +kernel
theorem dX12_dampNow_2 : decode cX12_dampNow 2 = .ok (.lconst 1, 1) := by decide +kernel
theorem dX12_dampNow_3 : decode cX12_dampNow 3 = .ok (.ldc2_w 217, 3) := by decide +kernel
theorem dX12_dampNow_6 : decode cX12_dampNow 6 = .ok (.invokestatic 178, 3) := by decide +kernel
theorem dX12_dampNow_9 : decode cX12_dampNow 9 = .ok (.ifCond .ne 5, 3) := by decide +kernel
theorem dX12_dampNow_14 : decode cX12_dampNow 14 = .ok (.aload_n 0, 1) := by decide +kernel
theorem dX12_dampNow_15 : decode cX12_dampNow 15 = .ok (.iload_n 1, 1) := by decide +kernel
theorem dX12_dampNow_16 : decode cX12_dampNow 16 = .ok (.invokevirtual 197, 3) := by decide +kernel
theorem dX12_dampNow_19 : decode cX12_dampNow 19 = .ok (.ifCond .ne 6, 3) := by decide +kernel
theorem dX12_dampNow_25 : decode cX12_dampNow 25 = .ok (.aload_n 0, 1) := by decide +kernel
theorem dX12_dampNow_26 : decode cX12_dampNow 26 = .ok (.iconst 1, 1) := by decide +kernel
theorem dX12_dampNow_27 : decode cX12_dampNow 27 = .ok (.invokevirtual 448, 3) := by decide +kernel
theorem dX12_dampNow_30 : decode cX12_dampNow 30 = .ok (.aload_n 0, 1) := by decide +kernel
theorem dX12_dampNow_31 : decode cX12_dampNow 31 = .ok (.getfield 13, 3) := by decide +kernel
theorem dX12_dampNow_34 : decode cX12_dampNow 34 = .ok (.bipush 11, 2) := by decide +kernel
theorem dX12_dampNow_36 : decode cX12_dampNow 36 = .ok (.iload_n 1, 1) := by decide +kernel
theorem dX12_dampNow_37 : decode cX12_dampNow 37 = .ok (.iadd, 1) := by decide +kernel
theorem dX12_dampNow_38 : decode cX12_dampNow 38 = .ok (.aload_n 0, 1) := by decide +kernel
theorem dX12_dampNow_39 : decode cX12_dampNow 39 = .ok (.getfield 13, 3) := by decide +kernel
theorem dX12_dampNow_42 : decode cX12_dampNow 42 = .ok (.bipush 11, 2) := by decide +kernel
theorem dX12_dampNow_44 : decode cX12_dampNow 44 = .ok (.iload_n 1, 1) := by decide +kernel
theorem dX12_dampNow_45 : decode cX12_dampNow 45 = .ok (.iadd, 1) := by decide +kernel
theorem dX12_dampNow_46 : decode cX12_dampNow 46 = .ok (.iaload, 1) := by decide +kernel
theorem dX12_dampNow_47 : decode cX12_dampNow 47 = .ok (.iload_n 2, 1) := by decide +kernel
theorem dX12_dampNow_48 : decode cX12_dampNow 48 = .ok (.isub, 1) := by decide +kernel
theorem dX12_dampNow_49 : decode cX12_dampNow 49 = .ok (.i2l, 1) := by decide +kernel
theorem dX12_dampNow_50 : decode cX12_dampNow 50 = .ok (.iconst 0, 1) := by decide +kernel
theorem dX12_dampNow_51 : decode cX12_dampNow 51 = .ok (.bipush 20, 2) := by decide +kernel
theorem dX12_dampNow_53 : decode cX12_dampNow 53 = .ok (.invokestatic 419, 3) := by decide +kernel
theorem dX12_dampNow_56 : decode cX12_dampNow 56 = .ok (.iastore, 1) := by decide +kernel
theorem dX12_dampNow_57 : decode cX12_dampNow 57 = .ok (.aload_n 0, 1) := by decide +kernel
theorem dX12_dampNow_58 : decode cX12_dampNow 58 = .ok (.getfield 13, 3) := by decide +kernel
theorem dX12_dampNow_61 : decode cX12_dampNow 61 = .ok (.bipush 11, 2) := by decide +kernel
theorem dX12_dampNow_63 : decode cX12_dampNow 63 = .ok (.iload_n 1, 1) := by decide +kernel
theorem dX12_dampNow_64 : decode cX12_dampNow 64 = .ok (.iadd, 1) := by decide +kernel
theorem dX12_dampNow_65 : decode cX12_dampNow 65 = .ok (.iaload, 1) := by decide +kernel
theorem dX12_dampNow_66 : decode cX12_dampNow 66 = .ok (.ireturn, 1) := by decide +kernel
theorem dX12_dampNow_22 : decode cX12_dampNow 22 = .ok (.bipush (-2), 2) := by decide +kernel
theorem dX12_dampNow_24 : decode cX12_dampNow 24 = .ok (.ireturn, 1) := by decide +kernel
theorem dX12_dampNow_12 : decode cX12_dampNow 12 = .ok (.iconst (-1), 1) := by decide +kernel
theorem dX12_dampNow_13 : decode cX12_dampNow 13 = .ok (.ireturn, 1) := by decide +kernel
theorem dX12_buyNow_0 : decode cX12_buyNow 0 = .ok (.iload_n 2, 1) := by decide +kernel
theorem dX12_buyNow_1 : decode cX12_buyNow 1 = .ok (.i2l, 1) := by decide +kernel
theorem dX12_buyNow_2 : decode cX12_buyNow 2 = .ok (.lconst 1, 1) := by decide +kernel
theorem dX12_buyNow_3 : decode cX12_buyNow 3 = .ok (.ldc2_w 193, 3) := by decide +kernel
theorem dX12_buyNow_6 : decode cX12_buyNow 6 = .ok (.invokestatic 178, 3) := by decide +kernel
theorem dX12_buyNow_9 : decode cX12_buyNow 9 = .ok (.ifCond .ne 5, 3) := by decide +kernel
theorem dX12_buyNow_14 : decode cX12_buyNow 14 = .ok (.aload_n 0, 1) := by decide +kernel
theorem dX12_buyNow_15 : decode cX12_buyNow 15 = .ok (.iload_n 1, 1) := by decide +kernel
theorem dX12_buyNow_16 : decode cX12_buyNow 16 = .ok (.invokevirtual 197, 3) := by decide +kernel
theorem dX12_buyNow_19 : decode cX12_buyNow 19 = .ok (.ifCond .ne 6, 3) := by decide +kernel
theorem dX12_buyNow_25 : decode cX12_buyNow 25 = .ok (.aload_n 0, 1) := by decide +kernel
theorem dX12_buyNow_26 : decode cX12_buyNow 26 = .ok (.iconst 2, 1) := by decide +kernel
theorem dX12_buyNow_27 : decode cX12_buyNow 27 = .ok (.invokevirtual 448, 3) := by decide +kernel
theorem dX12_buyNow_30 : decode cX12_buyNow 30 = .ok (.aload_n 0, 1) := by decide +kernel
theorem dX12_buyNow_31 : decode cX12_buyNow 31 = .ok (.getfield 13, 3) := by decide +kernel
theorem dX12_buyNow_34 : decode cX12_buyNow 34 = .ok (.bipush 19, 2) := by decide +kernel
theorem dX12_buyNow_36 : decode cX12_buyNow 36 = .ok (.iload_n 1, 1) := by decide +kernel
theorem dX12_buyNow_37 : decode cX12_buyNow 37 = .ok (.iadd, 1) := by decide +kernel
theorem dX12_buyNow_38 : decode cX12_buyNow 38 = .ok (.aload_n 0, 1) := by decide +kernel
theorem dX12_buyNow_39 : decode cX12_buyNow 39 = .ok (.getfield 13, 3) := by decide +kernel
theorem dX12_buyNow_42 : decode cX12_buyNow 42 = .ok (.bipush 19, 2) := by decide +kernel
theorem dX12_buyNow_44 : decode cX12_buyNow 44 = .ok (.iload_n 1, 1) := by decide +kernel
theorem dX12_buyNow_45 : decode cX12_buyNow 45 = .ok (.iadd, 1) := by decide +kernel
theorem dX12_buyNow_46 : decode cX12_buyNow 46 = .ok (.iaload, 1) := by decide +kernel
theorem dX12_buyNow_47 : decode cX12_buyNow 47 = .ok (.iload_n 2, 1) := by decide +kernel
theorem dX12_buyNow_48 : decode cX12_buyNow 48 = .ok (.iadd, 1) := by decide +kernel
theorem dX12_buyNow_49 : decode cX12_buyNow 49 = .ok (.i2l, 1) := by decide +kernel
theorem dX12_buyNow_50 : decode cX12_buyNow 50 = .ok (.iconst 0, 1) := by decide +kernel
theorem dX12_buyNow_51 : decode cX12_buyNow 51 = .ok (.sipush 999, 3) := by decide +kernel
theorem dX12_buyNow_54 : decode cX12_buyNow 54 = .ok (.invokestatic 419, 3) := by decide +kernel
theorem dX12_buyNow_57 : decode cX12_buyNow 57 = .ok (.iastore, 1) := by decide +kernel
theorem dX12_buyNow_58 : decode cX12_buyNow 58 = .ok (.aload_n 0, 1) := by decide +kernel
theorem dX12_buyNow_59 : decode cX12_buyNow 59 = .ok (.getfield 13, 3) := by decide +kernel
theorem dX12_buyNow_62 : decode cX12_buyNow 62 = .ok (.bipush 19, 2) := by decide +kernel
theorem dX12_buyNow_64 : decode cX12_buyNow 64 = .ok (.iload_n 1, 1) := by decide +kernel
theorem dX12_buyNow_65 : decode cX12_buyNow 65 = .ok (.iadd, 1) := by decide +kernel
theorem dX12_buyNow_66 : decode cX12_buyNow 66 = .ok (.iaload, 1) := by decide +kernel
theorem dX12_buyNow_67 : decode cX12_buyNow 67 = .ok (.ireturn, 1) := by decide +kernel
theorem dX12_buyNow_22 : decode cX12_buyNow 22 = .ok (.bipush (-2), 2) := by decide +kernel
theorem dX12_buyNow_24 : decode cX12_buyNow 24 = .ok (.ireturn, 1) := by decide +kernel
theorem dX12_buyNow_12 : decode cX12_buyNow 12 = .ok (.iconst (-1), 1) := by decide +kernel
theorem dX12_buyNow_13 : decode cX12_buyNow 13 = .ok (.ireturn, 1) := by decide +kernel
theorem dX12_stoke_0 : decode cX12_stoke 0 = .ok (.aload_n 0, 1) := by decide +kernel
theorem dX12_stoke_1 : decode cX12_stoke 1 = .ok (.iconst 0, 1) := by decide +kernel
theorem dX12_stoke_2 : decode cX12_stoke 2 = .ok (.putfield 158, 3) := by decide +kernel
theorem dX12_stoke_5 : decode cX12_stoke 5 = .ok (.aload_n 0, 1) := by decide +kernel
theorem dX12_stoke_6 : decode cX12_stoke 6 = .ok (.aload_n 0, 1) := by decide +kernel
theorem dX12_stoke_7 : decode cX12_stoke 7 = .ok (.iload_n 1, 1) := by decide +kernel
theorem dX12_stoke_8 : decode cX12_stoke 8 = .ok (.invokevirtual 454, 3) := by decide +kernel
theorem dX12_stoke_11 : decode cX12_stoke 11 = .ok (.invokevirtual 171, 3) := by decide +kernel
theorem dX12_stoke_14 : decode cX12_stoke 14 = .ok (.ireturn, 1) := by decide +kernel
theorem dX12_damp_0 : decode cX12_damp 0 = .ok (.aload_n 0, 1) := by decide +kernel
theorem dX12_damp_1 : decode cX12_damp 1 = .ok (.iconst 0, 1) := by decide +kernel
theorem dX12_damp_2 : decode cX12_damp 2 = .ok (.putfield 158, 3) := by decide +kernel
theorem dX12_damp_5 : decode cX12_damp 5 = .ok (.aload_n 0, 1) := by decide +kernel
theorem dX12_damp_6 : decode cX12_damp 6 = .ok (.aload_n 0, 1) := by decide +kernel
theorem dX12_damp_7 : decode cX12_damp 7 = .ok (.iload_n 1, 1) := by decide +kernel
theorem dX12_damp_8 : decode cX12_damp 8 = .ok (.iload_n 2, 1) := by decide +kernel
theorem dX12_damp_9 : decode cX12_damp 9 = .ok (.invokevirtual 457, 3) := by decide +kernel
theorem dX12_damp_12 : decode cX12_damp 12 = .ok (.invokevirtual 171, 3) := by decide +kernel
theorem dX12_damp_15 : decode cX12_damp 15 = .ok (.ireturn, 1) := by decide +kernel
theorem dX12_buy_0 : decode cX12_buy 0 = .ok (.aload_n 0, 1) := by decide +kernel
theorem dX12_buy_1 : decode cX12_buy 1 = .ok (.iconst 0, 1) := by decide +kernel
theorem dX12_buy_2 : decode cX12_buy 2 = .ok (.putfield 158, 3) := by decide +kernel
theorem dX12_buy_5 : decode cX12_buy 5 = .ok (.aload_n 0, 1) := by decide +kernel
theorem dX12_buy_6 : decode cX12_buy 6 = .ok (.aload_n 0, 1) := by decide +kernel
theorem dX12_buy_7 : decode cX12_buy 7 = .ok (.iload_n 1, 1) := by decide +kernel
theorem dX12_buy_8 : decode cX12_buy 8 = .ok (.iload_n 2, 1) := by decide +kernel
theorem dX12_buy_9 : decode cX12_buy 9 = .ok (.invokevirtual 460, 3) := by decide +kernel
theorem dX12_buy_12 : decode cX12_buy 12 = .ok (.invokevirtual 171, 3) := by decide +kernel
theorem dX12_buy_15 : decode cX12_buy 15 = .ok (.ireturn, 1) := by decide +kernel
set_option maxRecDepth 100000 in
set_option maxHeartbeats 4000000 in
theorem ggX12_burnsOf_X12_tells : GoodIn wsX12_burnsOf wsX12_tells := goodIn_q _ [5, 13, 17, 23, 35, 39, 42, 46, 50] [6, 7, 8, 9, 10, 11, 12, 4, 14, 15, 16, 18, 19, 20, 21, 22, 24, 25, 26, 27, 28, 29, 30, 31, 32, 33, 34, 36, 37, 38, 40, 41, 43, 44, 45, 47, 48, 49, 54, 55, 56, 57, 58, 59, 60, 61, 62, 63, 64, 65, 66, 67, 68, 69, 70, 71, 72, 73, 74, 75, 76, 77, 78, 79, 80, 81, 82, 83, 84, 85, 86, 87, 88, 89, 90, 91, 92, 93, 94, 95, 96, 97, 98, 99, 100, 101, 102, 103, 104, 105, 106, 107, 108, 109, 110, 111, 112, 113] rfl (by decide +kernel) (by decide +kernel)
set_option maxRecDepth 20000 in
theorem gX12_burnsOf_X12_tells : GoodIn wsX12_burnsOf (wsV RX12 415 RX12 yX12_tells wsX12_tells) := goodIn_app (goodIn_of _ (by decide +kernel)) ggX12_burnsOf_X12_tells
set_option maxRecDepth 20000 in
theorem ggX12_burnsOf_X12_within : GoodIn wsX12_burnsOf wsX12_within := goodIn_r _ [53] (by decide +kernel) (by decide +kernel)
set_option maxRecDepth 20000 in
theorem gX12_burnsOf_X12_within : GoodIn wsX12_burnsOf (va_wsS RX12 419 yX12_within wsX12_within) := goodIn_app (goodIn_of _ (by decide +kernel)) ggX12_burnsOf_X12_within
set_option maxRecDepth 100000 in
set_option maxHeartbeats 4000000 in
theorem ggX12_flaresOf_X12_tells : GoodIn wsX12_flaresOf wsX12_tells := goodIn_q _ [6, 14, 18, 24, 36, 40, 43, 47, 51] [7, 8, 9, 10, 11, 12, 13, 5, 15, 16, 17, 19, 20, 21, 22, 23, 25, 26, 27, 28, 29, 30, 31, 32, 33, 34, 35, 37, 38, 39, 41, 42, 44, 45, 46, 48, 49, 50, 55, 56, 57, 58, 59, 60, 61, 62, 63, 64, 65, 66, 67, 68, 69, 70, 71, 72, 73, 74, 75, 76, 77, 78, 79, 80, 81, 82, 83, 84, 85, 86, 87, 88, 89, 90, 91, 92, 93, 94, 95, 96, 97, 98, 99, 100, 101, 102, 103, 104, 105, 106, 107, 108, 109, 110, 111, 112, 113, 114] rfl (by decide +kernel) (by decide +kernel)
set_option maxRecDepth 20000 in
theorem gX12_flaresOf_X12_tells : GoodIn wsX12_flaresOf (wsV RX12 415 RX12 yX12_tells wsX12_tells) := goodIn_app (goodIn_of _ (by decide +kernel)) ggX12_flaresOf_X12_tells
set_option maxRecDepth 20000 in
theorem ggX12_flaresOf_X12_within : GoodIn wsX12_flaresOf wsX12_within := goodIn_r _ [54] (by decide +kernel) (by decide +kernel)
set_option maxRecDepth 20000 in
theorem gX12_flaresOf_X12_within : GoodIn wsX12_flaresOf (va_wsS RX12 419 yX12_within wsX12_within) := goodIn_app (goodIn_of _ (by decide +kernel)) ggX12_flaresOf_X12_within
set_option maxRecDepth 100000 in
set_option maxHeartbeats 4000000 in
theorem ggX12_isBarred_X12_tells : GoodIn wsX12_isBarred wsX12_tells := goodIn_q _ [6, 13, 17, 23, 35, 39, 42, 46, 50] [7, 8, 1, 9, 10, 11, 12, 5, 14, 15, 16, 18, 19, 20, 21, 22, 24, 25, 26, 27, 28, 29, 30, 31, 32, 33, 34, 36, 37, 38, 40, 41, 43, 44, 45, 47, 48, 49, 51, 52, 53, 54, 55, 56, 57, 58, 59, 60, 61, 62, 63, 64, 65, 66, 67, 68, 69, 70, 71, 72, 73, 74, 75, 76, 77, 78, 79, 80, 81, 82, 83, 84, 85, 86, 87, 88, 89, 90, 91, 92, 93, 94, 95, 96, 97, 98, 99, 100, 101, 102, 103, 104, 105, 106, 107, 108, 109, 110] rfl (by decide +kernel) (by decide +kernel)
set_option maxRecDepth 20000 in
theorem gX12_isBarred_X12_tells : GoodIn wsX12_isBarred (wsV RX12 415 RX12 yX12_tells wsX12_tells) := goodIn_app (goodIn_of _ (by decide +kernel)) ggX12_isBarred_X12_tells
set_option maxRecDepth 100000 in
set_option maxHeartbeats 4000000 in
theorem ggX12_of_X12_isHouse : GoodIn wsX12_of wsX12_isHouse := goodIn_q _ [7, 10] [2, 8, 9, 6, 68, 69, 70, 71, 72, 73, 74, 75, 76, 77, 78, 79, 80, 81, 82, 83, 84, 85, 86, 87, 88, 89, 90, 91, 92, 93, 94, 95, 96, 97, 98, 99, 100, 101, 102, 103, 104, 105, 106, 107, 108, 109, 110, 111, 112, 113, 114, 115, 116, 117, 118, 119, 120, 121, 122, 123, 124, 125, 126, 127] rfl (by decide +kernel) (by decide +kernel)
set_option maxRecDepth 20000 in
theorem gX12_of_X12_isHouse : GoodIn wsX12_of (wsV RX12 197 RX12 yX12_isHouse wsX12_isHouse) := goodIn_app (goodIn_of _ (by decide +kernel)) ggX12_of_X12_isHouse
set_option maxRecDepth 100000 in
set_option maxHeartbeats 4000000 in
theorem ggX12_of_X12_isSounding : GoodIn wsX12_of wsX12_isSounding := goodIn_q _ [14, 18, 10] [2, 15, 16, 17, 6, 8, 9, 68, 69, 70, 71, 72, 73, 74, 75, 76, 77, 78, 79, 80, 81, 82, 83, 84, 85, 86, 87, 88, 89, 90, 91, 92, 93, 94, 95, 96, 97, 98, 99, 100, 101, 102, 103, 104, 105, 106, 107, 108, 109, 110, 111, 112, 113, 114, 115, 116, 117, 118, 119, 120, 121, 122, 123, 124, 125, 126, 127] rfl (by decide +kernel) (by decide +kernel)
set_option maxRecDepth 20000 in
theorem gX12_of_X12_isSounding : GoodIn wsX12_of (wsV RX12 185 RX12 yX12_isSounding wsX12_isSounding) := goodIn_app (goodIn_of _ (by decide +kernel)) ggX12_of_X12_isSounding
set_option maxRecDepth 100000 in
set_option maxHeartbeats 4000000 in
theorem ggX12_of_X12_burnsOf : GoodIn wsX12_of wsX12_burnsOf := goodIn_q _ [22, 26, 18, 33, 39, 51, 14, 10, 7, 55, 58] [23, 24, 25, 6, 27, 28, 2, 29, 15, 16, 17, 30, 31, 32, 34, 35, 36, 37, 38, 40, 41, 42, 43, 44, 45, 46, 47, 48, 49, 50, 11, 12, 13, 8, 9, 3, 4, 5, 52, 53, 54, 56, 57, 68, 69, 70, 71, 72, 73, 74, 75, 76, 77, 78, 79, 80, 81, 82, 83, 84, 85, 86, 87, 88, 89, 90, 91, 92, 93, 94, 95, 96, 97, 98, 99, 100, 101, 102, 103, 104, 105, 106, 107, 108, 109, 110, 111, 112, 113, 114, 115, 116, 117, 118, 119, 120, 121, 122, 123, 124, 125, 126, 127] rfl (by decide +kernel) (by decide +kernel)
set_option maxRecDepth 20000 in
theorem gX12_of_X12_burnsOf : GoodIn wsX12_of (wsV RX12 200 RX12 yX12_burnsOf wsX12_burnsOf) := goodIn_app (goodIn_of _ (by decide +kernel)) ggX12_of_X12_burnsOf
set_option maxRecDepth 100000 in
set_option maxHeartbeats 4000000 in
theorem ggX12_of_X12_flaresOf : GoodIn wsX12_of wsX12_flaresOf := goodIn_q _ [62, 26, 18, 33, 39, 51, 14, 10, 7, 55, 58] [63, 23, 24, 25, 6, 27, 28, 2, 29, 15, 16, 17, 30, 31, 32, 34, 35, 36, 37, 38, 40, 41, 42, 43, 44, 45, 46, 47, 48, 49, 50, 11, 12, 13, 8, 9, 3, 4, 5, 52, 53, 54, 56, 57, 68, 69, 70, 71, 72, 73, 74, 75, 76, 77, 78, 79, 80, 81, 82, 83, 84, 85, 86, 87, 88, 89, 90, 91, 92, 93, 94, 95, 96, 97, 98, 99, 100, 101, 102, 103, 104, 105, 106, 107, 108, 109, 110, 111, 112, 113, 114, 115, 116, 117, 118, 119, 120, 121, 122, 123, 124, 125, 126, 127] rfl (by decide +kernel) (by decide +kernel)
set_option maxRecDepth 20000 in
theorem gX12_of_X12_flaresOf : GoodIn wsX12_of (wsV RX12 204 RX12 yX12_flaresOf wsX12_flaresOf) := goodIn_app (goodIn_of _ (by decide +kernel)) ggX12_of_X12_flaresOf
set_option maxRecDepth 100000 in
set_option maxHeartbeats 4000000 in
theorem ggX12_of_X12_isBarred : GoodIn wsX12_of wsX12_isBarred := goodIn_q _ [67, 26, 18, 33, 39, 51, 14, 10, 7, 55] [2, 23, 24, 25, 6, 27, 28, 29, 15, 16, 17, 30, 31, 32, 34, 35, 36, 37, 38, 40, 41, 42, 43, 44, 45, 46, 47, 48, 49, 50, 11, 12, 13, 8, 9, 3, 4, 5, 52, 53, 54, 68, 69, 70, 71, 72, 73, 74, 75, 76, 77, 78, 79, 80, 81, 82, 83, 84, 85, 86, 87, 88, 89, 90, 91, 92, 93, 94, 95, 96, 97, 98, 99, 100, 101, 102, 103, 104, 105, 106, 107, 108, 109, 110, 111, 112, 113, 114, 115, 116, 117, 118, 119, 120, 121, 122, 123, 124, 125, 126, 127] rfl (by decide +kernel) (by decide +kernel)
set_option maxRecDepth 20000 in
theorem gX12_of_X12_isBarred : GoodIn wsX12_of (wsV RX12 207 RX12 yX12_isBarred wsX12_isBarred) := goodIn_app (goodIn_of _ (by decide +kernel)) ggX12_of_X12_isBarred
set_option maxRecDepth 100000 in
set_option maxHeartbeats 4000000 in
theorem ggX12_discords_X12_isSounding : GoodIn wsX12_discords wsX12_isSounding := goodIn_q _ [6, 10, 13] [1, 7, 8, 9, 5, 11, 12, 57, 58, 59, 60, 61, 62, 63, 64, 65, 66, 67, 68, 69, 70, 71, 72, 73, 74, 75, 76, 77, 78, 79, 80, 81, 82, 83, 84, 85, 86, 87, 88, 89, 90, 91, 92, 93, 94, 95, 96, 97, 98, 99, 100, 101, 102, 103, 104, 105, 106, 107, 108, 109, 110, 111, 112, 113, 114, 115, 116] rfl (by decide +kernel) (by decide +kernel)
set_option maxRecDepth 20000 in
theorem gX12_discords_X12_isSounding : GoodIn wsX12_discords (wsV RX12 185 RX12 yX12_isSounding wsX12_isSounding) := goodIn_app (goodIn_of _ (by decide +kernel)) ggX12_discords_X12_isSounding
set_option maxRecDepth 20000 in
theorem ggX12_discords_X12_areBeside : GoodIn wsX12_discords wsX12_areBeside := goodIn_r _ [16] (by decide +kernel) (by decide +kernel)
set_option maxRecDepth 20000 in
theorem gX12_discords_X12_areBeside : GoodIn wsX12_discords (va_wsS RX12 425 yX12_areBeside wsX12_areBeside) := goodIn_app (goodIn_of _ (by decide +kernel)) ggX12_discords_X12_areBeside
set_option maxRecDepth 100000 in
set_option maxHeartbeats 4000000 in
theorem ggX12_discords_X12_tells : GoodIn wsX12_discords wsX12_tells := goodIn_q _ [20, 10, 27, 33, 45, 6, 13, 49, 53] [21, 22, 1, 23, 7, 8, 9, 5, 24, 25, 26, 28, 29, 30, 31, 32, 34, 35, 36, 37, 38, 39, 40, 41, 42, 43, 44, 2, 3, 4, 11, 12, 46, 47, 48, 50, 51, 52, 57, 58, 59, 60, 61, 62, 63, 64, 65, 66, 67, 68, 69, 70, 71, 72, 73, 74, 75, 76, 77, 78, 79, 80, 81, 82, 83, 84, 85, 86, 87, 88, 89, 90, 91, 92, 93, 94, 95, 96, 97, 98, 99, 100, 101, 102, 103, 104, 105, 106, 107, 108, 109, 110, 111, 112, 113, 114, 115, 116] rfl (by decide +kernel) (by decide +kernel)
set_option maxRecDepth 20000 in
theorem gX12_discords_X12_tells : GoodIn wsX12_discords (wsV RX12 415 RX12 yX12_tells wsX12_tells) := goodIn_app (goodIn_of _ (by decide +kernel)) ggX12_discords_X12_tells
set_option maxRecDepth 20000 in
theorem ggX12_discords_X12_within : GoodIn wsX12_discords wsX12_within := goodIn_r _ [56] (by decide +kernel) (by decide +kernel)
set_option maxRecDepth 20000 in
theorem gX12_discords_X12_within : GoodIn wsX12_discords (va_wsS RX12 419 yX12_within wsX12_within) := goodIn_app (goodIn_of _ (by decide +kernel)) ggX12_discords_X12_within
set_option maxRecDepth 100000 in
set_option maxHeartbeats 4000000 in
theorem ggX12_discord_X12_discords : GoodIn wsX12_discord wsX12_discords := goodIn_q _ [6, 11, 15, 18, 21, 25, 32, 38, 50, 54, 58, 61] [7, 8, 9, 10, 5, 12, 13, 14, 16, 17, 19, 20, 22, 23, 24, 26, 27, 28, 29, 30, 31, 33, 34, 35, 36, 37, 39, 40, 41, 42, 43, 44, 45, 46, 47, 48, 49, 51, 52, 53, 55, 56, 57, 59, 60, 62, 63, 64, 65, 66, 67, 68, 69, 70, 71, 72, 73, 74, 75, 76, 77, 78, 79, 80, 81, 82, 83, 84, 85, 86, 87, 88, 89, 90, 91, 92, 93, 94, 95, 96, 97, 98, 99, 100, 101, 102, 103, 104, 105, 106, 107, 108, 109, 110, 111, 112, 113, 114, 115, 116, 117, 118, 119, 120, 121] rfl (by decide +kernel) (by decide +kernel)
set_option maxRecDepth 20000 in
theorem gX12_discord_X12_discords : GoodIn wsX12_discord (wsV RX12 428 RX12 yX12_discords wsX12_discords) := goodIn_app (goodIn_of _ (by decide +kernel)) ggX12_discord_X12_discords
set_option maxRecDepth 100000 in
set_option maxHeartbeats 4000000 in
theorem ggX12_isMet_X12_term : GoodIn wsX12_isMet wsX12_term := goodIn_q _ [6] [1, 18, 19, 20, 21, 22, 23, 24, 25, 26, 27, 28, 29, 30, 31, 32, 33, 34, 35, 36, 37, 38, 39, 40, 41, 42, 43, 44, 45, 46, 47, 48, 49, 50, 51, 52, 53, 54, 55, 56, 57, 58, 59, 60, 61, 62, 63, 64, 65, 66, 67, 68, 69, 70, 71, 72, 73, 74, 75, 76, 77] rfl (by decide +kernel) (by decide +kernel)
set_option maxRecDepth 20000 in
theorem gX12_isMet_X12_term : GoodIn wsX12_isMet (wsV RX12 182 RX12 yX12_term wsX12_term) := goodIn_app (goodIn_of _ (by decide +kernel)) ggX12_isMet_X12_term
set_option maxRecDepth 100000 in
set_option maxHeartbeats 4000000 in
theorem ggX12_isMet_X12_soundingNotes : GoodIn wsX12_isMet wsX12_soundingNotes := goodIn_q _ [10, 14, 6, 17] [1, 11, 12, 13, 5, 2, 3, 4, 15, 16, 18, 19, 20, 21, 22, 23, 24, 25, 26, 27, 28, 29, 30, 31, 32, 33, 34, 35, 36, 37, 38, 39, 40, 41, 42, 43, 44, 45, 46, 47, 48, 49, 50, 51, 52, 53, 54, 55, 56, 57, 58, 59, 60, 61, 62, 63, 64, 65, 66, 67, 68, 69, 70, 71, 72, 73, 74, 75, 76, 77] rfl (by decide +kernel) (by decide +kernel)
set_option maxRecDepth 20000 in
theorem gX12_isMet_X12_soundingNotes : GoodIn wsX12_isMet (wsV RX12 431 RX12 yX12_soundingNotes wsX12_soundingNotes) := goodIn_app (goodIn_of _ (by decide +kernel)) ggX12_isMet_X12_soundingNotes
set_option maxRecDepth 20000 in
theorem ggX12_sounds_X12_in : GoodIn wsX12_sounds wsX12_in := goodIn_r _ [6] (by decide +kernel) (by decide +kernel)
set_option maxRecDepth 20000 in
theorem gX12_sounds_X12_in : GoodIn wsX12_sounds (va_wsS RX12 178 yX12_in wsX12_in) := goodIn_app (goodIn_of _ (by decide +kernel)) ggX12_sounds_X12_in
set_option maxRecDepth 100000 in
set_option maxHeartbeats 4000000 in
theorem ggX12_sounds_X12_soundingNotes : GoodIn wsX12_sounds wsX12_soundingNotes := goodIn_q _ [10, 15, 19, 6] [11, 12, 13, 14, 5, 16, 17, 18, 3, 4, 27, 28, 29, 30, 31, 32, 33, 34, 35, 36, 37, 38, 39, 40, 41, 42, 43, 44, 45, 46, 47, 48, 49, 50, 51, 52, 53, 54, 55, 56, 57, 58, 59, 60, 61, 62, 63, 64, 65, 66, 67, 68, 69, 70, 71, 72, 73, 74, 75, 76, 77, 78, 79, 80, 81, 82, 83, 84, 85, 86] rfl (by decide +kernel) (by decide +kernel)
set_option maxRecDepth 20000 in
theorem gX12_sounds_X12_soundingNotes : GoodIn wsX12_sounds (wsV RX12 431 RX12 yX12_soundingNotes wsX12_soundingNotes) := goodIn_app (goodIn_of _ (by decide +kernel)) ggX12_sounds_X12_soundingNotes
set_option maxRecDepth 100000 in
set_option maxHeartbeats 4000000 in
theorem ggX12_sounds_X12_isMet : GoodIn wsX12_sounds wsX12_isMet := goodIn_q _ [26, 19, 10, 15, 6] [11, 16, 17, 18, 5, 7, 8, 9, 12, 13, 14, 3, 4, 27, 28, 29, 30, 31, 32, 33, 34, 35, 36, 37, 38, 39, 40, 41, 42, 43, 44, 45, 46, 47, 48, 49, 50, 51, 52, 53, 54, 55, 56, 57, 58, 59, 60, 61, 62, 63, 64, 65, 66, 67, 68, 69, 70, 71, 72, 73, 74, 75, 76, 77, 78, 79, 80, 81, 82, 83, 84, 85, 86] rfl (by decide +kernel) (by decide +kernel)
set_option maxRecDepth 20000 in
theorem gX12_sounds_X12_isMet : GoodIn wsX12_sounds (wsV RX12 439 RX12 yX12_isMet wsX12_isMet) := goodIn_app (goodIn_of _ (by decide +kernel)) ggX12_sounds_X12_isMet
set_option maxRecDepth 20000 in
theorem ggX12_sounds_X12_is : GoodIn wsX12_sounds wsX12_is := goodIn_r _ [22] (by decide +kernel) (by decide +kernel)
set_option maxRecDepth 20000 in
theorem gX12_sounds_X12_is : GoodIn wsX12_sounds (va_wsS RX12 436 yX12_is wsX12_is) := goodIn_app (goodIn_of _ (by decide +kernel)) ggX12_sounds_X12_is
set_option maxRecDepth 100000 in
set_option maxHeartbeats 4000000 in
theorem ggX12_flare_X12_flaresOf : GoodIn wsX12_flare wsX12_flaresOf := goodIn_q _ [6, 11, 18, 22, 28, 40, 44, 47, 51, 55, 58] [7, 8, 9, 10, 5, 12, 13, 1, 14, 15, 16, 17, 19, 20, 21, 23, 24, 25, 26, 27, 29, 30, 31, 32, 33, 34, 35, 36, 37, 38, 39, 41, 42, 43, 45, 46, 48, 49, 50, 52, 53, 54, 56, 57, 59, 60, 61, 62, 63, 64, 65, 66, 67, 68, 69, 70, 71, 72, 73, 74, 75, 76, 77, 78, 79, 80, 81, 82, 83, 84, 85, 86, 87, 88, 89, 90, 91, 92, 93, 94, 95, 96, 97, 98, 99, 100, 101, 102, 103, 104, 105, 106, 107, 108, 109, 110, 111, 112, 113, 114, 115, 116, 117, 118] rfl (by decide +kernel) (by decide +kernel)
set_option maxRecDepth 20000 in
theorem gX12_flare_X12_flaresOf : GoodIn wsX12_flare (wsV RX12 204 RX12 yX12_flaresOf wsX12_flaresOf) := goodIn_app (goodIn_of _ (by decide +kernel)) ggX12_flare_X12_flaresOf
set_option maxRecDepth 20000 in
theorem ggX12_flare_X12_within : GoodIn wsX12_flare wsX12_within := goodIn_r _ [58] (by decide +kernel) (by decide +kernel)
set_option maxRecDepth 20000 in
theorem gX12_flare_X12_within : GoodIn wsX12_flare (va_wsS RX12 419 yX12_within wsX12_within) := goodIn_app (goodIn_of _ (by decide +kernel)) ggX12_flare_X12_within
set_option maxRecDepth 100000 in
set_option maxHeartbeats 4000000 in
theorem ggX12_canStoke_X12_isBarred : GoodIn wsX12_canStoke wsX12_isBarred := goodIn_q _ [6, 10, 17, 21, 27, 39, 43, 46, 50, 54] [1, 7, 8, 9, 5, 11, 12, 13, 14, 15, 16, 18, 19, 20, 22, 23, 24, 25, 26, 28, 29, 30, 31, 32, 33, 34, 35, 36, 37, 38, 40, 41, 42, 44, 45, 47, 48, 49, 51, 52, 53, 55, 56, 57, 58, 59, 60, 61, 62, 63, 64, 65, 66, 67, 68, 69, 70, 71, 72, 73, 74, 75, 76, 77, 78, 79, 80, 81, 82, 83, 84, 85, 86, 87, 88, 89, 90, 91, 92, 93, 94, 95, 96, 97, 98, 99, 100, 101, 102, 103, 104, 105, 106, 107, 108, 109, 110, 111, 112, 113, 114] rfl (by decide +kernel) (by decide +kernel)
set_option maxRecDepth 20000 in
theorem gX12_canStoke_X12_isBarred : GoodIn wsX12_canStoke (wsV RX12 207 RX12 yX12_isBarred wsX12_isBarred) := goodIn_app (goodIn_of _ (by decide +kernel)) ggX12_canStoke_X12_isBarred
set_option maxRecDepth 100000 in
set_option maxHeartbeats 4000000 in
theorem ggX12_stokeIt_X12_flare : GoodIn wsX12_stokeIt wsX12_flare := goodIn_q _ [6, 10, 15, 22, 26, 32, 44, 48, 51, 55, 59, 62] [1, 7, 8, 9, 5, 11, 12, 13, 14, 16, 17, 18, 19, 20, 21, 23, 24, 25, 27, 28, 29, 30, 31, 33, 34, 35, 36, 37, 38, 39, 40, 41, 42, 43, 45, 46, 47, 49, 50, 52, 53, 54, 56, 57, 58, 60, 61, 63, 64, 65, 66, 67, 68, 69, 70, 71, 72, 73, 74, 75, 76, 77, 78, 79, 80, 81, 82, 83, 84, 85, 86, 87, 88, 89, 90, 91, 92, 93, 94, 95, 96, 97, 98, 99, 100, 101, 102, 103, 104, 105, 106, 107, 108, 109, 110, 111, 112, 113, 114, 115, 116, 117, 118, 119, 120, 121, 122] rfl (by decide +kernel) (by decide +kernel)
set_option maxRecDepth 20000 in
theorem gX12_stokeIt_X12_flare : GoodIn wsX12_stokeIt (wsV RX12 442 RX12 yX12_flare wsX12_flare) := goodIn_app (goodIn_of _ (by decide +kernel)) ggX12_stokeIt_X12_flare
set_option maxRecDepth 100000 in
set_option maxHeartbeats 4000000 in
theorem ggX12_stokeNow_X12_isHouse : GoodIn wsX12_stokeNow wsX12_isHouse := goodIn_q _ [6, 9] [1, 7, 8, 5, 86, 87, 88, 89, 90, 91, 92, 93, 94, 95, 96, 97, 98, 99, 100, 101, 102, 103, 104, 105, 106, 107, 108, 109, 110, 111, 112, 113, 114, 115, 116, 117, 118, 119, 120, 121, 122, 123, 124, 125, 126, 127, 128, 129, 130, 131, 132, 133, 134, 135, 136, 137, 138, 139, 140, 141, 142, 143, 144, 145] rfl (by decide +kernel) (by decide +kernel)
set_option maxRecDepth 20000 in
theorem gX12_stokeNow_X12_isHouse : GoodIn wsX12_stokeNow (wsV RX12 197 RX12 yX12_isHouse wsX12_isHouse) := goodIn_app (goodIn_of _ (by decide +kernel)) ggX12_stokeNow_X12_isHouse
set_option maxRecDepth 100000 in
set_option maxHeartbeats 4000000 in
theorem ggX12_stokeNow_X12_canStoke : GoodIn wsX12_stokeNow wsX12_canStoke := goodIn_q _ [13, 17, 21, 28, 32, 38, 50, 54, 9, 6, 58] [1, 14, 15, 16, 5, 18, 19, 20, 22, 23, 24, 25, 26, 27, 29, 30, 31, 33, 34, 35, 36, 37, 39, 40, 41, 42, 43, 44, 45, 46, 47, 48, 49, 51, 52, 53, 7, 8, 2, 3, 4, 55, 56, 57, 86, 87, 88, 89, 90, 91, 92, 93, 94, 95, 96, 97, 98, 99, 100, 101, 102, 103, 104, 105, 106, 107, 108, 109, 110, 111, 112, 113, 114, 115, 116, 117, 118, 119, 120, 121, 122, 123, 124, 125, 126, 127, 128, 129, 130, 131, 132, 133, 134, 135, 136, 137, 138, 139, 140, 141, 142, 143, 144, 145] rfl (by decide +kernel) (by decide +kernel)
set_option maxRecDepth 20000 in
theorem gX12_stokeNow_X12_canStoke : GoodIn wsX12_stokeNow (wsV RX12 445 RX12 yX12_canStoke wsX12_canStoke) := goodIn_app (goodIn_of _ (by decide +kernel)) ggX12_stokeNow_X12_canStoke
set_option maxRecDepth 100000 in
set_option maxHeartbeats 4000000 in
theorem ggX12_stokeNow_X12_remember : GoodIn wsX12_stokeNow wsX12_remember := goodIn_q _ [62, 69] [63, 64, 65, 66, 67, 68, 5, 1, 86, 87, 88, 89, 90, 91, 92, 93, 94, 95, 96, 97, 98, 99, 100, 101, 102, 103, 104, 105, 106, 107, 108, 109, 110, 111, 112, 113, 114, 115, 116, 117, 118, 119, 120, 121, 122, 123, 124, 125, 126, 127, 128, 129, 130, 131, 132, 133, 134, 135, 136, 137, 138, 139, 140, 141, 142, 143, 144, 145] rfl (by decide +kernel) (by decide +kernel)
set_option maxRecDepth 20000 in
theorem gX12_stokeNow_X12_remember : GoodIn wsX12_stokeNow (wsV RX12 448 RX12 yX12_remember wsX12_remember) := goodIn_app (goodIn_of _ (by decide +kernel)) ggX12_stokeNow_X12_remember
set_option maxRecDepth 100000 in
set_option maxHeartbeats 4000000 in
theorem ggX12_stokeNow_X12_stokeIt : GoodIn wsX12_stokeNow wsX12_stokeIt := goodIn_q _ [73, 77, 81, 21, 28, 32, 38, 50, 54, 9, 6, 58, 85] [1, 74, 75, 76, 5, 78, 79, 80, 82, 18, 19, 20, 22, 23, 24, 25, 26, 27, 29, 30, 31, 33, 34, 35, 36, 37, 39, 40, 41, 42, 43, 44, 45, 46, 47, 48, 49, 51, 52, 53, 7, 8, 2, 3, 4, 55, 56, 57, 83, 84, 86, 87, 88, 89, 90, 91, 92, 93, 94, 95, 96, 97, 98, 99, 100, 101, 102, 103, 104, 105, 106, 107, 108, 109, 110, 111, 112, 113, 114, 115, 116, 117, 118, 119, 120, 121, 122, 123, 124, 125, 126, 127, 128, 129, 130, 131, 132, 133, 134, 135, 136, 137, 138, 139, 140, 141, 142, 143, 144, 145] rfl (by decide +kernel) (by decide +kernel)
set_option maxRecDepth 20000 in
theorem gX12_stokeNow_X12_stokeIt : GoodIn wsX12_stokeNow (wsV RX12 451 RX12 yX12_stokeIt wsX12_stokeIt) := goodIn_app (goodIn_of _ (by decide +kernel)) ggX12_stokeNow_X12_stokeIt
set_option maxRecDepth 20000 in
theorem ggX12_dampNow_X12_in : GoodIn wsX12_dampNow wsX12_in := goodIn_r _ [6] (by decide +kernel) (by decide +kernel)
set_option maxRecDepth 20000 in
theorem gX12_dampNow_X12_in : GoodIn wsX12_dampNow (va_wsS RX12 178 yX12_in wsX12_in) := goodIn_app (goodIn_of _ (by decide +kernel)) ggX12_dampNow_X12_in
set_option maxRecDepth 100000 in
set_option maxHeartbeats 4000000 in
theorem ggX12_dampNow_X12_isHouse : GoodIn wsX12_dampNow wsX12_isHouse := goodIn_q _ [10, 6] [2, 3, 4, 5, 25, 26, 27, 28, 29, 30, 31, 32, 33, 34, 35, 36, 37, 38, 39, 40, 41, 42, 43, 44, 45, 46, 47, 48, 49, 50, 51, 52, 53, 54, 55, 56, 57, 58, 59, 60, 61, 62, 63, 64, 65, 66, 67, 68, 69, 70, 71, 72, 73, 74, 75, 76, 77, 78, 79, 80, 81, 82, 83, 84] rfl (by decide +kernel) (by decide +kernel)
set_option maxRecDepth 20000 in
theorem gX12_dampNow_X12_isHouse : GoodIn wsX12_dampNow (wsV RX12 197 RX12 yX12_isHouse wsX12_isHouse) := goodIn_app (goodIn_of _ (by decide +kernel)) ggX12_dampNow_X12_isHouse
set_option maxRecDepth 100000 in
set_option maxHeartbeats 4000000 in
theorem ggX12_dampNow_X12_remember : GoodIn wsX12_dampNow wsX12_remember := goodIn_q _ [14, 21] [15, 16, 17, 18, 19, 20, 5, 2, 25, 26, 27, 28, 29, 30, 31, 32, 33, 34, 35, 36, 37, 38, 39, 40, 41, 42, 43, 44, 45, 46, 47, 48, 49, 50, 51, 52, 53, 54, 55, 56, 57, 58, 59, 60, 61, 62, 63, 64, 65, 66, 67, 68, 69, 70, 71, 72, 73, 74, 75, 76, 77, 78, 79, 80, 81, 82, 83, 84] rfl (by decide +kernel) (by decide +kernel)
set_option maxRecDepth 20000 in
theorem gX12_dampNow_X12_remember : GoodIn wsX12_dampNow (wsV RX12 448 RX12 yX12_remember wsX12_remember) := goodIn_app (goodIn_of _ (by decide +kernel)) ggX12_dampNow_X12_remember
set_option maxRecDepth 20000 in
theorem ggX12_dampNow_X12_within : GoodIn wsX12_dampNow wsX12_within := goodIn_r _ [24] (by decide +kernel) (by decide +kernel)
set_option maxRecDepth 20000 in
theorem gX12_dampNow_X12_within : GoodIn wsX12_dampNow (va_wsS RX12 419 yX12_within wsX12_within) := goodIn_app (goodIn_of _ (by decide +kernel)) ggX12_dampNow_X12_within
set_option maxRecDepth 20000 in
theorem ggX12_buyNow_X12_in : GoodIn wsX12_buyNow wsX12_in := goodIn_r _ [6] (by decide +kernel) (by decide +kernel)
set_option maxRecDepth 20000 in
theorem gX12_buyNow_X12_in : GoodIn wsX12_buyNow (va_wsS RX12 178 yX12_in wsX12_in) := goodIn_app (goodIn_of _ (by decide +kernel)) ggX12_buyNow_X12_in
set_option maxRecDepth 100000 in
set_option maxHeartbeats 4000000 in
theorem ggX12_buyNow_X12_isHouse : GoodIn wsX12_buyNow wsX12_isHouse := goodIn_q _ [10, 6] [2, 3, 4, 5, 25, 26, 27, 28, 29, 30, 31, 32, 33, 34, 35, 36, 37, 38, 39, 40, 41, 42, 43, 44, 45, 46, 47, 48, 49, 50, 51, 52, 53, 54, 55, 56, 57, 58, 59, 60, 61, 62, 63, 64, 65, 66, 67, 68, 69, 70, 71, 72, 73, 74, 75, 76, 77, 78, 79, 80, 81, 82, 83, 84] rfl (by decide +kernel) (by decide +kernel)
set_option maxRecDepth 20000 in
theorem gX12_buyNow_X12_isHouse : GoodIn wsX12_buyNow (wsV RX12 197 RX12 yX12_isHouse wsX12_isHouse) := goodIn_app (goodIn_of _ (by decide +kernel)) ggX12_buyNow_X12_isHouse
set_option maxRecDepth 100000 in
set_option maxHeartbeats 4000000 in
theorem ggX12_buyNow_X12_remember : GoodIn wsX12_buyNow wsX12_remember := goodIn_q _ [14, 21] [15, 16, 17, 18, 19, 20, 5, 2, 25, 26, 27, 28, 29, 30, 31, 32, 33, 34, 35, 36, 37, 38, 39, 40, 41, 42, 43, 44, 45, 46, 47, 48, 49, 50, 51, 52, 53, 54, 55, 56, 57, 58, 59, 60, 61, 62, 63, 64, 65, 66, 67, 68, 69, 70, 71, 72, 73, 74, 75, 76, 77, 78, 79, 80, 81, 82, 83, 84] rfl (by decide +kernel) (by decide +kernel)
set_option maxRecDepth 20000 in
theorem gX12_buyNow_X12_remember : GoodIn wsX12_buyNow (wsV RX12 448 RX12 yX12_remember wsX12_remember) := goodIn_app (goodIn_of _ (by decide +kernel)) ggX12_buyNow_X12_remember
set_option maxRecDepth 20000 in
theorem ggX12_buyNow_X12_within : GoodIn wsX12_buyNow wsX12_within := goodIn_r _ [24] (by decide +kernel) (by decide +kernel)
set_option maxRecDepth 20000 in
theorem gX12_buyNow_X12_within : GoodIn wsX12_buyNow (va_wsS RX12 419 yX12_within wsX12_within) := goodIn_app (goodIn_of _ (by decide +kernel)) ggX12_buyNow_X12_within
set_option maxRecDepth 100000 in
set_option maxHeartbeats 4000000 in
theorem ggX12_stoke_X12_stokeNow : GoodIn wsX12_stoke wsX12_stokeNow := goodIn_q _ [6, 11, 14, 18, 22, 26, 33, 37, 43, 55, 59, 63, 67, 74, 78, 82, 86, 90] [7, 8, 9, 10, 5, 12, 13, 15, 16, 17, 19, 20, 21, 23, 24, 25, 27, 28, 29, 30, 31, 32, 34, 35, 36, 38, 39, 40, 41, 42, 44, 45, 46, 47, 48, 49, 50, 51, 52, 53, 54, 56, 57, 58, 60, 61, 62, 64, 65, 66, 68, 69, 70, 71, 72, 73, 75, 76, 77, 79, 80, 81, 83, 84, 85, 87, 88, 89, 97, 98, 99, 100, 101, 102, 103, 104, 105, 106, 107, 108, 109, 110, 111, 112, 113, 114, 115, 116, 117, 118, 119, 120, 121, 122, 123, 124, 125, 126, 127, 128, 129, 130, 131, 132, 133, 134, 135, 136, 137, 138, 139, 140, 141, 142, 143, 144, 145, 146, 147, 148, 149, 150, 151, 152, 153, 154, 155, 156] rfl (by decide +kernel) (by decide +kernel)
set_option maxRecDepth 20000 in
theorem gX12_stoke_X12_stokeNow : GoodIn wsX12_stoke (wsV RX12 454 RX12 yX12_stokeNow wsX12_stokeNow) := goodIn_app (goodIn_of _ (by decide +kernel)) ggX12_stoke_X12_stokeNow
set_option maxRecDepth 100000 in
set_option maxHeartbeats 4000000 in
theorem ggX12_stoke_X12_tell : GoodIn wsX12_stoke wsX12_tell := goodIn_q _ [94] [95, 96, 97, 98, 99, 100, 101, 102, 103, 104, 105, 106, 107, 108, 109, 110, 111, 112, 113, 114, 115, 116, 117, 118, 119, 120, 121, 122, 123, 124, 125, 126, 127, 128, 129, 130, 131, 132, 133, 134, 135, 136, 137, 138, 139, 140, 141, 142, 143, 144, 145, 146, 147, 148, 149, 150, 151, 152, 153, 154, 155, 156] rfl (by decide +kernel) (by decide +kernel)
set_option maxRecDepth 20000 in
theorem gX12_stoke_X12_tell : GoodIn wsX12_stoke (wsV RX12 171 RX12 yX12_tell wsX12_tell) := goodIn_app (goodIn_of _ (by decide +kernel)) ggX12_stoke_X12_tell
set_option maxRecDepth 100000 in
set_option maxHeartbeats 4000000 in
theorem ggX12_damp_X12_dampNow : GoodIn wsX12_damp wsX12_dampNow := goodIn_q _ [6, 11, 15, 19, 26, 29] [7, 8, 9, 10, 5, 12, 13, 14, 16, 17, 18, 20, 21, 22, 23, 24, 25, 27, 28, 36, 37, 38, 39, 40, 41, 42, 43, 44, 45, 46, 47, 48, 49, 50, 51, 52, 53, 54, 55, 56, 57, 58, 59, 60, 61, 62, 63, 64, 65, 66, 67, 68, 69, 70, 71, 72, 73, 74, 75, 76, 77, 78, 79, 80, 81, 82, 83, 84, 85, 86, 87, 88, 89, 90, 91, 92, 93, 94, 95] rfl (by decide +kernel) (by decide +kernel)
set_option maxRecDepth 20000 in
theorem gX12_damp_X12_dampNow : GoodIn wsX12_damp (wsV RX12 457 RX12 yX12_dampNow wsX12_dampNow) := goodIn_app (goodIn_of _ (by decide +kernel)) ggX12_damp_X12_dampNow
set_option maxRecDepth 100000 in
set_option maxHeartbeats 4000000 in
theorem ggX12_damp_X12_tell : GoodIn wsX12_damp wsX12_tell := goodIn_q _ [33] [34, 35, 36, 37, 38, 39, 40, 41, 42, 43, 44, 45, 46, 47, 48, 49, 50, 51, 52, 53, 54, 55, 56, 57, 58, 59, 60, 61, 62, 63, 64, 65, 66, 67, 68, 69, 70, 71, 72, 73, 74, 75, 76, 77, 78, 79, 80, 81, 82, 83, 84, 85, 86, 87, 88, 89, 90, 91, 92, 93, 94, 95] rfl (by decide +kernel) (by decide +kernel)
set_option maxRecDepth 20000 in
theorem gX12_damp_X12_tell : GoodIn wsX12_damp (wsV RX12 171 RX12 yX12_tell wsX12_tell) := goodIn_app (goodIn_of _ (by decide +kernel)) ggX12_damp_X12_tell
set_option maxRecDepth 100000 in
set_option maxHeartbeats 4000000 in
theorem ggX12_buy_X12_buyNow : GoodIn wsX12_buy wsX12_buyNow := goodIn_q _ [6, 11, 15, 19, 26, 29] [7, 8, 9, 10, 5, 12, 13, 14, 16, 17, 18, 20, 21, 22, 23, 24, 25, 27, 28, 36, 37, 38, 39, 40, 41, 42, 43, 44, 45, 46, 47, 48, 49, 50, 51, 52, 53, 54, 55, 56, 57, 58, 59, 60, 61, 62, 63, 64, 65, 66, 67, 68, 69, 70, 71, 72, 73, 74, 75, 76, 77, 78, 79, 80, 81, 82, 83, 84, 85, 86, 87, 88, 89, 90, 91, 92, 93, 94, 95] rfl (by decide +kernel) (by decide +kernel)
set_option maxRecDepth 20000 in
theorem gX12_buy_X12_buyNow : GoodIn wsX12_buy (wsV RX12 460 RX12 yX12_buyNow wsX12_buyNow) := goodIn_app (goodIn_of _ (by decide +kernel)) ggX12_buy_X12_buyNow
set_option maxRecDepth 100000 in
set_option maxHeartbeats 4000000 in
theorem ggX12_buy_X12_tell : GoodIn wsX12_buy wsX12_tell := goodIn_q _ [33] [34, 35, 36, 37, 38, 39, 40, 41, 42, 43, 44, 45, 46, 47, 48, 49, 50, 51, 52, 53, 54, 55, 56, 57, 58, 59, 60, 61, 62, 63, 64, 65, 66, 67, 68, 69, 70, 71, 72, 73, 74, 75, 76, 77, 78, 79, 80, 81, 82, 83, 84, 85, 86, 87, 88, 89, 90, 91, 92, 93, 94, 95] rfl (by decide +kernel) (by decide +kernel)
set_option maxRecDepth 20000 in
theorem gX12_buy_X12_tell : GoodIn wsX12_buy (wsV RX12 171 RX12 yX12_tell wsX12_tell) := goodIn_app (goodIn_of _ (by decide +kernel)) ggX12_buy_X12_tell
set_option maxHeartbeats 4000000 in
set_option maxRecDepth 100000 in
theorem v_burnsOf (l : Launch) (D : va_G) (K : Nat → ClassId) (m0 : Nat) (x : Int32) (y : Int32) (m_0 : Value) (m_1 : Value) (m_2 : Value) (w0 : Nat) (m_4 : Value) (m_5 : Value) (m_6 : Value) (m_7 : Value) (m_8 : Value) (m_9 : Value) (m_10 : Value) (m_11 : Value) (m_12 : Value) (m_13 : Value) (m_14 : Value) (m_15 : Value) (m_16 : Value) (m_17 : Value) (m_18 : Value) (m_19 : Value) (m_21 : Value) (m_22 : Value) (m_23 : Value) (m_24 : Value) (m_25 : Value) (m_26 : Value) (m_27 : Value) (m_28 : Value) (m_29 : Value) (m_30 : Value) (m_31 : Value) (m_32 : Value) (m_33 : Value) (lw : Int32) (e0 : Nat) (m_36 : Value) (q0 : Nat) (bro : Int32) (val : Int64) (sm : Int64) (m_41 : Value) (m_42 : Value) (m_43 : Value) (m_44 : Value) (m_45 : Value) (m_46 : Value) (m_47 : Value) (m_48 : Value) (m_49 : Value) (m_50 : Value) (m_51 : Value) (m_52 : Value) (m_53 : Value) (m_54 : Value) (m_55 : Value) (m_56 : Value) (m_57 : Value) (m_58 : Value) (m_59 : Value) (fw : Nat → Int32) (fe : Nat → Int64) (fq : Nat → Int64) (sz : Nat) (zbro : 0 ≤ bro.toInt ∧ bro.toInt ≤ 1) (zx : (-1) ≤ x.toInt ∧ x.toInt ≤ 5) (zy : 0 ≤ y.toInt ∧ y.toInt ≤ 7) (zfw : RowOK fw) : Met l yX12_burnsOf wsX12_burnsOf ({ frames := 4, cells := 0, slots := 0, locals := 102 }) (va_Pc [.ref m0, .int x, .int y] (Pre D K [(m0, .inr (12, [m_0, m_1, m_2, .ref w0, m_4, m_5, m_6, m_7, m_8, m_9, m_10, m_11, m_12, m_13, m_14, m_15, m_16, m_17, m_18, m_19, .int 0, m_21, m_22, m_23, m_24, m_25, m_26, m_27, m_28, m_29, m_30, m_31, m_32, m_33, .int lw, .ref e0, m_36, .ref q0, .int bro, .long val, .long sm, m_41, m_42, m_43, m_44, m_45, m_46, m_47, m_48, m_49, m_50, m_51, m_52, m_53, m_54, m_55, m_56, m_57, m_58, m_59])), (w0, .inl (K 0, 5500, .inl fw)), (e0, .inl (K 2, 13, .inr (.inl fe))), (q0, .inl (K 2, 400, .inr (.inl fq)))] sz)) (va_Qi (S := Su) (fun (r : Int32) (u : Su) => (0 ≤ r.toInt ∧ r.toInt ≤ 20) ∧ (0 ≤ (u.2.2.2.1 1).toInt ∧ (u.2.2.2.1 1).toInt ≤ 1) ∧ True) (fun u t => Wd D (va_A [(m0, .inr (12, [m_0, m_1, m_2, .ref w0, m_4, m_5, m_6, m_7, m_8, m_9, m_10, m_11, m_12, m_13, m_14, m_15, m_16, m_17, m_18, m_19, .int 0, m_21, m_22, m_23, m_24, m_25, m_26, m_27, m_28, m_29, m_30, m_31, m_32, m_33, .int lw, .ref e0, m_36, .ref q0, .int bro, .long val, .long sm, m_41, m_42, m_43, m_44, m_45, m_46, m_47, m_48, m_49, m_50, m_51, m_52, m_53, m_54, m_55, m_56, m_57, m_58, m_59])), (w0, .inl (K 0, 5500, .inl fw)), (e0, .inl (K 2, 13, .inr (.inl fe))), (q0, .inl (K 2, 400, .inr (.inl fq)))] sz) ((fun u => [(m0, .inr (12, [m_0, m_1, m_2, .ref w0, m_4, m_5, m_6, m_7, m_8, m_9, m_10, m_11, m_12, m_13, m_14, m_15, m_16, m_17, m_18, m_19, .int 0, m_21, m_22, m_23, m_24, m_25, m_26, m_27, m_28, m_29, m_30, m_31, m_32, m_33, .int (u.2.2.2.1 0), .ref e0, m_36, .ref q0, .int (u.2.2.2.1 1), .long (u.2.2.2.2.1 0), .long (u.2.2.2.2.1 1), m_41, m_42, m_43, m_44, m_45, m_46, m_47, m_48, m_49, m_50, m_51, m_52, m_53, m_54, m_55, m_56, m_57, m_58, m_59])), (w0, .inl (K 0, 5500, .inl fw)), (e0, .inl (K 2, 13, .inr (.inl (u.2.2.1 0)))), (q0, .inl (K 2, 400, .inr (.inl (u.2.2.1 1))))]) u) t) (va_A [(m0, .inr (12, [m_0, m_1, m_2, .ref w0, m_4, m_5, m_6, m_7, m_8, m_9, m_10, m_11, m_12, m_13, m_14, m_15, m_16, m_17, m_18, m_19, .int 0, m_21, m_22, m_23, m_24, m_25, m_26, m_27, m_28, m_29, m_30, m_31, m_32, m_33, .int lw, .ref e0, m_36, .ref q0, .int bro, .long val, .long sm, m_41, m_42, m_43, m_44, m_45, m_46, m_47, m_48, m_49, m_50, m_51, m_52, m_53, m_54, m_55, m_56, m_57, m_58, m_59])), (w0, .inl (K 0, 5500, .inl fw)), (e0, .inl (K 2, 13, .inr (.inl fe))), (q0, .inl (K 2, 400, .inr (.inl fq)))] sz)) 0 0 (va_A [(m0, .inr (12, [m_0, m_1, m_2, .ref w0, m_4, m_5, m_6, m_7, m_8, m_9, m_10, m_11, m_12, m_13, m_14, m_15, m_16, m_17, m_18, m_19, .int 0, m_21, m_22, m_23, m_24, m_25, m_26, m_27, m_28, m_29, m_30, m_31, m_32, m_33, .int lw, .ref e0, m_36, .ref q0, .int bro, .long val, .long sm, m_41, m_42, m_43, m_44, m_45, m_46, m_47, m_48, m_49, m_50, m_51, m_52, m_53, m_54, m_55, m_56, m_57, m_58, m_59])), (w0, .inl (K 0, 5500, .inl fw)), (e0, .inl (K 2, 13, .inr (.inl fe))), (q0, .inl (K 2, 400, .inr (.inl fq)))] sz) := by
  refine Met.ofW (cc := cX12_burnsOf) (maxL := 3) (ret := (some .int)) (by decide) rfl ?_
  intro p e s m args below meth c s₁ B hml hv
  obtain ⟨rfl, hsz, hP, hK, hD0, hN⟩ := hv
  have hx := B.exec
  have hb := B.bytes
  have hr := B.returns
  have hts := atoms_spec (ws := wsX12_burnsOf) B.pre
  have hown : s.vm.findClass RX12 = some m.cls := findClass_of_methodNamed B.named
  have hlocks := B.notSynchronized
  subst hsz
  have hD := hD0.self (sz := s.heap.size)
  generalize hAe : va_A [(m0, .inr (12, [m_0, m_1, m_2, .ref w0, m_4, m_5, m_6, m_7, m_8, m_9, m_10, m_11, m_12, m_13, m_14, m_15, m_16, m_17, m_18, m_19, .int 0, m_21, m_22, m_23, m_24, m_25, m_26, m_27, m_28, m_29, m_30, m_31, m_32, m_33, .int lw, .ref e0, m_36, .ref q0, .int bro, .long val, .long sm, m_41, m_42, m_43, m_44, m_45, m_46, m_47, m_48, m_49, m_50, m_51, m_52, m_53, m_54, m_55, m_56, m_57, m_58, m_59])), (w0, .inl (K 0, 5500, .inl fw)), (e0, .inl (K 2, 13, .inr (.inl fe))), (q0, .inl (K 2, 400, .inr (.inl fq)))] s.heap.size = A at hD ⊢
  have hA : ∀ q : Nat, s.heap.size ≤ q → A q := fun q h => by rw [← hAe]; exact Or.inr h
  have hS : va_S A s.heap s.heap [] := va_S.rf
  have hP : va_P D vwCl [(m0, .inr (12, [m_0, m_1, m_2, .ref w0, m_4, m_5, m_6, m_7, m_8, m_9, m_10, m_11, m_12, m_13, m_14, m_15, m_16, m_17, m_18, m_19, .int 0, m_21, m_22, m_23, m_24, m_25, m_26, m_27, m_28, m_29, m_30, m_31, m_32, m_33, .int lw, .ref e0, m_36, .ref q0, .int bro, .long val, .long sm, m_41, m_42, m_43, m_44, m_45, m_46, m_47, m_48, m_49, m_50, m_51, m_52, m_53, m_54, m_55, m_56, m_57, m_58, m_59])), (w0, .inl (K 0, 5500, .inl fw)), (e0, .inl (K 2, 13, .inr (.inl fe))), (q0, .inl (K 2, 400, .inr (.inl fq)))] s.heap := hP
  have hl := lv_entry [.ref m0, .int x, .int y] (n := 3) (Nat.le_of_ble_eq_true rfl)
  rw [lg_entry_eq]
  generalize (lg_sl [.ref m0, .int x, .int y] ++ List.replicate (3 - (lg_sl [.ref m0, .int x, .int y]).length) Slot.unset).toArray = ls at hl ⊢
  have hl : lv_has ls 3 [(0, .ref m0), (1, .int x), (2, .int y)] := hl
  have hw12 : ∀ w ∈ wsX120, w ∈ wsX12_burnsOf := fun w h => (List.mem_cons_of_mem _ (List.mem_append_right _ h))
  generalize hQ : MQ below _ _ s _ _ _ = Q
  refine lv_aload_n hx hb dX12_burnsOf_0 rfl (lv_at hl 0 rfl) ?_
  refine lv_iload_n hx hb dX12_burnsOf_1 rfl (lv_at hl 1 rfl) ?_
  refine lv_iconst (v := 0) hx hb dX12_burnsOf_2 (by decide) ?_
  refine lv_iload_n hx hb dX12_burnsOf_3 rfl (lv_at hl 2 rfl) ?_
  refine lv_iconst (v := (-1)) hx hb dX12_burnsOf_4 (by decide) ?_
  refine lv_lconst (v := 1) hx hb dX12_burnsOf_5 (by decide) ?_
  refine kcl (S := Su) (wr := []) (va_runV (As := [.int x, .int 0, .int y, .int (-1), .long 1]) (rest := []) ⟨hx, hb, hml, hown, hts⟩ (v_tells l D K m0 x 0 y (-1) 1 m_0 m_1 m_2 w0 m_4 m_5 m_6 m_7 m_8 m_9 m_10 m_11 m_12 m_13 m_14 m_15 m_16 m_17 m_18 m_19 m_21 m_22 m_23 m_24 m_25 m_26 m_27 m_28 m_29 m_30 m_31 m_32 m_33 lw e0 m_36 q0 bro val sm m_41 m_42 m_43 m_44 m_45 m_46 m_47 m_48 m_49 m_50 m_51 m_52 m_53 m_54 m_55 m_56 m_57 m_58 m_59 fw fe fq s.heap.size (by first | omega | decide) (by first | omega | decide) (by first | omega | decide) zfw) (cwV 5 hts gX12_burnsOf_X12_tells rfl rfl rfl (by decide +kernel) ⟨Nat.le_of_ble_eq_true rfl, Nat.le_of_ble_eq_true rfl⟩) (mkV hK hN (hP.sub [0, 1, 2, 3] rfl) (hD.sub [0, 1, 2, 3] (by decide) rfl) (ci := 12) (q0 := 0) rfl rfl) rfl rfl hl.1 rfl (lv_room (Nat.le_of_ble_eq_true rfl)) dX12_burnsOf_6 ⟨Nat.le_of_ble_eq_true rfl, Nat.le_of_ble_eq_true rfl⟩) hP hD hS hA [0, 1, 2, 3] [] rfl rfl (by decide) (by decide) (fun r_11 u_12 H locs hw hP hD hS => ?_)
  have hP : va_P D vwCl [(m0, .inr (12, [m_0, m_1, m_2, .ref w0, m_4, m_5, m_6, m_7, m_8, m_9, m_10, m_11, m_12, m_13, m_14, m_15, m_16, m_17, m_18, m_19, .int 0, m_21, m_22, m_23, m_24, m_25, m_26, m_27, m_28, m_29, m_30, m_31, m_32, m_33, .int (u_12.2.2.2.1 0), .ref e0, m_36, .ref q0, .int (u_12.2.2.2.1 1), .long (u_12.2.2.2.2.1 0), .long (u_12.2.2.2.2.1 1), m_41, m_42, m_43, m_44, m_45, m_46, m_47, m_48, m_49, m_50, m_51, m_52, m_53, m_54, m_55, m_56, m_57, m_58, m_59])), (w0, .inl (K 0, 5500, .inl fw)), (e0, .inl (K 2, 13, .inr (.inl (u_12.2.2.1 0)))), (q0, .inl (K 2, 400, .inr (.inl (u_12.2.2.1 1))))] H := hP
  have hD : va_D A [(m0, .inr (12, [m_0, m_1, m_2, .ref w0, m_4, m_5, m_6, m_7, m_8, m_9, m_10, m_11, m_12, m_13, m_14, m_15, m_16, m_17, m_18, m_19, .int 0, m_21, m_22, m_23, m_24, m_25, m_26, m_27, m_28, m_29, m_30, m_31, m_32, m_33, .int (u_12.2.2.2.1 0), .ref e0, m_36, .ref q0, .int (u_12.2.2.2.1 1), .long (u_12.2.2.2.2.1 0), .long (u_12.2.2.2.2.1 1), m_41, m_42, m_43, m_44, m_45, m_46, m_47, m_48, m_49, m_50, m_51, m_52, m_53, m_54, m_55, m_56, m_57, m_58, m_59])), (w0, .inl (K 0, 5500, .inl fw)), (e0, .inl (K 2, 13, .inr (.inl (u_12.2.2.1 0)))), (q0, .inl (K 2, 400, .inr (.inl (u_12.2.2.1 1))))] := hD
  obtain ⟨k_13, -⟩ := hw
  refine lv_iconst (v := 0) hx hb dX12_burnsOf_9 (by decide) ?_
  refine lv_bipush (v := 20) hx hb dX12_burnsOf_10 (by decide) ?_
  refine pci (va_runS (As := [.long r_11, .int 0, .int 20]) (rest := []) ⟨hx, hb, hml, hown, hts⟩ (v_within_20 l D K r_11 H.size) (va_cwS 3 hts gX12_burnsOf_X12_within rfl rfl rfl (by decide +kernel) ⟨Nat.le_of_ble_eq_true rfl, Nat.le_of_ble_eq_true rfl⟩) (mkS hK hN (va_P.nil) (va_D.nil (A := fun _ => True))) rfl rfl hl.1 rfl (lv_room (Nat.le_of_ble_eq_true rfl)) dX12_burnsOf_12 ⟨Nat.le_of_ble_eq_true rfl, Nat.le_of_ble_eq_true rfl⟩) (fun r_14 hw => ?_)
  obtain ⟨h_15, -⟩ := hw
  subst hQ
  have hP9 := hP.sub (ws' := [(m0, .inr (12, [m_0, m_1, m_2, .ref w0, m_4, m_5, m_6, m_7, m_8, m_9, m_10, m_11, m_12, m_13, m_14, m_15, m_16, m_17, m_18, m_19, .int 0, m_21, m_22, m_23, m_24, m_25, m_26, m_27, m_28, m_29, m_30, m_31, m_32, m_33, .int (u_12.2.2.2.1 0), .ref e0, m_36, .ref q0, .int (u_12.2.2.2.1 1), .long (u_12.2.2.2.2.1 0), .long (u_12.2.2.2.2.1 1), m_41, m_42, m_43, m_44, m_45, m_46, m_47, m_48, m_49, m_50, m_51, m_52, m_53, m_54, m_55, m_56, m_57, m_58, m_59])), (w0, .inl (K 0, 5500, .inl fw)), (e0, .inl (K 2, 13, .inr (.inl (u_12.2.2.1 0)))), (q0, .inl (K 2, 400, .inr (.inl (u_12.2.2.1 1))))]) [0, 1, 2, 3] rfl
  have hD9 := hD.sub (ws' := [(m0, .inr (12, [m_0, m_1, m_2, .ref w0, m_4, m_5, m_6, m_7, m_8, m_9, m_10, m_11, m_12, m_13, m_14, m_15, m_16, m_17, m_18, m_19, .int 0, m_21, m_22, m_23, m_24, m_25, m_26, m_27, m_28, m_29, m_30, m_31, m_32, m_33, .int (u_12.2.2.2.1 0), .ref e0, m_36, .ref q0, .int (u_12.2.2.2.1 1), .long (u_12.2.2.2.2.1 0), .long (u_12.2.2.2.2.1 1), m_41, m_42, m_43, m_44, m_45, m_46, m_47, m_48, m_49, m_50, m_51, m_52, m_53, m_54, m_55, m_56, m_57, m_58, m_59])), (w0, .inl (K 0, 5500, .inl fw)), (e0, .inl (K 2, 13, .inr (.inl (u_12.2.2.1 0)))), (q0, .inl (K 2, 400, .inr (.inl (u_12.2.2.1 1))))]) [0, 1, 2, 3] (by decide) rfl
  exact W.iret (v := r_14) hx hb hr (fun t ht hW => ⟨⟨r_14, ((fun _ => 0, fun _ => fun _ => 0, fun i => match i with | 0 => (u_12.2.2.1 0) | _ => (u_12.2.2.1 1), fun i => match i with | 0 => (u_12.2.2.2.1 0) | _ => (u_12.2.2.2.1 1), fun i => match i with | 0 => (u_12.2.2.2.2.1 0) | _ => (u_12.2.2.2.2.1 1), fun _ => fun _ => none) : Su), rfl, ⟨(show 0 ≤ r_14.toInt ∧ r_14.toInt ≤ 20 by omega), (show 0 ≤ ((u_12.2.2.2.1 1) : Int32).toInt ∧ ((u_12.2.2.2.1 1) : Int32).toInt ≤ 1 by omega), trivial⟩, (⟨by rw [ht]; exact hP9, hD9⟩ : Wd D A _ t)⟩, hS.F ht⟩) hS.2.2 dX12_burnsOf_15
set_option maxHeartbeats 4000000 in
set_option maxRecDepth 100000 in
theorem v_flaresOf (l : Launch) (D : va_G) (K : Nat → ClassId) (m0 : Nat) (x : Int32) (y : Int32) (m_0 : Value) (m_1 : Value) (m_2 : Value) (w0 : Nat) (m_4 : Value) (m_5 : Value) (m_6 : Value) (m_7 : Value) (m_8 : Value) (m_9 : Value) (m_10 : Value) (m_11 : Value) (m_12 : Value) (m_13 : Value) (m_14 : Value) (m_15 : Value) (m_16 : Value) (m_17 : Value) (m_18 : Value) (m_19 : Value) (m_21 : Value) (m_22 : Value) (m_23 : Value) (m_24 : Value) (m_25 : Value) (m_26 : Value) (m_27 : Value) (m_28 : Value) (m_29 : Value) (m_30 : Value) (m_31 : Value) (m_32 : Value) (m_33 : Value) (lw : Int32) (e0 : Nat) (m_36 : Value) (q0 : Nat) (bro : Int32) (val : Int64) (sm : Int64) (m_41 : Value) (m_42 : Value) (m_43 : Value) (m_44 : Value) (m_45 : Value) (m_46 : Value) (m_47 : Value) (m_48 : Value) (m_49 : Value) (m_50 : Value) (m_51 : Value) (m_52 : Value) (m_53 : Value) (m_54 : Value) (m_55 : Value) (m_56 : Value) (m_57 : Value) (m_58 : Value) (m_59 : Value) (fw : Nat → Int32) (fe : Nat → Int64) (fq : Nat → Int64) (sz : Nat) (zbro : 0 ≤ bro.toInt ∧ bro.toInt ≤ 1) (zx : (-1) ≤ x.toInt ∧ x.toInt ≤ 5) (zy : 0 ≤ y.toInt ∧ y.toInt ≤ 7) (zfw : RowOK fw) : Met l yX12_flaresOf wsX12_flaresOf ({ frames := 4, cells := 0, slots := 0, locals := 102 }) (va_Pc [.ref m0, .int x, .int y] (Pre D K [(m0, .inr (12, [m_0, m_1, m_2, .ref w0, m_4, m_5, m_6, m_7, m_8, m_9, m_10, m_11, m_12, m_13, m_14, m_15, m_16, m_17, m_18, m_19, .int 0, m_21, m_22, m_23, m_24, m_25, m_26, m_27, m_28, m_29, m_30, m_31, m_32, m_33, .int lw, .ref e0, m_36, .ref q0, .int bro, .long val, .long sm, m_41, m_42, m_43, m_44, m_45, m_46, m_47, m_48, m_49, m_50, m_51, m_52, m_53, m_54, m_55, m_56, m_57, m_58, m_59])), (w0, .inl (K 0, 5500, .inl fw)), (e0, .inl (K 2, 13, .inr (.inl fe))), (q0, .inl (K 2, 400, .inr (.inl fq)))] sz)) (va_Qi (S := Su) (fun (r : Int32) (u : Su) => (0 ≤ r.toInt ∧ r.toInt ≤ 20) ∧ (0 ≤ (u.2.2.2.1 1).toInt ∧ (u.2.2.2.1 1).toInt ≤ 1) ∧ True) (fun u t => Wd D (va_A [(m0, .inr (12, [m_0, m_1, m_2, .ref w0, m_4, m_5, m_6, m_7, m_8, m_9, m_10, m_11, m_12, m_13, m_14, m_15, m_16, m_17, m_18, m_19, .int 0, m_21, m_22, m_23, m_24, m_25, m_26, m_27, m_28, m_29, m_30, m_31, m_32, m_33, .int lw, .ref e0, m_36, .ref q0, .int bro, .long val, .long sm, m_41, m_42, m_43, m_44, m_45, m_46, m_47, m_48, m_49, m_50, m_51, m_52, m_53, m_54, m_55, m_56, m_57, m_58, m_59])), (w0, .inl (K 0, 5500, .inl fw)), (e0, .inl (K 2, 13, .inr (.inl fe))), (q0, .inl (K 2, 400, .inr (.inl fq)))] sz) ((fun u => [(m0, .inr (12, [m_0, m_1, m_2, .ref w0, m_4, m_5, m_6, m_7, m_8, m_9, m_10, m_11, m_12, m_13, m_14, m_15, m_16, m_17, m_18, m_19, .int 0, m_21, m_22, m_23, m_24, m_25, m_26, m_27, m_28, m_29, m_30, m_31, m_32, m_33, .int (u.2.2.2.1 0), .ref e0, m_36, .ref q0, .int (u.2.2.2.1 1), .long (u.2.2.2.2.1 0), .long (u.2.2.2.2.1 1), m_41, m_42, m_43, m_44, m_45, m_46, m_47, m_48, m_49, m_50, m_51, m_52, m_53, m_54, m_55, m_56, m_57, m_58, m_59])), (w0, .inl (K 0, 5500, .inl fw)), (e0, .inl (K 2, 13, .inr (.inl (u.2.2.1 0)))), (q0, .inl (K 2, 400, .inr (.inl (u.2.2.1 1))))]) u) t) (va_A [(m0, .inr (12, [m_0, m_1, m_2, .ref w0, m_4, m_5, m_6, m_7, m_8, m_9, m_10, m_11, m_12, m_13, m_14, m_15, m_16, m_17, m_18, m_19, .int 0, m_21, m_22, m_23, m_24, m_25, m_26, m_27, m_28, m_29, m_30, m_31, m_32, m_33, .int lw, .ref e0, m_36, .ref q0, .int bro, .long val, .long sm, m_41, m_42, m_43, m_44, m_45, m_46, m_47, m_48, m_49, m_50, m_51, m_52, m_53, m_54, m_55, m_56, m_57, m_58, m_59])), (w0, .inl (K 0, 5500, .inl fw)), (e0, .inl (K 2, 13, .inr (.inl fe))), (q0, .inl (K 2, 400, .inr (.inl fq)))] sz)) 0 0 (va_A [(m0, .inr (12, [m_0, m_1, m_2, .ref w0, m_4, m_5, m_6, m_7, m_8, m_9, m_10, m_11, m_12, m_13, m_14, m_15, m_16, m_17, m_18, m_19, .int 0, m_21, m_22, m_23, m_24, m_25, m_26, m_27, m_28, m_29, m_30, m_31, m_32, m_33, .int lw, .ref e0, m_36, .ref q0, .int bro, .long val, .long sm, m_41, m_42, m_43, m_44, m_45, m_46, m_47, m_48, m_49, m_50, m_51, m_52, m_53, m_54, m_55, m_56, m_57, m_58, m_59])), (w0, .inl (K 0, 5500, .inl fw)), (e0, .inl (K 2, 13, .inr (.inl fe))), (q0, .inl (K 2, 400, .inr (.inl fq)))] sz) := by
  refine Met.ofW (cc := cX12_flaresOf) (maxL := 3) (ret := (some .int)) (by decide) rfl ?_
  intro p e s m args below meth c s₁ B hml hv
  obtain ⟨rfl, hsz, hP, hK, hD0, hN⟩ := hv
  have hx := B.exec
  have hb := B.bytes
  have hr := B.returns
  have hts := atoms_spec (ws := wsX12_flaresOf) B.pre
  have hown : s.vm.findClass RX12 = some m.cls := findClass_of_methodNamed B.named
  have hlocks := B.notSynchronized
  subst hsz
  have hD := hD0.self (sz := s.heap.size)
  generalize hAe : va_A [(m0, .inr (12, [m_0, m_1, m_2, .ref w0, m_4, m_5, m_6, m_7, m_8, m_9, m_10, m_11, m_12, m_13, m_14, m_15, m_16, m_17, m_18, m_19, .int 0, m_21, m_22, m_23, m_24, m_25, m_26, m_27, m_28, m_29, m_30, m_31, m_32, m_33, .int lw, .ref e0, m_36, .ref q0, .int bro, .long val, .long sm, m_41, m_42, m_43, m_44, m_45, m_46, m_47, m_48, m_49, m_50, m_51, m_52, m_53, m_54, m_55, m_56, m_57, m_58, m_59])), (w0, .inl (K 0, 5500, .inl fw)), (e0, .inl (K 2, 13, .inr (.inl fe))), (q0, .inl (K 2, 400, .inr (.inl fq)))] s.heap.size = A at hD ⊢
  have hA : ∀ q : Nat, s.heap.size ≤ q → A q := fun q h => by rw [← hAe]; exact Or.inr h
  have hS : va_S A s.heap s.heap [] := va_S.rf
  have hP : va_P D vwCl [(m0, .inr (12, [m_0, m_1, m_2, .ref w0, m_4, m_5, m_6, m_7, m_8, m_9, m_10, m_11, m_12, m_13, m_14, m_15, m_16, m_17, m_18, m_19, .int 0, m_21, m_22, m_23, m_24, m_25, m_26, m_27, m_28, m_29, m_30, m_31, m_32, m_33, .int lw, .ref e0, m_36, .ref q0, .int bro, .long val, .long sm, m_41, m_42, m_43, m_44, m_45, m_46, m_47, m_48, m_49, m_50, m_51, m_52, m_53, m_54, m_55, m_56, m_57, m_58, m_59])), (w0, .inl (K 0, 5500, .inl fw)), (e0, .inl (K 2, 13, .inr (.inl fe))), (q0, .inl (K 2, 400, .inr (.inl fq)))] s.heap := hP
  have hl := lv_entry [.ref m0, .int x, .int y] (n := 3) (Nat.le_of_ble_eq_true rfl)
  rw [lg_entry_eq]
  generalize (lg_sl [.ref m0, .int x, .int y] ++ List.replicate (3 - (lg_sl [.ref m0, .int x, .int y]).length) Slot.unset).toArray = ls at hl ⊢
  have hl : lv_has ls 3 [(0, .ref m0), (1, .int x), (2, .int y)] := hl
  have hw12 : ∀ w ∈ wsX120, w ∈ wsX12_flaresOf := fun w h => (List.mem_cons_of_mem _ (List.mem_append_right _ h))
  generalize hQ : MQ below _ _ s _ _ _ = Q
  refine lv_aload_n hx hb dX12_flaresOf_0 rfl (lv_at hl 0 rfl) ?_
  refine lv_iload_n hx hb dX12_flaresOf_1 rfl (lv_at hl 1 rfl) ?_
  refine lv_iconst (v := 1) hx hb dX12_flaresOf_2 (by decide) ?_
  refine lv_iload_n hx hb dX12_flaresOf_3 rfl (lv_at hl 2 rfl) ?_
  refine lv_iconst (v := (-1)) hx hb dX12_flaresOf_4 (by decide) ?_
  refine lv_ldc2 (v := 4) hx hb hown (hts (.constantLong RX12 423 (4)) (List.mem_cons_of_mem _ (List.mem_append_left _ (List.mem_append_left _ (List.mem_of_getElem? (i := 0) rfl))))) dX12_flaresOf_5 ?_
  refine kcl (S := Su) (wr := []) (va_runV (As := [.int x, .int 1, .int y, .int (-1), .long 4]) (rest := []) ⟨hx, hb, hml, hown, hts⟩ (v_tells l D K m0 x 1 y (-1) 4 m_0 m_1 m_2 w0 m_4 m_5 m_6 m_7 m_8 m_9 m_10 m_11 m_12 m_13 m_14 m_15 m_16 m_17 m_18 m_19 m_21 m_22 m_23 m_24 m_25 m_26 m_27 m_28 m_29 m_30 m_31 m_32 m_33 lw e0 m_36 q0 bro val sm m_41 m_42 m_43 m_44 m_45 m_46 m_47 m_48 m_49 m_50 m_51 m_52 m_53 m_54 m_55 m_56 m_57 m_58 m_59 fw fe fq s.heap.size (by first | omega | decide) (by first | omega | decide) (by first | omega | decide) zfw) (cwV 5 hts gX12_flaresOf_X12_tells rfl rfl rfl (by decide +kernel) ⟨Nat.le_of_ble_eq_true rfl, Nat.le_of_ble_eq_true rfl⟩) (mkV hK hN (hP.sub [0, 1, 2, 3] rfl) (hD.sub [0, 1, 2, 3] (by decide) rfl) (ci := 12) (q0 := 0) rfl rfl) rfl rfl hl.1 rfl (lv_room (Nat.le_of_ble_eq_true rfl)) dX12_flaresOf_8 ⟨Nat.le_of_ble_eq_true rfl, Nat.le_of_ble_eq_true rfl⟩) hP hD hS hA [0, 1, 2, 3] [] rfl rfl (by decide) (by decide) (fun r_11 u_12 H locs hw hP hD hS => ?_)
  have hP : va_P D vwCl [(m0, .inr (12, [m_0, m_1, m_2, .ref w0, m_4, m_5, m_6, m_7, m_8, m_9, m_10, m_11, m_12, m_13, m_14, m_15, m_16, m_17, m_18, m_19, .int 0, m_21, m_22, m_23, m_24, m_25, m_26, m_27, m_28, m_29, m_30, m_31, m_32, m_33, .int (u_12.2.2.2.1 0), .ref e0, m_36, .ref q0, .int (u_12.2.2.2.1 1), .long (u_12.2.2.2.2.1 0), .long (u_12.2.2.2.2.1 1), m_41, m_42, m_43, m_44, m_45, m_46, m_47, m_48, m_49, m_50, m_51, m_52, m_53, m_54, m_55, m_56, m_57, m_58, m_59])), (w0, .inl (K 0, 5500, .inl fw)), (e0, .inl (K 2, 13, .inr (.inl (u_12.2.2.1 0)))), (q0, .inl (K 2, 400, .inr (.inl (u_12.2.2.1 1))))] H := hP
  have hD : va_D A [(m0, .inr (12, [m_0, m_1, m_2, .ref w0, m_4, m_5, m_6, m_7, m_8, m_9, m_10, m_11, m_12, m_13, m_14, m_15, m_16, m_17, m_18, m_19, .int 0, m_21, m_22, m_23, m_24, m_25, m_26, m_27, m_28, m_29, m_30, m_31, m_32, m_33, .int (u_12.2.2.2.1 0), .ref e0, m_36, .ref q0, .int (u_12.2.2.2.1 1), .long (u_12.2.2.2.2.1 0), .long (u_12.2.2.2.2.1 1), m_41, m_42, m_43, m_44, m_45, m_46, m_47, m_48, m_49, m_50, m_51, m_52, m_53, m_54, m_55, m_56, m_57, m_58, m_59])), (w0, .inl (K 0, 5500, .inl fw)), (e0, .inl (K 2, 13, .inr (.inl (u_12.2.2.1 0)))), (q0, .inl (K 2, 400, .inr (.inl (u_12.2.2.1 1))))] := hD
  obtain ⟨k_13, -⟩ := hw
  refine lv_iconst (v := 0) hx hb dX12_flaresOf_11 (by decide) ?_
  refine lv_bipush (v := 20) hx hb dX12_flaresOf_12 (by decide) ?_
  refine pci (va_runS (As := [.long r_11, .int 0, .int 20]) (rest := []) ⟨hx, hb, hml, hown, hts⟩ (v_within_20 l D K r_11 H.size) (va_cwS 3 hts gX12_flaresOf_X12_within rfl rfl rfl (by decide +kernel) ⟨Nat.le_of_ble_eq_true rfl, Nat.le_of_ble_eq_true rfl⟩) (mkS hK hN (va_P.nil) (va_D.nil (A := fun _ => True))) rfl rfl hl.1 rfl (lv_room (Nat.le_of_ble_eq_true rfl)) dX12_flaresOf_14 ⟨Nat.le_of_ble_eq_true rfl, Nat.le_of_ble_eq_true rfl⟩) (fun r_14 hw => ?_)
  obtain ⟨h_15, -⟩ := hw
  subst hQ
  have hP9 := hP.sub (ws' := [(m0, .inr (12, [m_0, m_1, m_2, .ref w0, m_4, m_5, m_6, m_7, m_8, m_9, m_10, m_11, m_12, m_13, m_14, m_15, m_16, m_17, m_18, m_19, .int 0, m_21, m_22, m_23, m_24, m_25, m_26, m_27, m_28, m_29, m_30, m_31, m_32, m_33, .int (u_12.2.2.2.1 0), .ref e0, m_36, .ref q0, .int (u_12.2.2.2.1 1), .long (u_12.2.2.2.2.1 0), .long (u_12.2.2.2.2.1 1), m_41, m_42, m_43, m_44, m_45, m_46, m_47, m_48, m_49, m_50, m_51, m_52, m_53, m_54, m_55, m_56, m_57, m_58, m_59])), (w0, .inl (K 0, 5500, .inl fw)), (e0, .inl (K 2, 13, .inr (.inl (u_12.2.2.1 0)))), (q0, .inl (K 2, 400, .inr (.inl (u_12.2.2.1 1))))]) [0, 1, 2, 3] rfl
  have hD9 := hD.sub (ws' := [(m0, .inr (12, [m_0, m_1, m_2, .ref w0, m_4, m_5, m_6, m_7, m_8, m_9, m_10, m_11, m_12, m_13, m_14, m_15, m_16, m_17, m_18, m_19, .int 0, m_21, m_22, m_23, m_24, m_25, m_26, m_27, m_28, m_29, m_30, m_31, m_32, m_33, .int (u_12.2.2.2.1 0), .ref e0, m_36, .ref q0, .int (u_12.2.2.2.1 1), .long (u_12.2.2.2.2.1 0), .long (u_12.2.2.2.2.1 1), m_41, m_42, m_43, m_44, m_45, m_46, m_47, m_48, m_49, m_50, m_51, m_52, m_53, m_54, m_55, m_56, m_57, m_58, m_59])), (w0, .inl (K 0, 5500, .inl fw)), (e0, .inl (K 2, 13, .inr (.inl (u_12.2.2.1 0)))), (q0, .inl (K 2, 400, .inr (.inl (u_12.2.2.1 1))))]) [0, 1, 2, 3] (by decide) rfl
  exact W.iret (v := r_14) hx hb hr (fun t ht hW => ⟨⟨r_14, ((fun _ => 0, fun _ => fun _ => 0, fun i => match i with | 0 => (u_12.2.2.1 0) | _ => (u_12.2.2.1 1), fun i => match i with | 0 => (u_12.2.2.2.1 0) | _ => (u_12.2.2.2.1 1), fun i => match i with | 0 => (u_12.2.2.2.2.1 0) | _ => (u_12.2.2.2.2.1 1), fun _ => fun _ => none) : Su), rfl, ⟨(show 0 ≤ r_14.toInt ∧ r_14.toInt ≤ 20 by omega), (show 0 ≤ ((u_12.2.2.2.1 1) : Int32).toInt ∧ ((u_12.2.2.2.1 1) : Int32).toInt ≤ 1 by omega), trivial⟩, (⟨by rw [ht]; exact hP9, hD9⟩ : Wd D A _ t)⟩, hS.F ht⟩) hS.2.2 dX12_flaresOf_17
set_option maxHeartbeats 4000000 in
set_option maxRecDepth 100000 in
theorem v_isBarred (l : Launch) (D : va_G) (K : Nat → ClassId) (m0 : Nat) (x : Int32) (m_0 : Value) (m_1 : Value) (m_2 : Value) (w0 : Nat) (m_4 : Value) (m_5 : Value) (m_6 : Value) (m_7 : Value) (m_8 : Value) (m_9 : Value) (m_10 : Value) (m_11 : Value) (m_12 : Value) (m_13 : Value) (m_14 : Value) (m_15 : Value) (m_16 : Value) (m_17 : Value) (m_18 : Value) (m_19 : Value) (m_21 : Value) (m_22 : Value) (m_23 : Value) (m_24 : Value) (m_25 : Value) (m_26 : Value) (m_27 : Value) (m_28 : Value) (m_29 : Value) (m_30 : Value) (m_31 : Value) (m_32 : Value) (m_33 : Value) (lw : Int32) (e0 : Nat) (m_36 : Value) (q0 : Nat) (bro : Int32) (val : Int64) (sm : Int64) (m_41 : Value) (m_42 : Value) (m_43 : Value) (m_44 : Value) (m_45 : Value) (m_46 : Value) (m_47 : Value) (m_48 : Value) (m_49 : Value) (m_50 : Value) (m_51 : Value) (m_52 : Value) (m_53 : Value) (m_54 : Value) (m_55 : Value) (m_56 : Value) (m_57 : Value) (m_58 : Value) (m_59 : Value) (fw : Nat → Int32) (fe : Nat → Int64) (fq : Nat → Int64) (sz : Nat) (zbro : 0 ≤ bro.toInt ∧ bro.toInt ≤ 1) (zx : 0 ≤ x.toInt ∧ x.toInt ≤ 7) (zfw : RowOK fw) : Met l yX12_isBarred wsX12_isBarred ({ frames := 4, cells := 0, slots := 0, locals := 102 }) (va_Pc [.ref m0, .int x] (Pre D K [(m0, .inr (12, [m_0, m_1, m_2, .ref w0, m_4, m_5, m_6, m_7, m_8, m_9, m_10, m_11, m_12, m_13, m_14, m_15, m_16, m_17, m_18, m_19, .int 0, m_21, m_22, m_23, m_24, m_25, m_26, m_27, m_28, m_29, m_30, m_31, m_32, m_33, .int lw, .ref e0, m_36, .ref q0, .int bro, .long val, .long sm, m_41, m_42, m_43, m_44, m_45, m_46, m_47, m_48, m_49, m_50, m_51, m_52, m_53, m_54, m_55, m_56, m_57, m_58, m_59])), (w0, .inl (K 0, 5500, .inl fw)), (e0, .inl (K 2, 13, .inr (.inl fe))), (q0, .inl (K 2, 400, .inr (.inl fq)))] sz)) (va_Qi (S := Su) (fun (r : Int32) (u : Su) => (0 ≤ r.toInt ∧ r.toInt ≤ 1) ∧ (0 ≤ (u.2.2.2.1 1).toInt ∧ (u.2.2.2.1 1).toInt ≤ 1) ∧ True) (fun u t => Wd D (va_A [(m0, .inr (12, [m_0, m_1, m_2, .ref w0, m_4, m_5, m_6, m_7, m_8, m_9, m_10, m_11, m_12, m_13, m_14, m_15, m_16, m_17, m_18, m_19, .int 0, m_21, m_22, m_23, m_24, m_25, m_26, m_27, m_28, m_29, m_30, m_31, m_32, m_33, .int lw, .ref e0, m_36, .ref q0, .int bro, .long val, .long sm, m_41, m_42, m_43, m_44, m_45, m_46, m_47, m_48, m_49, m_50, m_51, m_52, m_53, m_54, m_55, m_56, m_57, m_58, m_59])), (w0, .inl (K 0, 5500, .inl fw)), (e0, .inl (K 2, 13, .inr (.inl fe))), (q0, .inl (K 2, 400, .inr (.inl fq)))] sz) ((fun u => [(m0, .inr (12, [m_0, m_1, m_2, .ref w0, m_4, m_5, m_6, m_7, m_8, m_9, m_10, m_11, m_12, m_13, m_14, m_15, m_16, m_17, m_18, m_19, .int 0, m_21, m_22, m_23, m_24, m_25, m_26, m_27, m_28, m_29, m_30, m_31, m_32, m_33, .int (u.2.2.2.1 0), .ref e0, m_36, .ref q0, .int (u.2.2.2.1 1), .long (u.2.2.2.2.1 0), .long (u.2.2.2.2.1 1), m_41, m_42, m_43, m_44, m_45, m_46, m_47, m_48, m_49, m_50, m_51, m_52, m_53, m_54, m_55, m_56, m_57, m_58, m_59])), (w0, .inl (K 0, 5500, .inl fw)), (e0, .inl (K 2, 13, .inr (.inl (u.2.2.1 0)))), (q0, .inl (K 2, 400, .inr (.inl (u.2.2.1 1))))]) u) t) (va_A [(m0, .inr (12, [m_0, m_1, m_2, .ref w0, m_4, m_5, m_6, m_7, m_8, m_9, m_10, m_11, m_12, m_13, m_14, m_15, m_16, m_17, m_18, m_19, .int 0, m_21, m_22, m_23, m_24, m_25, m_26, m_27, m_28, m_29, m_30, m_31, m_32, m_33, .int lw, .ref e0, m_36, .ref q0, .int bro, .long val, .long sm, m_41, m_42, m_43, m_44, m_45, m_46, m_47, m_48, m_49, m_50, m_51, m_52, m_53, m_54, m_55, m_56, m_57, m_58, m_59])), (w0, .inl (K 0, 5500, .inl fw)), (e0, .inl (K 2, 13, .inr (.inl fe))), (q0, .inl (K 2, 400, .inr (.inl fq)))] sz)) 0 0 (va_A [(m0, .inr (12, [m_0, m_1, m_2, .ref w0, m_4, m_5, m_6, m_7, m_8, m_9, m_10, m_11, m_12, m_13, m_14, m_15, m_16, m_17, m_18, m_19, .int 0, m_21, m_22, m_23, m_24, m_25, m_26, m_27, m_28, m_29, m_30, m_31, m_32, m_33, .int lw, .ref e0, m_36, .ref q0, .int bro, .long val, .long sm, m_41, m_42, m_43, m_44, m_45, m_46, m_47, m_48, m_49, m_50, m_51, m_52, m_53, m_54, m_55, m_56, m_57, m_58, m_59])), (w0, .inl (K 0, 5500, .inl fw)), (e0, .inl (K 2, 13, .inr (.inl fe))), (q0, .inl (K 2, 400, .inr (.inl fq)))] sz) := by
  refine Met.ofW (cc := cX12_isBarred) (maxL := 2) (ret := (some .boolean)) (by decide) rfl ?_
  intro p e s m args below meth c s₁ B hml hv
  obtain ⟨rfl, hsz, hP, hK, hD0, hN⟩ := hv
  have hx := B.exec
  have hb := B.bytes
  have hr := B.returns
  have hts := atoms_spec (ws := wsX12_isBarred) B.pre
  have hown : s.vm.findClass RX12 = some m.cls := findClass_of_methodNamed B.named
  have hlocks := B.notSynchronized
  subst hsz
  have hD := hD0.self (sz := s.heap.size)
  generalize hAe : va_A [(m0, .inr (12, [m_0, m_1, m_2, .ref w0, m_4, m_5, m_6, m_7, m_8, m_9, m_10, m_11, m_12, m_13, m_14, m_15, m_16, m_17, m_18, m_19, .int 0, m_21, m_22, m_23, m_24, m_25, m_26, m_27, m_28, m_29, m_30, m_31, m_32, m_33, .int lw, .ref e0, m_36, .ref q0, .int bro, .long val, .long sm, m_41, m_42, m_43, m_44, m_45, m_46, m_47, m_48, m_49, m_50, m_51, m_52, m_53, m_54, m_55, m_56, m_57, m_58, m_59])), (w0, .inl (K 0, 5500, .inl fw)), (e0, .inl (K 2, 13, .inr (.inl fe))), (q0, .inl (K 2, 400, .inr (.inl fq)))] s.heap.size = A at hD ⊢
  have hA : ∀ q : Nat, s.heap.size ≤ q → A q := fun q h => by rw [← hAe]; exact Or.inr h
  have hS : va_S A s.heap s.heap [] := va_S.rf
  have hP : va_P D vwCl [(m0, .inr (12, [m_0, m_1, m_2, .ref w0, m_4, m_5, m_6, m_7, m_8, m_9, m_10, m_11, m_12, m_13, m_14, m_15, m_16, m_17, m_18, m_19, .int 0, m_21, m_22, m_23, m_24, m_25, m_26, m_27, m_28, m_29, m_30, m_31, m_32, m_33, .int lw, .ref e0, m_36, .ref q0, .int bro, .long val, .long sm, m_41, m_42, m_43, m_44, m_45, m_46, m_47, m_48, m_49, m_50, m_51, m_52, m_53, m_54, m_55, m_56, m_57, m_58, m_59])), (w0, .inl (K 0, 5500, .inl fw)), (e0, .inl (K 2, 13, .inr (.inl fe))), (q0, .inl (K 2, 400, .inr (.inl fq)))] s.heap := hP
  have hl := lv_entry [.ref m0, .int x] (n := 2) (Nat.le_of_ble_eq_true rfl)
  rw [lg_entry_eq]
  generalize (lg_sl [.ref m0, .int x] ++ List.replicate (2 - (lg_sl [.ref m0, .int x]).length) Slot.unset).toArray = ls at hl ⊢
  have hl : lv_has ls 2 [(0, .ref m0), (1, .int x)] := hl
  have hw12 : ∀ w ∈ wsX120, w ∈ wsX12_isBarred := fun w h => (List.mem_cons_of_mem _ (List.mem_append_right _ h))
  generalize hQ : MQ below _ _ s _ _ _ = Q
  refine lv_aload_n hx hb dX12_isBarred_0 rfl (lv_at hl 0 rfl) ?_
  refine lv_aload_n hx hb dX12_isBarred_1 rfl (lv_at hl 0 rfl) ?_
  refine va_get (ci := 12) (v := .ref w0) (C := RX12) (T := TX12) (N := 60) hx hb hts hw12 hown hK hP 0 rfl rfl 3 (by decide) (hts (.fieldLink RX12 13 "SmokeTuneModel" "row" "[I") (List.mem_cons_of_mem _ (List.mem_append_left _ (List.mem_append_left _ (List.mem_of_getElem? (i := 0) rfl))))) (fun _ h9 => h9) rfl dX12_isBarred_2 ?_
  refine lv_iconst (v := 3) hx hb dX12_isBarred_5 (by decide) ?_
  refine va_iald hx hb hK hP 1 0 rfl rfl (i_in (x := 3) rfl (by omega)) dX12_isBarred_6 ?_
  refine lv_topi (fun x_11 ex_11 => ?_)
  have px_11 := RowOK.at zfw (show (3 : Int32).toInt = 3 from rfl) (show 0 ≤ 3 ∧ 3 < 100 by omega)
  rw [← ex_11] at px_11
  have hx_11 := PR.r_3 px_11 (by omega)
  refine lv_iconst (v := 3) hx hb dX12_isBarred_7 (by decide) ?_
  refine lv_iload_n hx hb dX12_isBarred_8 rfl (lv_at hl 1 rfl) ?_
  refine lv_iconst (v := (-1)) hx hb dX12_isBarred_9 (by decide) ?_
  refine lv_lconst (v := 0) hx hb dX12_isBarred_10 (by decide) ?_
  refine kcl (S := Su) (wr := []) (va_runV (As := [.int x_11, .int 3, .int x, .int (-1), .long 0]) (rest := []) ⟨hx, hb, hml, hown, hts⟩ (v_tells l D K m0 x_11 3 x (-1) 0 m_0 m_1 m_2 w0 m_4 m_5 m_6 m_7 m_8 m_9 m_10 m_11 m_12 m_13 m_14 m_15 m_16 m_17 m_18 m_19 m_21 m_22 m_23 m_24 m_25 m_26 m_27 m_28 m_29 m_30 m_31 m_32 m_33 lw e0 m_36 q0 bro val sm m_41 m_42 m_43 m_44 m_45 m_46 m_47 m_48 m_49 m_50 m_51 m_52 m_53 m_54 m_55 m_56 m_57 m_58 m_59 fw fe fq s.heap.size (by first | omega | decide) (by first | omega | decide) (by first | omega | decide) zfw) (cwV 5 hts gX12_isBarred_X12_tells rfl rfl rfl (by decide +kernel) ⟨Nat.le_of_ble_eq_true rfl, Nat.le_of_ble_eq_true rfl⟩) (mkV hK hN (hP.sub [0, 1, 2, 3] rfl) (hD.sub [0, 1, 2, 3] (by decide) rfl) (ci := 12) (q0 := 0) rfl rfl) rfl rfl hl.1 rfl (lv_room (Nat.le_of_ble_eq_true rfl)) dX12_isBarred_11 ⟨Nat.le_of_ble_eq_true rfl, Nat.le_of_ble_eq_true rfl⟩) hP hD hS hA [0, 1, 2, 3] [] rfl rfl (by decide) (by decide) (fun r_12 u_13 H locs hw hP hD hS => ?_)
  have hP : va_P D vwCl [(m0, .inr (12, [m_0, m_1, m_2, .ref w0, m_4, m_5, m_6, m_7, m_8, m_9, m_10, m_11, m_12, m_13, m_14, m_15, m_16, m_17, m_18, m_19, .int 0, m_21, m_22, m_23, m_24, m_25, m_26, m_27, m_28, m_29, m_30, m_31, m_32, m_33, .int (u_13.2.2.2.1 0), .ref e0, m_36, .ref q0, .int (u_13.2.2.2.1 1), .long (u_13.2.2.2.2.1 0), .long (u_13.2.2.2.2.1 1), m_41, m_42, m_43, m_44, m_45, m_46, m_47, m_48, m_49, m_50, m_51, m_52, m_53, m_54, m_55, m_56, m_57, m_58, m_59])), (w0, .inl (K 0, 5500, .inl fw)), (e0, .inl (K 2, 13, .inr (.inl (u_13.2.2.1 0)))), (q0, .inl (K 2, 400, .inr (.inl (u_13.2.2.1 1))))] H := hP
  have hD : va_D A [(m0, .inr (12, [m_0, m_1, m_2, .ref w0, m_4, m_5, m_6, m_7, m_8, m_9, m_10, m_11, m_12, m_13, m_14, m_15, m_16, m_17, m_18, m_19, .int 0, m_21, m_22, m_23, m_24, m_25, m_26, m_27, m_28, m_29, m_30, m_31, m_32, m_33, .int (u_13.2.2.2.1 0), .ref e0, m_36, .ref q0, .int (u_13.2.2.2.1 1), .long (u_13.2.2.2.2.1 0), .long (u_13.2.2.2.2.1 1), m_41, m_42, m_43, m_44, m_45, m_46, m_47, m_48, m_49, m_50, m_51, m_52, m_53, m_54, m_55, m_56, m_57, m_58, m_59])), (w0, .inl (K 0, 5500, .inl fw)), (e0, .inl (K 2, 13, .inr (.inl (u_13.2.2.1 0)))), (q0, .inl (K 2, 400, .inr (.inl (u_13.2.2.1 1))))] := hD
  obtain ⟨k_14, -⟩ := hw
  refine lv_lconst (v := 1) hx hb dX12_isBarred_14 (by decide) ?_
  refine W.lcmp hx hb dX12_isBarred_15 ?_
  refine lv_if_ne (tgt := 23) hx hb dX12_isBarred_16 (by decide) (fun c_15 => ?_) (fun c_15 => ?_)
  · have c_15i := l_ne (x := r_12.toInt) (y := 1) rfl rfl (fun q => c_15 ((lg_cmp_eq r_12 1).mpr q))
    refine lv_iconst (v := 0) hx hb dX12_isBarred_23 (by decide) ?_
    subst hQ
    have hP9 := hP.sub (ws' := [(m0, .inr (12, [m_0, m_1, m_2, .ref w0, m_4, m_5, m_6, m_7, m_8, m_9, m_10, m_11, m_12, m_13, m_14, m_15, m_16, m_17, m_18, m_19, .int 0, m_21, m_22, m_23, m_24, m_25, m_26, m_27, m_28, m_29, m_30, m_31, m_32, m_33, .int (u_13.2.2.2.1 0), .ref e0, m_36, .ref q0, .int (u_13.2.2.2.1 1), .long (u_13.2.2.2.2.1 0), .long (u_13.2.2.2.2.1 1), m_41, m_42, m_43, m_44, m_45, m_46, m_47, m_48, m_49, m_50, m_51, m_52, m_53, m_54, m_55, m_56, m_57, m_58, m_59])), (w0, .inl (K 0, 5500, .inl fw)), (e0, .inl (K 2, 13, .inr (.inl (u_13.2.2.1 0)))), (q0, .inl (K 2, 400, .inr (.inl (u_13.2.2.1 1))))]) [0, 1, 2, 3] rfl
    have hD9 := hD.sub (ws' := [(m0, .inr (12, [m_0, m_1, m_2, .ref w0, m_4, m_5, m_6, m_7, m_8, m_9, m_10, m_11, m_12, m_13, m_14, m_15, m_16, m_17, m_18, m_19, .int 0, m_21, m_22, m_23, m_24, m_25, m_26, m_27, m_28, m_29, m_30, m_31, m_32, m_33, .int (u_13.2.2.2.1 0), .ref e0, m_36, .ref q0, .int (u_13.2.2.2.1 1), .long (u_13.2.2.2.2.1 0), .long (u_13.2.2.2.2.1 1), m_41, m_42, m_43, m_44, m_45, m_46, m_47, m_48, m_49, m_50, m_51, m_52, m_53, m_54, m_55, m_56, m_57, m_58, m_59])), (w0, .inl (K 0, 5500, .inl fw)), (e0, .inl (K 2, 13, .inr (.inl (u_13.2.2.1 0)))), (q0, .inl (K 2, 400, .inr (.inl (u_13.2.2.1 1))))]) [0, 1, 2, 3] (by decide) rfl
    exact W.zret (v := 0) hx hb hr (by decide) (fun t ht hW => ⟨⟨0, ((fun _ => 0, fun _ => fun _ => 0, fun i => match i with | 0 => (u_13.2.2.1 0) | _ => (u_13.2.2.1 1), fun i => match i with | 0 => (u_13.2.2.2.1 0) | _ => (u_13.2.2.2.1 1), fun i => match i with | 0 => (u_13.2.2.2.2.1 0) | _ => (u_13.2.2.2.2.1 1), fun _ => fun _ => none) : Su), rfl, ⟨(show 0 ≤ (0 : Int32).toInt ∧ (0 : Int32).toInt ≤ 1 by decide), (show 0 ≤ ((u_13.2.2.2.1 1) : Int32).toInt ∧ ((u_13.2.2.2.1 1) : Int32).toInt ≤ 1 by omega), trivial⟩, (⟨by rw [ht]; exact hP9, hD9⟩ : Wd D A _ t)⟩, hS.F ht⟩) hS.2.2 dX12_isBarred_24
  · have c_15i := l_eq (x := r_12.toInt) (y := 1) rfl rfl ((lg_cmp_eq r_12 1).mp c_15)
    refine lv_iconst (v := 1) hx hb dX12_isBarred_19 (by decide) ?_
    refine lv_goto (tgt := 24) hx hb dX12_isBarred_20 (by decide) ?_
    subst hQ
    have hP9 := hP.sub (ws' := [(m0, .inr (12, [m_0, m_1, m_2, .ref w0, m_4, m_5, m_6, m_7, m_8, m_9, m_10, m_11, m_12, m_13, m_14, m_15, m_16, m_17, m_18, m_19, .int 0, m_21, m_22, m_23, m_24, m_25, m_26, m_27, m_28, m_29, m_30, m_31, m_32, m_33, .int (u_13.2.2.2.1 0), .ref e0, m_36, .ref q0, .int (u_13.2.2.2.1 1), .long (u_13.2.2.2.2.1 0), .long (u_13.2.2.2.2.1 1), m_41, m_42, m_43, m_44, m_45, m_46, m_47, m_48, m_49, m_50, m_51, m_52, m_53, m_54, m_55, m_56, m_57, m_58, m_59])), (w0, .inl (K 0, 5500, .inl fw)), (e0, .inl (K 2, 13, .inr (.inl (u_13.2.2.1 0)))), (q0, .inl (K 2, 400, .inr (.inl (u_13.2.2.1 1))))]) [0, 1, 2, 3] rfl
    have hD9 := hD.sub (ws' := [(m0, .inr (12, [m_0, m_1, m_2, .ref w0, m_4, m_5, m_6, m_7, m_8, m_9, m_10, m_11, m_12, m_13, m_14, m_15, m_16, m_17, m_18, m_19, .int 0, m_21, m_22, m_23, m_24, m_25, m_26, m_27, m_28, m_29, m_30, m_31, m_32, m_33, .int (u_13.2.2.2.1 0), .ref e0, m_36, .ref q0, .int (u_13.2.2.2.1 1), .long (u_13.2.2.2.2.1 0), .long (u_13.2.2.2.2.1 1), m_41, m_42, m_43, m_44, m_45, m_46, m_47, m_48, m_49, m_50, m_51, m_52, m_53, m_54, m_55, m_56, m_57, m_58, m_59])), (w0, .inl (K 0, 5500, .inl fw)), (e0, .inl (K 2, 13, .inr (.inl (u_13.2.2.1 0)))), (q0, .inl (K 2, 400, .inr (.inl (u_13.2.2.1 1))))]) [0, 1, 2, 3] (by decide) rfl
    exact W.zret (v := 1) hx hb hr (by decide) (fun t ht hW => ⟨⟨1, ((fun _ => 0, fun _ => fun _ => 0, fun i => match i with | 0 => (u_13.2.2.1 0) | _ => (u_13.2.2.1 1), fun i => match i with | 0 => (u_13.2.2.2.1 0) | _ => (u_13.2.2.2.1 1), fun i => match i with | 0 => (u_13.2.2.2.2.1 0) | _ => (u_13.2.2.2.2.1 1), fun _ => fun _ => none) : Su), rfl, ⟨(show 0 ≤ (1 : Int32).toInt ∧ (1 : Int32).toInt ≤ 1 by decide), (show 0 ≤ ((u_13.2.2.2.1 1) : Int32).toInt ∧ ((u_13.2.2.2.1 1) : Int32).toInt ≤ 1 by omega), trivial⟩, (⟨by rw [ht]; exact hP9, hD9⟩ : Wd D A _ t)⟩, hS.F ht⟩) hS.2.2 dX12_isBarred_24
set_option maxHeartbeats 4000000 in
set_option maxRecDepth 100000 in
theorem v_of (l : Launch) (D : va_G) (K : Nat → ClassId) (m0 : Nat) (x : Int32) (y : Int32) (thr : Int32) (m_1 : Value) (m_2 : Value) (w0 : Nat) (m_4 : Value) (m_5 : Value) (m_6 : Value) (m_7 : Value) (m_8 : Value) (m_9 : Value) (m_10 : Value) (m_11 : Value) (m_12 : Value) (m_13 : Value) (m_14 : Value) (m_15 : Value) (m_16 : Value) (m_17 : Value) (m_18 : Value) (m_19 : Value) (m_21 : Value) (m_22 : Value) (m_23 : Value) (m_24 : Value) (m_25 : Value) (m_26 : Value) (m_27 : Value) (m_28 : Value) (m_29 : Value) (m_30 : Value) (m_31 : Value) (m_32 : Value) (m_33 : Value) (lw : Int32) (e0 : Nat) (m_36 : Value) (q0 : Nat) (bro : Int32) (val : Int64) (sm : Int64) (m_41 : Value) (m_42 : Value) (m_43 : Value) (m_44 : Value) (m_45 : Value) (m_46 : Value) (m_47 : Value) (m_48 : Value) (m_49 : Value) (m_50 : Value) (m_51 : Value) (m_52 : Value) (m_53 : Value) (m_54 : Value) (m_55 : Value) (m_56 : Value) (m_57 : Value) (m_58 : Value) (m_59 : Value) (fw : Nat → Int32) (fe : Nat → Int64) (fq : Nat → Int64) (sz : Nat) (zbro : 0 ≤ bro.toInt ∧ bro.toInt ≤ 1) (zfw : RowOK fw) : Met l yX12_of wsX12_of ({ frames := 5, cells := 0, slots := 0, locals := 124 }) (va_Pc [.ref m0, .int x, .int y] (Pre D K [(m0, .inr (12, [.int thr, m_1, m_2, .ref w0, m_4, m_5, m_6, m_7, m_8, m_9, m_10, m_11, m_12, m_13, m_14, m_15, m_16, m_17, m_18, m_19, .int 0, m_21, m_22, m_23, m_24, m_25, m_26, m_27, m_28, m_29, m_30, m_31, m_32, m_33, .int lw, .ref e0, m_36, .ref q0, .int bro, .long val, .long sm, m_41, m_42, m_43, m_44, m_45, m_46, m_47, m_48, m_49, m_50, m_51, m_52, m_53, m_54, m_55, m_56, m_57, m_58, m_59])), (w0, .inl (K 0, 5500, .inl fw)), (e0, .inl (K 2, 13, .inr (.inl fe))), (q0, .inl (K 2, 400, .inr (.inl fq)))] sz)) (va_Qi (S := Su) (fun (r : Int32) (u : Su) => (0 ≤ (u.2.2.2.1 1).toInt ∧ (u.2.2.2.1 1).toInt ≤ 1) ∧ True) (fun u t => Wd D (va_A [(m0, .inr (12, [.int thr, m_1, m_2, .ref w0, m_4, m_5, m_6, m_7, m_8, m_9, m_10, m_11, m_12, m_13, m_14, m_15, m_16, m_17, m_18, m_19, .int 0, m_21, m_22, m_23, m_24, m_25, m_26, m_27, m_28, m_29, m_30, m_31, m_32, m_33, .int lw, .ref e0, m_36, .ref q0, .int bro, .long val, .long sm, m_41, m_42, m_43, m_44, m_45, m_46, m_47, m_48, m_49, m_50, m_51, m_52, m_53, m_54, m_55, m_56, m_57, m_58, m_59])), (w0, .inl (K 0, 5500, .inl fw)), (e0, .inl (K 2, 13, .inr (.inl fe))), (q0, .inl (K 2, 400, .inr (.inl fq)))] sz) ((fun u => [(m0, .inr (12, [.int 0, m_1, m_2, .ref w0, m_4, m_5, m_6, m_7, m_8, m_9, m_10, m_11, m_12, m_13, m_14, m_15, m_16, m_17, m_18, m_19, .int 0, m_21, m_22, m_23, m_24, m_25, m_26, m_27, m_28, m_29, m_30, m_31, m_32, m_33, .int (u.2.2.2.1 0), .ref e0, m_36, .ref q0, .int (u.2.2.2.1 1), .long (u.2.2.2.2.1 0), .long (u.2.2.2.2.1 1), m_41, m_42, m_43, m_44, m_45, m_46, m_47, m_48, m_49, m_50, m_51, m_52, m_53, m_54, m_55, m_56, m_57, m_58, m_59])), (w0, .inl (K 0, 5500, .inl fw)), (e0, .inl (K 2, 13, .inr (.inl (u.2.2.1 0)))), (q0, .inl (K 2, 400, .inr (.inl (u.2.2.1 1))))]) u) t) (va_A [(m0, .inr (12, [.int thr, m_1, m_2, .ref w0, m_4, m_5, m_6, m_7, m_8, m_9, m_10, m_11, m_12, m_13, m_14, m_15, m_16, m_17, m_18, m_19, .int 0, m_21, m_22, m_23, m_24, m_25, m_26, m_27, m_28, m_29, m_30, m_31, m_32, m_33, .int lw, .ref e0, m_36, .ref q0, .int bro, .long val, .long sm, m_41, m_42, m_43, m_44, m_45, m_46, m_47, m_48, m_49, m_50, m_51, m_52, m_53, m_54, m_55, m_56, m_57, m_58, m_59])), (w0, .inl (K 0, 5500, .inl fw)), (e0, .inl (K 2, 13, .inr (.inl fe))), (q0, .inl (K 2, 400, .inr (.inl fq)))] sz)) 0 0 (va_A [(m0, .inr (12, [.int thr, m_1, m_2, .ref w0, m_4, m_5, m_6, m_7, m_8, m_9, m_10, m_11, m_12, m_13, m_14, m_15, m_16, m_17, m_18, m_19, .int 0, m_21, m_22, m_23, m_24, m_25, m_26, m_27, m_28, m_29, m_30, m_31, m_32, m_33, .int lw, .ref e0, m_36, .ref q0, .int bro, .long val, .long sm, m_41, m_42, m_43, m_44, m_45, m_46, m_47, m_48, m_49, m_50, m_51, m_52, m_53, m_54, m_55, m_56, m_57, m_58, m_59])), (w0, .inl (K 0, 5500, .inl fw)), (e0, .inl (K 2, 13, .inr (.inl fe))), (q0, .inl (K 2, 400, .inr (.inl fq)))] sz) := by
  refine Met.ofW (cc := cX12_of) (maxL := 3) (ret := (some .int)) (by decide) rfl ?_
  intro p e s m args below meth c s₁ B hml hv
  obtain ⟨rfl, hsz, hP, hK, hD0, hN⟩ := hv
  have hx := B.exec
  have hb := B.bytes
  have hr := B.returns
  have hts := atoms_spec (ws := wsX12_of) B.pre
  have hown : s.vm.findClass RX12 = some m.cls := findClass_of_methodNamed B.named
  have hlocks := B.notSynchronized
  subst hsz
  have hD := hD0.self (sz := s.heap.size)
  generalize hAe : va_A [(m0, .inr (12, [.int thr, m_1, m_2, .ref w0, m_4, m_5, m_6, m_7, m_8, m_9, m_10, m_11, m_12, m_13, m_14, m_15, m_16, m_17, m_18, m_19, .int 0, m_21, m_22, m_23, m_24, m_25, m_26, m_27, m_28, m_29, m_30, m_31, m_32, m_33, .int lw, .ref e0, m_36, .ref q0, .int bro, .long val, .long sm, m_41, m_42, m_43, m_44, m_45, m_46, m_47, m_48, m_49, m_50, m_51, m_52, m_53, m_54, m_55, m_56, m_57, m_58, m_59])), (w0, .inl (K 0, 5500, .inl fw)), (e0, .inl (K 2, 13, .inr (.inl fe))), (q0, .inl (K 2, 400, .inr (.inl fq)))] s.heap.size = A at hD ⊢
  have hA : ∀ q : Nat, s.heap.size ≤ q → A q := fun q h => by rw [← hAe]; exact Or.inr h
  have hS : va_S A s.heap s.heap [] := va_S.rf
  have hP : va_P D vwCl [(m0, .inr (12, [.int thr, m_1, m_2, .ref w0, m_4, m_5, m_6, m_7, m_8, m_9, m_10, m_11, m_12, m_13, m_14, m_15, m_16, m_17, m_18, m_19, .int 0, m_21, m_22, m_23, m_24, m_25, m_26, m_27, m_28, m_29, m_30, m_31, m_32, m_33, .int lw, .ref e0, m_36, .ref q0, .int bro, .long val, .long sm, m_41, m_42, m_43, m_44, m_45, m_46, m_47, m_48, m_49, m_50, m_51, m_52, m_53, m_54, m_55, m_56, m_57, m_58, m_59])), (w0, .inl (K 0, 5500, .inl fw)), (e0, .inl (K 2, 13, .inr (.inl fe))), (q0, .inl (K 2, 400, .inr (.inl fq)))] s.heap := hP
  have hl := lv_entry [.ref m0, .int x, .int y] (n := 3) (Nat.le_of_ble_eq_true rfl)
  rw [lg_entry_eq]
  generalize (lg_sl [.ref m0, .int x, .int y] ++ List.replicate (3 - (lg_sl [.ref m0, .int x, .int y]).length) Slot.unset).toArray = ls at hl ⊢
  have hl : lv_has ls 3 [(0, .ref m0), (1, .int x), (2, .int y)] := hl
  have hw12 : ∀ w ∈ wsX120, w ∈ wsX12_of := fun w h => (List.mem_cons_of_mem _ (List.mem_append_right _ h))
  generalize hQ : MQ below _ _ s _ _ _ = Q
  refine lv_aload_n hx hb dX12_of_0 rfl (lv_at hl 0 rfl) ?_
  refine lv_iconst (v := 0) hx hb dX12_of_1 (by decide) ?_
  refine va_put (ci := 12) (v := .int 0) (ty := .int) (C := RX12) (T := TX12) (N := 60) hx hb hts hw12 tyX12 tyX12_ok nmX12 hown hK hP hD hS 0 rfl rfl 0 (by decide) (hts (.fieldLink RX12 158 "SmokeTuneModel" "thrown" "I") (List.mem_cons_of_mem _ (List.mem_append_left _ (List.mem_append_left _ (List.mem_of_getElem? (i := 0) rfl))))) (fun _ h9 => h9) rfl (by decide +kernel) (by first | rfl | decide) (by first | rfl | decide) (Nat.le_of_ble_eq_true rfl) dX12_of_2 (fun H locs hP hD hS => ?_)
  have hP : va_P D vwCl [(m0, .inr (12, [.int 0, m_1, m_2, .ref w0, m_4, m_5, m_6, m_7, m_8, m_9, m_10, m_11, m_12, m_13, m_14, m_15, m_16, m_17, m_18, m_19, .int 0, m_21, m_22, m_23, m_24, m_25, m_26, m_27, m_28, m_29, m_30, m_31, m_32, m_33, .int lw, .ref e0, m_36, .ref q0, .int bro, .long val, .long sm, m_41, m_42, m_43, m_44, m_45, m_46, m_47, m_48, m_49, m_50, m_51, m_52, m_53, m_54, m_55, m_56, m_57, m_58, m_59])), (w0, .inl (K 0, 5500, .inl fw)), (e0, .inl (K 2, 13, .inr (.inl fe))), (q0, .inl (K 2, 400, .inr (.inl fq)))] H := hP
  have hD : va_D A [(m0, .inr (12, [.int 0, m_1, m_2, .ref w0, m_4, m_5, m_6, m_7, m_8, m_9, m_10, m_11, m_12, m_13, m_14, m_15, m_16, m_17, m_18, m_19, .int 0, m_21, m_22, m_23, m_24, m_25, m_26, m_27, m_28, m_29, m_30, m_31, m_32, m_33, .int lw, .ref e0, m_36, .ref q0, .int bro, .long val, .long sm, m_41, m_42, m_43, m_44, m_45, m_46, m_47, m_48, m_49, m_50, m_51, m_52, m_53, m_54, m_55, m_56, m_57, m_58, m_59])), (w0, .inl (K 0, 5500, .inl fw)), (e0, .inl (K 2, 13, .inr (.inl fe))), (q0, .inl (K 2, 400, .inr (.inl fq)))] := hD
  refine lv_aload_n hx hb dX12_of_5 rfl (lv_at hl 0 rfl) ?_
  refine lv_iload_n hx hb dX12_of_6 rfl (lv_at hl 1 rfl) ?_
  refine pci (va_runV (As := [.int x]) (rest := []) ⟨hx, hb, hml, hown, hts⟩ (v_isHouse l D K x.toInt m0 x (.int 0) m_1 m_2 w0 m_4 m_5 m_6 m_7 m_8 m_9 m_10 m_11 m_12 m_13 m_14 m_15 m_16 m_17 m_18 m_19 (.int 0) m_21 m_22 m_23 m_24 m_25 m_26 m_27 m_28 m_29 m_30 m_31 m_32 m_33 (.int lw) (.ref e0) m_36 (.ref q0) (.int bro) (.long val) (.long sm) m_41 m_42 m_43 m_44 m_45 m_46 m_47 m_48 m_49 m_50 m_51 m_52 m_53 m_54 m_55 m_56 m_57 m_58 m_59 fw H.size rfl zfw) (cwV 1 hts gX12_of_X12_isHouse rfl rfl rfl (by decide +kernel) ⟨Nat.le_of_ble_eq_true rfl, Nat.le_of_ble_eq_true rfl⟩) (mkV hK hN (hP.sub [0, 1] rfl) (hD.sub [0, 1] (by decide) rfl) (ci := 12) (q0 := 0) rfl rfl) rfl rfl hl.1 rfl (lv_room (Nat.le_of_ble_eq_true rfl)) dX12_of_7 ⟨Nat.le_of_ble_eq_true rfl, Nat.le_of_ble_eq_true rfl⟩) (fun r_77 hw => ?_)
  obtain ⟨hw, -⟩ := hw
  rcases hw with ⟨rfl, h_78, h_79⟩ | rfl
  · refine lv_if_ne (tgt := 15) hx hb dX12_of_10 (by decide) (fun c_80 => ?_) (fun c_80 => absurd c_80 (by decide))
    refine lv_iload_n hx hb dX12_of_15 rfl (lv_at hl 2 rfl) ?_
    have w_81 : y.toInt = 0 ∨ y.toInt = 1 ∨ y.toInt = 2 ∨ y.toInt = 3 ∨ y.toInt = 4 ∨ y.toInt = 5 ∨ y.toInt = 6 ∨ y.toInt = 7 ∨ y.toInt = 8 ∨ y.toInt = 9 ∨ y.toInt = 10 ∨ (y.toInt < 0 ∨ 10 < y.toInt) := by omega
    rcases w_81 with w_81 | w_81 | w_81 | w_81 | w_81 | w_81 | w_81 | w_81 | w_81 | w_81 | w_81 | w_81
    · refine lv_tableIn (tgt := 76) hx hb dX12_of_16 (by omega) (by omega) (by rw [w_81]; rfl) (by decide) ?_
      refine lv_aload_n hx hb dX12_of_76 rfl (lv_at hl 0 rfl) ?_
      refine va_get (ci := 12) (v := .ref w0) (C := RX12) (T := TX12) (N := 60) hx hb hts hw12 hown hK hP 0 rfl rfl 3 (by decide) (hts (.fieldLink RX12 13 "SmokeTuneModel" "row" "[I") (List.mem_cons_of_mem _ (List.mem_append_left _ (List.mem_append_left _ (List.mem_of_getElem? (i := 1) rfl))))) (fun _ h9 => h9) rfl dX12_of_77 ?_
      refine lv_bipush (v := 35) hx hb dX12_of_80 (by decide) ?_
      refine lv_iload_n hx hb dX12_of_82 rfl (lv_at hl 1 rfl) ?_
      refine lv_iadd hx hb dX12_of_83 ?_
      refine lv_topi (fun x_82 ex_82 => ?_)
      have hx_82 : x_82.toInt = (35 + x.toInt) := by rw [ex_82]; exact i_add (show (35 : Int32).toInt = 35 from rfl) rfl (by omega)
      refine va_iald hx hb hK hP 1 0 rfl rfl (i_in hx_82 (by omega)) dX12_of_84 ?_
      refine lv_topi (fun x_83 ex_83 => ?_)
      have px_83 := RowOK.at zfw hx_82 (show 0 ≤ (35 + x.toInt) ∧ (35 + x.toInt) < 100 by omega)
      rw [← ex_83] at px_83
      have hx_83 := PR.r_35 px_83 (by omega)
      subst hQ
      have hP9 := hP.sub (ws' := [(m0, .inr (12, [.int 0, m_1, m_2, .ref w0, m_4, m_5, m_6, m_7, m_8, m_9, m_10, m_11, m_12, m_13, m_14, m_15, m_16, m_17, m_18, m_19, .int 0, m_21, m_22, m_23, m_24, m_25, m_26, m_27, m_28, m_29, m_30, m_31, m_32, m_33, .int lw, .ref e0, m_36, .ref q0, .int bro, .long val, .long sm, m_41, m_42, m_43, m_44, m_45, m_46, m_47, m_48, m_49, m_50, m_51, m_52, m_53, m_54, m_55, m_56, m_57, m_58, m_59])), (w0, .inl (K 0, 5500, .inl fw)), (e0, .inl (K 2, 13, .inr (.inl fe))), (q0, .inl (K 2, 400, .inr (.inl fq)))]) [0, 1, 2, 3] rfl
      have hD9 := hD.sub (ws' := [(m0, .inr (12, [.int 0, m_1, m_2, .ref w0, m_4, m_5, m_6, m_7, m_8, m_9, m_10, m_11, m_12, m_13, m_14, m_15, m_16, m_17, m_18, m_19, .int 0, m_21, m_22, m_23, m_24, m_25, m_26, m_27, m_28, m_29, m_30, m_31, m_32, m_33, .int lw, .ref e0, m_36, .ref q0, .int bro, .long val, .long sm, m_41, m_42, m_43, m_44, m_45, m_46, m_47, m_48, m_49, m_50, m_51, m_52, m_53, m_54, m_55, m_56, m_57, m_58, m_59])), (w0, .inl (K 0, 5500, .inl fw)), (e0, .inl (K 2, 13, .inr (.inl fe))), (q0, .inl (K 2, 400, .inr (.inl fq)))]) [0, 1, 2, 3] (by decide) rfl
      exact W.iret (v := x_83) hx hb hr (fun t ht hW => ⟨⟨x_83, ((fun _ => 0, fun _ => fun _ => 0, fun i => match i with | 0 => fe | _ => fq, fun i => match i with | 0 => lw | _ => bro, fun i => match i with | 0 => val | _ => sm, fun _ => fun _ => none) : Su), rfl, ⟨(show 0 ≤ (bro : Int32).toInt ∧ (bro : Int32).toInt ≤ 1 by omega), trivial⟩, (⟨by rw [ht]; exact hP9, hD9⟩ : Wd D A _ t)⟩, hS.F ht⟩) hS.2.2 dX12_of_85
    · refine lv_tableIn (tgt := 86) hx hb dX12_of_16 (by omega) (by omega) (by rw [w_81]; rfl) (by decide) ?_
      refine lv_aload_n hx hb dX12_of_86 rfl (lv_at hl 0 rfl) ?_
      refine va_get (ci := 12) (v := .ref w0) (C := RX12) (T := TX12) (N := 60) hx hb hts hw12 hown hK hP 0 rfl rfl 3 (by decide) (hts (.fieldLink RX12 13 "SmokeTuneModel" "row" "[I") (List.mem_cons_of_mem _ (List.mem_append_left _ (List.mem_append_left _ (List.mem_of_getElem? (i := 1) rfl))))) (fun _ h9 => h9) rfl dX12_of_87 ?_
      refine lv_bipush (v := 43) hx hb dX12_of_90 (by decide) ?_
      refine lv_iload_n hx hb dX12_of_92 rfl (lv_at hl 1 rfl) ?_
      refine lv_iadd hx hb dX12_of_93 ?_
      refine lv_topi (fun x_84 ex_84 => ?_)
      have hx_84 : x_84.toInt = (43 + x.toInt) := by rw [ex_84]; exact i_add (show (43 : Int32).toInt = 43 from rfl) rfl (by omega)
      refine va_iald hx hb hK hP 1 0 rfl rfl (i_in hx_84 (by omega)) dX12_of_94 ?_
      refine lv_topi (fun x_85 ex_85 => ?_)
      have px_85 := RowOK.at zfw hx_84 (show 0 ≤ (43 + x.toInt) ∧ (43 + x.toInt) < 100 by omega)
      rw [← ex_85] at px_85
      subst hQ
      have hP9 := hP.sub (ws' := [(m0, .inr (12, [.int 0, m_1, m_2, .ref w0, m_4, m_5, m_6, m_7, m_8, m_9, m_10, m_11, m_12, m_13, m_14, m_15, m_16, m_17, m_18, m_19, .int 0, m_21, m_22, m_23, m_24, m_25, m_26, m_27, m_28, m_29, m_30, m_31, m_32, m_33, .int lw, .ref e0, m_36, .ref q0, .int bro, .long val, .long sm, m_41, m_42, m_43, m_44, m_45, m_46, m_47, m_48, m_49, m_50, m_51, m_52, m_53, m_54, m_55, m_56, m_57, m_58, m_59])), (w0, .inl (K 0, 5500, .inl fw)), (e0, .inl (K 2, 13, .inr (.inl fe))), (q0, .inl (K 2, 400, .inr (.inl fq)))]) [0, 1, 2, 3] rfl
      have hD9 := hD.sub (ws' := [(m0, .inr (12, [.int 0, m_1, m_2, .ref w0, m_4, m_5, m_6, m_7, m_8, m_9, m_10, m_11, m_12, m_13, m_14, m_15, m_16, m_17, m_18, m_19, .int 0, m_21, m_22, m_23, m_24, m_25, m_26, m_27, m_28, m_29, m_30, m_31, m_32, m_33, .int lw, .ref e0, m_36, .ref q0, .int bro, .long val, .long sm, m_41, m_42, m_43, m_44, m_45, m_46, m_47, m_48, m_49, m_50, m_51, m_52, m_53, m_54, m_55, m_56, m_57, m_58, m_59])), (w0, .inl (K 0, 5500, .inl fw)), (e0, .inl (K 2, 13, .inr (.inl fe))), (q0, .inl (K 2, 400, .inr (.inl fq)))]) [0, 1, 2, 3] (by decide) rfl
      exact W.iret (v := x_85) hx hb hr (fun t ht hW => ⟨⟨x_85, ((fun _ => 0, fun _ => fun _ => 0, fun i => match i with | 0 => fe | _ => fq, fun i => match i with | 0 => lw | _ => bro, fun i => match i with | 0 => val | _ => sm, fun _ => fun _ => none) : Su), rfl, ⟨(show 0 ≤ (bro : Int32).toInt ∧ (bro : Int32).toInt ≤ 1 by omega), trivial⟩, (⟨by rw [ht]; exact hP9, hD9⟩ : Wd D A _ t)⟩, hS.F ht⟩) hS.2.2 dX12_of_95
    · refine lv_tableIn (tgt := 96) hx hb dX12_of_16 (by omega) (by omega) (by rw [w_81]; rfl) (by decide) ?_
      refine lv_aload_n hx hb dX12_of_96 rfl (lv_at hl 0 rfl) ?_
      refine va_get (ci := 12) (v := .ref w0) (C := RX12) (T := TX12) (N := 60) hx hb hts hw12 hown hK hP 0 rfl rfl 3 (by decide) (hts (.fieldLink RX12 13 "SmokeTuneModel" "row" "[I") (List.mem_cons_of_mem _ (List.mem_append_left _ (List.mem_append_left _ (List.mem_of_getElem? (i := 1) rfl))))) (fun _ h9 => h9) rfl dX12_of_97 ?_
      refine lv_bipush (v := 19) hx hb dX12_of_100 (by decide) ?_
      refine lv_iload_n hx hb dX12_of_102 rfl (lv_at hl 1 rfl) ?_
      refine lv_iadd hx hb dX12_of_103 ?_
      refine lv_topi (fun x_86 ex_86 => ?_)
      have hx_86 : x_86.toInt = (19 + x.toInt) := by rw [ex_86]; exact i_add (show (19 : Int32).toInt = 19 from rfl) rfl (by omega)
      refine va_iald hx hb hK hP 1 0 rfl rfl (i_in hx_86 (by omega)) dX12_of_104 ?_
      refine lv_topi (fun x_87 ex_87 => ?_)
      have px_87 := RowOK.at zfw hx_86 (show 0 ≤ (19 + x.toInt) ∧ (19 + x.toInt) < 100 by omega)
      rw [← ex_87] at px_87
      subst hQ
      have hP9 := hP.sub (ws' := [(m0, .inr (12, [.int 0, m_1, m_2, .ref w0, m_4, m_5, m_6, m_7, m_8, m_9, m_10, m_11, m_12, m_13, m_14, m_15, m_16, m_17, m_18, m_19, .int 0, m_21, m_22, m_23, m_24, m_25, m_26, m_27, m_28, m_29, m_30, m_31, m_32, m_33, .int lw, .ref e0, m_36, .ref q0, .int bro, .long val, .long sm, m_41, m_42, m_43, m_44, m_45, m_46, m_47, m_48, m_49, m_50, m_51, m_52, m_53, m_54, m_55, m_56, m_57, m_58, m_59])), (w0, .inl (K 0, 5500, .inl fw)), (e0, .inl (K 2, 13, .inr (.inl fe))), (q0, .inl (K 2, 400, .inr (.inl fq)))]) [0, 1, 2, 3] rfl
      have hD9 := hD.sub (ws' := [(m0, .inr (12, [.int 0, m_1, m_2, .ref w0, m_4, m_5, m_6, m_7, m_8, m_9, m_10, m_11, m_12, m_13, m_14, m_15, m_16, m_17, m_18, m_19, .int 0, m_21, m_22, m_23, m_24, m_25, m_26, m_27, m_28, m_29, m_30, m_31, m_32, m_33, .int lw, .ref e0, m_36, .ref q0, .int bro, .long val, .long sm, m_41, m_42, m_43, m_44, m_45, m_46, m_47, m_48, m_49, m_50, m_51, m_52, m_53, m_54, m_55, m_56, m_57, m_58, m_59])), (w0, .inl (K 0, 5500, .inl fw)), (e0, .inl (K 2, 13, .inr (.inl fe))), (q0, .inl (K 2, 400, .inr (.inl fq)))]) [0, 1, 2, 3] (by decide) rfl
      exact W.iret (v := x_87) hx hb hr (fun t ht hW => ⟨⟨x_87, ((fun _ => 0, fun _ => fun _ => 0, fun i => match i with | 0 => fe | _ => fq, fun i => match i with | 0 => lw | _ => bro, fun i => match i with | 0 => val | _ => sm, fun _ => fun _ => none) : Su), rfl, ⟨(show 0 ≤ (bro : Int32).toInt ∧ (bro : Int32).toInt ≤ 1 by omega), trivial⟩, (⟨by rw [ht]; exact hP9, hD9⟩ : Wd D A _ t)⟩, hS.F ht⟩) hS.2.2 dX12_of_105
    · refine lv_tableIn (tgt := 106) hx hb dX12_of_16 (by omega) (by omega) (by rw [w_81]; rfl) (by decide) ?_
      refine lv_aload_n hx hb dX12_of_106 rfl (lv_at hl 0 rfl) ?_
      refine va_get (ci := 12) (v := .ref w0) (C := RX12) (T := TX12) (N := 60) hx hb hts hw12 hown hK hP 0 rfl rfl 3 (by decide) (hts (.fieldLink RX12 13 "SmokeTuneModel" "row" "[I") (List.mem_cons_of_mem _ (List.mem_append_left _ (List.mem_append_left _ (List.mem_of_getElem? (i := 1) rfl))))) (fun _ h9 => h9) rfl dX12_of_107 ?_
      refine lv_bipush (v := 51) hx hb dX12_of_110 (by decide) ?_
      refine lv_iload_n hx hb dX12_of_112 rfl (lv_at hl 1 rfl) ?_
      refine lv_iadd hx hb dX12_of_113 ?_
      refine lv_topi (fun x_88 ex_88 => ?_)
      have hx_88 : x_88.toInt = (51 + x.toInt) := by rw [ex_88]; exact i_add (show (51 : Int32).toInt = 51 from rfl) rfl (by omega)
      refine va_iald hx hb hK hP 1 0 rfl rfl (i_in hx_88 (by omega)) dX12_of_114 ?_
      refine lv_topi (fun x_89 ex_89 => ?_)
      have px_89 := RowOK.at zfw hx_88 (show 0 ≤ (51 + x.toInt) ∧ (51 + x.toInt) < 100 by omega)
      rw [← ex_89] at px_89
      subst hQ
      have hP9 := hP.sub (ws' := [(m0, .inr (12, [.int 0, m_1, m_2, .ref w0, m_4, m_5, m_6, m_7, m_8, m_9, m_10, m_11, m_12, m_13, m_14, m_15, m_16, m_17, m_18, m_19, .int 0, m_21, m_22, m_23, m_24, m_25, m_26, m_27, m_28, m_29, m_30, m_31, m_32, m_33, .int lw, .ref e0, m_36, .ref q0, .int bro, .long val, .long sm, m_41, m_42, m_43, m_44, m_45, m_46, m_47, m_48, m_49, m_50, m_51, m_52, m_53, m_54, m_55, m_56, m_57, m_58, m_59])), (w0, .inl (K 0, 5500, .inl fw)), (e0, .inl (K 2, 13, .inr (.inl fe))), (q0, .inl (K 2, 400, .inr (.inl fq)))]) [0, 1, 2, 3] rfl
      have hD9 := hD.sub (ws' := [(m0, .inr (12, [.int 0, m_1, m_2, .ref w0, m_4, m_5, m_6, m_7, m_8, m_9, m_10, m_11, m_12, m_13, m_14, m_15, m_16, m_17, m_18, m_19, .int 0, m_21, m_22, m_23, m_24, m_25, m_26, m_27, m_28, m_29, m_30, m_31, m_32, m_33, .int lw, .ref e0, m_36, .ref q0, .int bro, .long val, .long sm, m_41, m_42, m_43, m_44, m_45, m_46, m_47, m_48, m_49, m_50, m_51, m_52, m_53, m_54, m_55, m_56, m_57, m_58, m_59])), (w0, .inl (K 0, 5500, .inl fw)), (e0, .inl (K 2, 13, .inr (.inl fe))), (q0, .inl (K 2, 400, .inr (.inl fq)))]) [0, 1, 2, 3] (by decide) rfl
      exact W.iret (v := x_89) hx hb hr (fun t ht hW => ⟨⟨x_89, ((fun _ => 0, fun _ => fun _ => 0, fun i => match i with | 0 => fe | _ => fq, fun i => match i with | 0 => lw | _ => bro, fun i => match i with | 0 => val | _ => sm, fun _ => fun _ => none) : Su), rfl, ⟨(show 0 ≤ (bro : Int32).toInt ∧ (bro : Int32).toInt ≤ 1 by omega), trivial⟩, (⟨by rw [ht]; exact hP9, hD9⟩ : Wd D A _ t)⟩, hS.F ht⟩) hS.2.2 dX12_of_115
    · refine lv_tableIn (tgt := 116) hx hb dX12_of_16 (by omega) (by omega) (by rw [w_81]; rfl) (by decide) ?_
      refine lv_aload_n hx hb dX12_of_116 rfl (lv_at hl 0 rfl) ?_
      refine va_get (ci := 12) (v := .ref w0) (C := RX12) (T := TX12) (N := 60) hx hb hts hw12 hown hK hP 0 rfl rfl 3 (by decide) (hts (.fieldLink RX12 13 "SmokeTuneModel" "row" "[I") (List.mem_cons_of_mem _ (List.mem_append_left _ (List.mem_append_left _ (List.mem_of_getElem? (i := 1) rfl))))) (fun _ h9 => h9) rfl dX12_of_117 ?_
      refine lv_bipush (v := 59) hx hb dX12_of_120 (by decide) ?_
      refine lv_iload_n hx hb dX12_of_122 rfl (lv_at hl 1 rfl) ?_
      refine lv_iadd hx hb dX12_of_123 ?_
      refine lv_topi (fun x_90 ex_90 => ?_)
      have hx_90 : x_90.toInt = (59 + x.toInt) := by rw [ex_90]; exact i_add (show (59 : Int32).toInt = 59 from rfl) rfl (by omega)
      refine va_iald hx hb hK hP 1 0 rfl rfl (i_in hx_90 (by omega)) dX12_of_124 ?_
      refine lv_topi (fun x_91 ex_91 => ?_)
      have px_91 := RowOK.at zfw hx_90 (show 0 ≤ (59 + x.toInt) ∧ (59 + x.toInt) < 100 by omega)
      rw [← ex_91] at px_91
      subst hQ
      have hP9 := hP.sub (ws' := [(m0, .inr (12, [.int 0, m_1, m_2, .ref w0, m_4, m_5, m_6, m_7, m_8, m_9, m_10, m_11, m_12, m_13, m_14, m_15, m_16, m_17, m_18, m_19, .int 0, m_21, m_22, m_23, m_24, m_25, m_26, m_27, m_28, m_29, m_30, m_31, m_32, m_33, .int lw, .ref e0, m_36, .ref q0, .int bro, .long val, .long sm, m_41, m_42, m_43, m_44, m_45, m_46, m_47, m_48, m_49, m_50, m_51, m_52, m_53, m_54, m_55, m_56, m_57, m_58, m_59])), (w0, .inl (K 0, 5500, .inl fw)), (e0, .inl (K 2, 13, .inr (.inl fe))), (q0, .inl (K 2, 400, .inr (.inl fq)))]) [0, 1, 2, 3] rfl
      have hD9 := hD.sub (ws' := [(m0, .inr (12, [.int 0, m_1, m_2, .ref w0, m_4, m_5, m_6, m_7, m_8, m_9, m_10, m_11, m_12, m_13, m_14, m_15, m_16, m_17, m_18, m_19, .int 0, m_21, m_22, m_23, m_24, m_25, m_26, m_27, m_28, m_29, m_30, m_31, m_32, m_33, .int lw, .ref e0, m_36, .ref q0, .int bro, .long val, .long sm, m_41, m_42, m_43, m_44, m_45, m_46, m_47, m_48, m_49, m_50, m_51, m_52, m_53, m_54, m_55, m_56, m_57, m_58, m_59])), (w0, .inl (K 0, 5500, .inl fw)), (e0, .inl (K 2, 13, .inr (.inl fe))), (q0, .inl (K 2, 400, .inr (.inl fq)))]) [0, 1, 2, 3] (by decide) rfl
      exact W.iret (v := x_91) hx hb hr (fun t ht hW => ⟨⟨x_91, ((fun _ => 0, fun _ => fun _ => 0, fun i => match i with | 0 => fe | _ => fq, fun i => match i with | 0 => lw | _ => bro, fun i => match i with | 0 => val | _ => sm, fun _ => fun _ => none) : Su), rfl, ⟨(show 0 ≤ (bro : Int32).toInt ∧ (bro : Int32).toInt ≤ 1 by omega), trivial⟩, (⟨by rw [ht]; exact hP9, hD9⟩ : Wd D A _ t)⟩, hS.F ht⟩) hS.2.2 dX12_of_125
    · refine lv_tableIn (tgt := 126) hx hb dX12_of_16 (by omega) (by omega) (by rw [w_81]; rfl) (by decide) ?_
      refine lv_aload_n hx hb dX12_of_126 rfl (lv_at hl 0 rfl) ?_
      refine va_get (ci := 12) (v := .ref w0) (C := RX12) (T := TX12) (N := 60) hx hb hts hw12 hown hK hP 0 rfl rfl 3 (by decide) (hts (.fieldLink RX12 13 "SmokeTuneModel" "row" "[I") (List.mem_cons_of_mem _ (List.mem_append_left _ (List.mem_append_left _ (List.mem_of_getElem? (i := 1) rfl))))) (fun _ h9 => h9) rfl dX12_of_127 ?_
      refine lv_bipush (v := 11) hx hb dX12_of_130 (by decide) ?_
      refine lv_iload_n hx hb dX12_of_132 rfl (lv_at hl 1 rfl) ?_
      refine lv_iadd hx hb dX12_of_133 ?_
      refine lv_topi (fun x_92 ex_92 => ?_)
      have hx_92 : x_92.toInt = (11 + x.toInt) := by rw [ex_92]; exact i_add (show (11 : Int32).toInt = 11 from rfl) rfl (by omega)
      refine va_iald hx hb hK hP 1 0 rfl rfl (i_in hx_92 (by omega)) dX12_of_134 ?_
      refine lv_topi (fun x_93 ex_93 => ?_)
      have px_93 := RowOK.at zfw hx_92 (show 0 ≤ (11 + x.toInt) ∧ (11 + x.toInt) < 100 by omega)
      rw [← ex_93] at px_93
      have hx_93 := PR.r_11 px_93 (by omega)
      subst hQ
      have hP9 := hP.sub (ws' := [(m0, .inr (12, [.int 0, m_1, m_2, .ref w0, m_4, m_5, m_6, m_7, m_8, m_9, m_10, m_11, m_12, m_13, m_14, m_15, m_16, m_17, m_18, m_19, .int 0, m_21, m_22, m_23, m_24, m_25, m_26, m_27, m_28, m_29, m_30, m_31, m_32, m_33, .int lw, .ref e0, m_36, .ref q0, .int bro, .long val, .long sm, m_41, m_42, m_43, m_44, m_45, m_46, m_47, m_48, m_49, m_50, m_51, m_52, m_53, m_54, m_55, m_56, m_57, m_58, m_59])), (w0, .inl (K 0, 5500, .inl fw)), (e0, .inl (K 2, 13, .inr (.inl fe))), (q0, .inl (K 2, 400, .inr (.inl fq)))]) [0, 1, 2, 3] rfl
      have hD9 := hD.sub (ws' := [(m0, .inr (12, [.int 0, m_1, m_2, .ref w0, m_4, m_5, m_6, m_7, m_8, m_9, m_10, m_11, m_12, m_13, m_14, m_15, m_16, m_17, m_18, m_19, .int 0, m_21, m_22, m_23, m_24, m_25, m_26, m_27, m_28, m_29, m_30, m_31, m_32, m_33, .int lw, .ref e0, m_36, .ref q0, .int bro, .long val, .long sm, m_41, m_42, m_43, m_44, m_45, m_46, m_47, m_48, m_49, m_50, m_51, m_52, m_53, m_54, m_55, m_56, m_57, m_58, m_59])), (w0, .inl (K 0, 5500, .inl fw)), (e0, .inl (K 2, 13, .inr (.inl fe))), (q0, .inl (K 2, 400, .inr (.inl fq)))]) [0, 1, 2, 3] (by decide) rfl
      exact W.iret (v := x_93) hx hb hr (fun t ht hW => ⟨⟨x_93, ((fun _ => 0, fun _ => fun _ => 0, fun i => match i with | 0 => fe | _ => fq, fun i => match i with | 0 => lw | _ => bro, fun i => match i with | 0 => val | _ => sm, fun _ => fun _ => none) : Su), rfl, ⟨(show 0 ≤ (bro : Int32).toInt ∧ (bro : Int32).toInt ≤ 1 by omega), trivial⟩, (⟨by rw [ht]; exact hP9, hD9⟩ : Wd D A _ t)⟩, hS.F ht⟩) hS.2.2 dX12_of_135
    · refine lv_tableIn (tgt := 136) hx hb dX12_of_16 (by omega) (by omega) (by rw [w_81]; rfl) (by decide) ?_
      refine lv_aload_n hx hb dX12_of_136 rfl (lv_at hl 0 rfl) ?_
      refine va_get (ci := 12) (v := .ref w0) (C := RX12) (T := TX12) (N := 60) hx hb hts hw12 hown hK hP 0 rfl rfl 3 (by decide) (hts (.fieldLink RX12 13 "SmokeTuneModel" "row" "[I") (List.mem_cons_of_mem _ (List.mem_append_left _ (List.mem_append_left _ (List.mem_of_getElem? (i := 1) rfl))))) (fun _ h9 => h9) rfl dX12_of_137 ?_
      refine lv_bipush (v := 27) hx hb dX12_of_140 (by decide) ?_
      refine lv_iload_n hx hb dX12_of_142 rfl (lv_at hl 1 rfl) ?_
      refine lv_iadd hx hb dX12_of_143 ?_
      refine lv_topi (fun x_94 ex_94 => ?_)
      have hx_94 : x_94.toInt = (27 + x.toInt) := by rw [ex_94]; exact i_add (show (27 : Int32).toInt = 27 from rfl) rfl (by omega)
      refine va_iald hx hb hK hP 1 0 rfl rfl (i_in hx_94 (by omega)) dX12_of_144 ?_
      refine lv_topi (fun x_95 ex_95 => ?_)
      have px_95 := RowOK.at zfw hx_94 (show 0 ≤ (27 + x.toInt) ∧ (27 + x.toInt) < 100 by omega)
      rw [← ex_95] at px_95
      subst hQ
      have hP9 := hP.sub (ws' := [(m0, .inr (12, [.int 0, m_1, m_2, .ref w0, m_4, m_5, m_6, m_7, m_8, m_9, m_10, m_11, m_12, m_13, m_14, m_15, m_16, m_17, m_18, m_19, .int 0, m_21, m_22, m_23, m_24, m_25, m_26, m_27, m_28, m_29, m_30, m_31, m_32, m_33, .int lw, .ref e0, m_36, .ref q0, .int bro, .long val, .long sm, m_41, m_42, m_43, m_44, m_45, m_46, m_47, m_48, m_49, m_50, m_51, m_52, m_53, m_54, m_55, m_56, m_57, m_58, m_59])), (w0, .inl (K 0, 5500, .inl fw)), (e0, .inl (K 2, 13, .inr (.inl fe))), (q0, .inl (K 2, 400, .inr (.inl fq)))]) [0, 1, 2, 3] rfl
      have hD9 := hD.sub (ws' := [(m0, .inr (12, [.int 0, m_1, m_2, .ref w0, m_4, m_5, m_6, m_7, m_8, m_9, m_10, m_11, m_12, m_13, m_14, m_15, m_16, m_17, m_18, m_19, .int 0, m_21, m_22, m_23, m_24, m_25, m_26, m_27, m_28, m_29, m_30, m_31, m_32, m_33, .int lw, .ref e0, m_36, .ref q0, .int bro, .long val, .long sm, m_41, m_42, m_43, m_44, m_45, m_46, m_47, m_48, m_49, m_50, m_51, m_52, m_53, m_54, m_55, m_56, m_57, m_58, m_59])), (w0, .inl (K 0, 5500, .inl fw)), (e0, .inl (K 2, 13, .inr (.inl fe))), (q0, .inl (K 2, 400, .inr (.inl fq)))]) [0, 1, 2, 3] (by decide) rfl
      exact W.iret (v := x_95) hx hb hr (fun t ht hW => ⟨⟨x_95, ((fun _ => 0, fun _ => fun _ => 0, fun i => match i with | 0 => fe | _ => fq, fun i => match i with | 0 => lw | _ => bro, fun i => match i with | 0 => val | _ => sm, fun _ => fun _ => none) : Su), rfl, ⟨(show 0 ≤ (bro : Int32).toInt ∧ (bro : Int32).toInt ≤ 1 by omega), trivial⟩, (⟨by rw [ht]; exact hP9, hD9⟩ : Wd D A _ t)⟩, hS.F ht⟩) hS.2.2 dX12_of_145
    · refine lv_tableIn (tgt := 146) hx hb dX12_of_16 (by omega) (by omega) (by rw [w_81]; rfl) (by decide) ?_
      refine lv_aload_n hx hb dX12_of_146 rfl (lv_at hl 0 rfl) ?_
      refine lv_iload_n hx hb dX12_of_147 rfl (lv_at hl 1 rfl) ?_
      refine pci (va_runV (As := [.int x]) (rest := []) ⟨hx, hb, hml, hown, hts⟩ (v_isSounding l D K m0 x (.int 0) m_1 m_2 w0 m_4 m_5 m_6 m_7 m_8 m_9 m_10 m_11 m_12 m_13 m_14 m_15 m_16 m_17 m_18 m_19 (.int 0) m_21 m_22 m_23 m_24 m_25 m_26 m_27 m_28 m_29 m_30 m_31 m_32 m_33 (.int lw) (.ref e0) m_36 (.ref q0) (.int bro) (.long val) (.long sm) m_41 m_42 m_43 m_44 m_45 m_46 m_47 m_48 m_49 m_50 m_51 m_52 m_53 m_54 m_55 m_56 m_57 m_58 m_59 fw H.size (by first | omega | decide) zfw) (cwV 1 hts gX12_of_X12_isSounding rfl rfl rfl (by decide +kernel) ⟨Nat.le_of_ble_eq_true rfl, Nat.le_of_ble_eq_true rfl⟩) (mkV hK hN (hP.sub [0, 1] rfl) (hD.sub [0, 1] (by decide) rfl) (ci := 12) (q0 := 0) rfl rfl) rfl rfl hl.1 rfl (lv_room (Nat.le_of_ble_eq_true rfl)) dX12_of_148 ⟨Nat.le_of_ble_eq_true rfl, Nat.le_of_ble_eq_true rfl⟩) (fun r_96 hw => ?_)
      obtain ⟨h_97, -⟩ := hw
      refine lv_if_eq (tgt := 158) hx hb dX12_of_151 (by decide) (fun c_98 => ?_) (fun c_98 => ?_)
      · have c_98i := i_eq (x := r_96.toInt) (y := 0) rfl rfl c_98
        refine lv_iconst (v := 0) hx hb dX12_of_158 (by decide) ?_
        subst hQ
        have hP9 := hP.sub (ws' := [(m0, .inr (12, [.int 0, m_1, m_2, .ref w0, m_4, m_5, m_6, m_7, m_8, m_9, m_10, m_11, m_12, m_13, m_14, m_15, m_16, m_17, m_18, m_19, .int 0, m_21, m_22, m_23, m_24, m_25, m_26, m_27, m_28, m_29, m_30, m_31, m_32, m_33, .int lw, .ref e0, m_36, .ref q0, .int bro, .long val, .long sm, m_41, m_42, m_43, m_44, m_45, m_46, m_47, m_48, m_49, m_50, m_51, m_52, m_53, m_54, m_55, m_56, m_57, m_58, m_59])), (w0, .inl (K 0, 5500, .inl fw)), (e0, .inl (K 2, 13, .inr (.inl fe))), (q0, .inl (K 2, 400, .inr (.inl fq)))]) [0, 1, 2, 3] rfl
        have hD9 := hD.sub (ws' := [(m0, .inr (12, [.int 0, m_1, m_2, .ref w0, m_4, m_5, m_6, m_7, m_8, m_9, m_10, m_11, m_12, m_13, m_14, m_15, m_16, m_17, m_18, m_19, .int 0, m_21, m_22, m_23, m_24, m_25, m_26, m_27, m_28, m_29, m_30, m_31, m_32, m_33, .int lw, .ref e0, m_36, .ref q0, .int bro, .long val, .long sm, m_41, m_42, m_43, m_44, m_45, m_46, m_47, m_48, m_49, m_50, m_51, m_52, m_53, m_54, m_55, m_56, m_57, m_58, m_59])), (w0, .inl (K 0, 5500, .inl fw)), (e0, .inl (K 2, 13, .inr (.inl fe))), (q0, .inl (K 2, 400, .inr (.inl fq)))]) [0, 1, 2, 3] (by decide) rfl
        exact W.iret (v := 0) hx hb hr (fun t ht hW => ⟨⟨0, ((fun _ => 0, fun _ => fun _ => 0, fun i => match i with | 0 => fe | _ => fq, fun i => match i with | 0 => lw | _ => bro, fun i => match i with | 0 => val | _ => sm, fun _ => fun _ => none) : Su), rfl, ⟨(show 0 ≤ (bro : Int32).toInt ∧ (bro : Int32).toInt ≤ 1 by omega), trivial⟩, (⟨by rw [ht]; exact hP9, hD9⟩ : Wd D A _ t)⟩, hS.F ht⟩) hS.2.2 dX12_of_159
      · have c_98i := i_ne (x := r_96.toInt) (y := 0) rfl rfl c_98
        refine lv_iconst (v := 1) hx hb dX12_of_154 (by decide) ?_
        refine lv_goto (tgt := 159) hx hb dX12_of_155 (by decide) ?_
        subst hQ
        have hP9 := hP.sub (ws' := [(m0, .inr (12, [.int 0, m_1, m_2, .ref w0, m_4, m_5, m_6, m_7, m_8, m_9, m_10, m_11, m_12, m_13, m_14, m_15, m_16, m_17, m_18, m_19, .int 0, m_21, m_22, m_23, m_24, m_25, m_26, m_27, m_28, m_29, m_30, m_31, m_32, m_33, .int lw, .ref e0, m_36, .ref q0, .int bro, .long val, .long sm, m_41, m_42, m_43, m_44, m_45, m_46, m_47, m_48, m_49, m_50, m_51, m_52, m_53, m_54, m_55, m_56, m_57, m_58, m_59])), (w0, .inl (K 0, 5500, .inl fw)), (e0, .inl (K 2, 13, .inr (.inl fe))), (q0, .inl (K 2, 400, .inr (.inl fq)))]) [0, 1, 2, 3] rfl
        have hD9 := hD.sub (ws' := [(m0, .inr (12, [.int 0, m_1, m_2, .ref w0, m_4, m_5, m_6, m_7, m_8, m_9, m_10, m_11, m_12, m_13, m_14, m_15, m_16, m_17, m_18, m_19, .int 0, m_21, m_22, m_23, m_24, m_25, m_26, m_27, m_28, m_29, m_30, m_31, m_32, m_33, .int lw, .ref e0, m_36, .ref q0, .int bro, .long val, .long sm, m_41, m_42, m_43, m_44, m_45, m_46, m_47, m_48, m_49, m_50, m_51, m_52, m_53, m_54, m_55, m_56, m_57, m_58, m_59])), (w0, .inl (K 0, 5500, .inl fw)), (e0, .inl (K 2, 13, .inr (.inl fe))), (q0, .inl (K 2, 400, .inr (.inl fq)))]) [0, 1, 2, 3] (by decide) rfl
        exact W.iret (v := 1) hx hb hr (fun t ht hW => ⟨⟨1, ((fun _ => 0, fun _ => fun _ => 0, fun i => match i with | 0 => fe | _ => fq, fun i => match i with | 0 => lw | _ => bro, fun i => match i with | 0 => val | _ => sm, fun _ => fun _ => none) : Su), rfl, ⟨(show 0 ≤ (bro : Int32).toInt ∧ (bro : Int32).toInt ≤ 1 by omega), trivial⟩, (⟨by rw [ht]; exact hP9, hD9⟩ : Wd D A _ t)⟩, hS.F ht⟩) hS.2.2 dX12_of_159
    · refine lv_tableIn (tgt := 160) hx hb dX12_of_16 (by omega) (by omega) (by rw [w_81]; rfl) (by decide) ?_
      refine lv_aload_n hx hb dX12_of_160 rfl (lv_at hl 0 rfl) ?_
      refine lv_aload_n hx hb dX12_of_161 rfl (lv_at hl 0 rfl) ?_
      refine va_get (ci := 12) (v := .ref w0) (C := RX12) (T := TX12) (N := 60) hx hb hts hw12 hown hK hP 0 rfl rfl 3 (by decide) (hts (.fieldLink RX12 13 "SmokeTuneModel" "row" "[I") (List.mem_cons_of_mem _ (List.mem_append_left _ (List.mem_append_left _ (List.mem_of_getElem? (i := 1) rfl))))) (fun _ h9 => h9) rfl dX12_of_162 ?_
      refine lv_iconst (v := 3) hx hb dX12_of_165 (by decide) ?_
      refine va_iald hx hb hK hP 1 0 rfl rfl (i_in (x := 3) rfl (by omega)) dX12_of_166 ?_
      refine lv_topi (fun x_99 ex_99 => ?_)
      have px_99 := RowOK.at zfw (show (3 : Int32).toInt = 3 from rfl) (show 0 ≤ 3 ∧ 3 < 100 by omega)
      rw [← ex_99] at px_99
      have hx_99 := PR.r_3 px_99 (by omega)
      refine lv_iload_n hx hb dX12_of_167 rfl (lv_at hl 1 rfl) ?_
      refine kci (S := Su) (wr := []) (va_runV (As := [.int x_99, .int x]) (rest := []) ⟨hx, hb, hml, hown, hts⟩ (v_burnsOf l D K m0 x_99 x (.int 0) m_1 m_2 w0 m_4 m_5 m_6 m_7 m_8 m_9 m_10 m_11 m_12 m_13 m_14 m_15 m_16 m_17 m_18 m_19 m_21 m_22 m_23 m_24 m_25 m_26 m_27 m_28 m_29 m_30 m_31 m_32 m_33 lw e0 m_36 q0 bro val sm m_41 m_42 m_43 m_44 m_45 m_46 m_47 m_48 m_49 m_50 m_51 m_52 m_53 m_54 m_55 m_56 m_57 m_58 m_59 fw fe fq H.size (by first | omega | decide) (by first | omega | decide) (by first | omega | decide) zfw) (cwV 2 hts gX12_of_X12_burnsOf rfl rfl rfl (by decide +kernel) ⟨Nat.le_of_ble_eq_true rfl, Nat.le_of_ble_eq_true rfl⟩) (mkV hK hN (hP.sub [0, 1, 2, 3] rfl) (hD.sub [0, 1, 2, 3] (by decide) rfl) (ci := 12) (q0 := 0) rfl rfl) rfl rfl hl.1 rfl (lv_room (Nat.le_of_ble_eq_true rfl)) dX12_of_168 ⟨Nat.le_of_ble_eq_true rfl, Nat.le_of_ble_eq_true rfl⟩) hP hD hS hA [0, 1, 2, 3] [] rfl rfl (by decide) (by decide) (fun r_100 u_101 H locs hw hP hD hS => ?_)
      have hP : va_P D vwCl [(m0, .inr (12, [.int 0, m_1, m_2, .ref w0, m_4, m_5, m_6, m_7, m_8, m_9, m_10, m_11, m_12, m_13, m_14, m_15, m_16, m_17, m_18, m_19, .int 0, m_21, m_22, m_23, m_24, m_25, m_26, m_27, m_28, m_29, m_30, m_31, m_32, m_33, .int (u_101.2.2.2.1 0), .ref e0, m_36, .ref q0, .int (u_101.2.2.2.1 1), .long (u_101.2.2.2.2.1 0), .long (u_101.2.2.2.2.1 1), m_41, m_42, m_43, m_44, m_45, m_46, m_47, m_48, m_49, m_50, m_51, m_52, m_53, m_54, m_55, m_56, m_57, m_58, m_59])), (w0, .inl (K 0, 5500, .inl fw)), (e0, .inl (K 2, 13, .inr (.inl (u_101.2.2.1 0)))), (q0, .inl (K 2, 400, .inr (.inl (u_101.2.2.1 1))))] H := hP
      have hD : va_D A [(m0, .inr (12, [.int 0, m_1, m_2, .ref w0, m_4, m_5, m_6, m_7, m_8, m_9, m_10, m_11, m_12, m_13, m_14, m_15, m_16, m_17, m_18, m_19, .int 0, m_21, m_22, m_23, m_24, m_25, m_26, m_27, m_28, m_29, m_30, m_31, m_32, m_33, .int (u_101.2.2.2.1 0), .ref e0, m_36, .ref q0, .int (u_101.2.2.2.1 1), .long (u_101.2.2.2.2.1 0), .long (u_101.2.2.2.2.1 1), m_41, m_42, m_43, m_44, m_45, m_46, m_47, m_48, m_49, m_50, m_51, m_52, m_53, m_54, m_55, m_56, m_57, m_58, m_59])), (w0, .inl (K 0, 5500, .inl fw)), (e0, .inl (K 2, 13, .inr (.inl (u_101.2.2.1 0)))), (q0, .inl (K 2, 400, .inr (.inl (u_101.2.2.1 1))))] := hD
      obtain ⟨h_103, k_102, -⟩ := hw
      subst hQ
      have hP9 := hP.sub (ws' := [(m0, .inr (12, [.int 0, m_1, m_2, .ref w0, m_4, m_5, m_6, m_7, m_8, m_9, m_10, m_11, m_12, m_13, m_14, m_15, m_16, m_17, m_18, m_19, .int 0, m_21, m_22, m_23, m_24, m_25, m_26, m_27, m_28, m_29, m_30, m_31, m_32, m_33, .int (u_101.2.2.2.1 0), .ref e0, m_36, .ref q0, .int (u_101.2.2.2.1 1), .long (u_101.2.2.2.2.1 0), .long (u_101.2.2.2.2.1 1), m_41, m_42, m_43, m_44, m_45, m_46, m_47, m_48, m_49, m_50, m_51, m_52, m_53, m_54, m_55, m_56, m_57, m_58, m_59])), (w0, .inl (K 0, 5500, .inl fw)), (e0, .inl (K 2, 13, .inr (.inl (u_101.2.2.1 0)))), (q0, .inl (K 2, 400, .inr (.inl (u_101.2.2.1 1))))]) [0, 1, 2, 3] rfl
      have hD9 := hD.sub (ws' := [(m0, .inr (12, [.int 0, m_1, m_2, .ref w0, m_4, m_5, m_6, m_7, m_8, m_9, m_10, m_11, m_12, m_13, m_14, m_15, m_16, m_17, m_18, m_19, .int 0, m_21, m_22, m_23, m_24, m_25, m_26, m_27, m_28, m_29, m_30, m_31, m_32, m_33, .int (u_101.2.2.2.1 0), .ref e0, m_36, .ref q0, .int (u_101.2.2.2.1 1), .long (u_101.2.2.2.2.1 0), .long (u_101.2.2.2.2.1 1), m_41, m_42, m_43, m_44, m_45, m_46, m_47, m_48, m_49, m_50, m_51, m_52, m_53, m_54, m_55, m_56, m_57, m_58, m_59])), (w0, .inl (K 0, 5500, .inl fw)), (e0, .inl (K 2, 13, .inr (.inl (u_101.2.2.1 0)))), (q0, .inl (K 2, 400, .inr (.inl (u_101.2.2.1 1))))]) [0, 1, 2, 3] (by decide) rfl
      exact W.iret (v := r_100) hx hb hr (fun t ht hW => ⟨⟨r_100, ((fun _ => 0, fun _ => fun _ => 0, fun i => match i with | 0 => (u_101.2.2.1 0) | _ => (u_101.2.2.1 1), fun i => match i with | 0 => (u_101.2.2.2.1 0) | _ => (u_101.2.2.2.1 1), fun i => match i with | 0 => (u_101.2.2.2.2.1 0) | _ => (u_101.2.2.2.2.1 1), fun _ => fun _ => none) : Su), rfl, ⟨(show 0 ≤ ((u_101.2.2.2.1 1) : Int32).toInt ∧ ((u_101.2.2.2.1 1) : Int32).toInt ≤ 1 by omega), trivial⟩, (⟨by rw [ht]; exact hP9, hD9⟩ : Wd D A _ t)⟩, hS.F ht⟩) hS.2.2 dX12_of_171
    · refine lv_tableIn (tgt := 172) hx hb dX12_of_16 (by omega) (by omega) (by rw [w_81]; rfl) (by decide) ?_
      refine lv_aload_n hx hb dX12_of_172 rfl (lv_at hl 0 rfl) ?_
      refine lv_aload_n hx hb dX12_of_173 rfl (lv_at hl 0 rfl) ?_
      refine va_get (ci := 12) (v := .ref w0) (C := RX12) (T := TX12) (N := 60) hx hb hts hw12 hown hK hP 0 rfl rfl 3 (by decide) (hts (.fieldLink RX12 13 "SmokeTuneModel" "row" "[I") (List.mem_cons_of_mem _ (List.mem_append_left _ (List.mem_append_left _ (List.mem_of_getElem? (i := 1) rfl))))) (fun _ h9 => h9) rfl dX12_of_174 ?_
      refine lv_iconst (v := 3) hx hb dX12_of_177 (by decide) ?_
      refine va_iald hx hb hK hP 1 0 rfl rfl (i_in (x := 3) rfl (by omega)) dX12_of_178 ?_
      refine lv_topi (fun x_104 ex_104 => ?_)
      have px_104 := RowOK.at zfw (show (3 : Int32).toInt = 3 from rfl) (show 0 ≤ 3 ∧ 3 < 100 by omega)
      rw [← ex_104] at px_104
      have hx_104 := PR.r_3 px_104 (by omega)
      refine lv_iload_n hx hb dX12_of_179 rfl (lv_at hl 1 rfl) ?_
      refine kci (S := Su) (wr := []) (va_runV (As := [.int x_104, .int x]) (rest := []) ⟨hx, hb, hml, hown, hts⟩ (v_flaresOf l D K m0 x_104 x (.int 0) m_1 m_2 w0 m_4 m_5 m_6 m_7 m_8 m_9 m_10 m_11 m_12 m_13 m_14 m_15 m_16 m_17 m_18 m_19 m_21 m_22 m_23 m_24 m_25 m_26 m_27 m_28 m_29 m_30 m_31 m_32 m_33 lw e0 m_36 q0 bro val sm m_41 m_42 m_43 m_44 m_45 m_46 m_47 m_48 m_49 m_50 m_51 m_52 m_53 m_54 m_55 m_56 m_57 m_58 m_59 fw fe fq H.size (by first | omega | decide) (by first | omega | decide) (by first | omega | decide) zfw) (cwV 2 hts gX12_of_X12_flaresOf rfl rfl rfl (by decide +kernel) ⟨Nat.le_of_ble_eq_true rfl, Nat.le_of_ble_eq_true rfl⟩) (mkV hK hN (hP.sub [0, 1, 2, 3] rfl) (hD.sub [0, 1, 2, 3] (by decide) rfl) (ci := 12) (q0 := 0) rfl rfl) rfl rfl hl.1 rfl (lv_room (Nat.le_of_ble_eq_true rfl)) dX12_of_180 ⟨Nat.le_of_ble_eq_true rfl, Nat.le_of_ble_eq_true rfl⟩) hP hD hS hA [0, 1, 2, 3] [] rfl rfl (by decide) (by decide) (fun r_105 u_106 H locs hw hP hD hS => ?_)
      have hP : va_P D vwCl [(m0, .inr (12, [.int 0, m_1, m_2, .ref w0, m_4, m_5, m_6, m_7, m_8, m_9, m_10, m_11, m_12, m_13, m_14, m_15, m_16, m_17, m_18, m_19, .int 0, m_21, m_22, m_23, m_24, m_25, m_26, m_27, m_28, m_29, m_30, m_31, m_32, m_33, .int (u_106.2.2.2.1 0), .ref e0, m_36, .ref q0, .int (u_106.2.2.2.1 1), .long (u_106.2.2.2.2.1 0), .long (u_106.2.2.2.2.1 1), m_41, m_42, m_43, m_44, m_45, m_46, m_47, m_48, m_49, m_50, m_51, m_52, m_53, m_54, m_55, m_56, m_57, m_58, m_59])), (w0, .inl (K 0, 5500, .inl fw)), (e0, .inl (K 2, 13, .inr (.inl (u_106.2.2.1 0)))), (q0, .inl (K 2, 400, .inr (.inl (u_106.2.2.1 1))))] H := hP
      have hD : va_D A [(m0, .inr (12, [.int 0, m_1, m_2, .ref w0, m_4, m_5, m_6, m_7, m_8, m_9, m_10, m_11, m_12, m_13, m_14, m_15, m_16, m_17, m_18, m_19, .int 0, m_21, m_22, m_23, m_24, m_25, m_26, m_27, m_28, m_29, m_30, m_31, m_32, m_33, .int (u_106.2.2.2.1 0), .ref e0, m_36, .ref q0, .int (u_106.2.2.2.1 1), .long (u_106.2.2.2.2.1 0), .long (u_106.2.2.2.2.1 1), m_41, m_42, m_43, m_44, m_45, m_46, m_47, m_48, m_49, m_50, m_51, m_52, m_53, m_54, m_55, m_56, m_57, m_58, m_59])), (w0, .inl (K 0, 5500, .inl fw)), (e0, .inl (K 2, 13, .inr (.inl (u_106.2.2.1 0)))), (q0, .inl (K 2, 400, .inr (.inl (u_106.2.2.1 1))))] := hD
      obtain ⟨h_108, k_107, -⟩ := hw
      subst hQ
      have hP9 := hP.sub (ws' := [(m0, .inr (12, [.int 0, m_1, m_2, .ref w0, m_4, m_5, m_6, m_7, m_8, m_9, m_10, m_11, m_12, m_13, m_14, m_15, m_16, m_17, m_18, m_19, .int 0, m_21, m_22, m_23, m_24, m_25, m_26, m_27, m_28, m_29, m_30, m_31, m_32, m_33, .int (u_106.2.2.2.1 0), .ref e0, m_36, .ref q0, .int (u_106.2.2.2.1 1), .long (u_106.2.2.2.2.1 0), .long (u_106.2.2.2.2.1 1), m_41, m_42, m_43, m_44, m_45, m_46, m_47, m_48, m_49, m_50, m_51, m_52, m_53, m_54, m_55, m_56, m_57, m_58, m_59])), (w0, .inl (K 0, 5500, .inl fw)), (e0, .inl (K 2, 13, .inr (.inl (u_106.2.2.1 0)))), (q0, .inl (K 2, 400, .inr (.inl (u_106.2.2.1 1))))]) [0, 1, 2, 3] rfl
      have hD9 := hD.sub (ws' := [(m0, .inr (12, [.int 0, m_1, m_2, .ref w0, m_4, m_5, m_6, m_7, m_8, m_9, m_10, m_11, m_12, m_13, m_14, m_15, m_16, m_17, m_18, m_19, .int 0, m_21, m_22, m_23, m_24, m_25, m_26, m_27, m_28, m_29, m_30, m_31, m_32, m_33, .int (u_106.2.2.2.1 0), .ref e0, m_36, .ref q0, .int (u_106.2.2.2.1 1), .long (u_106.2.2.2.2.1 0), .long (u_106.2.2.2.2.1 1), m_41, m_42, m_43, m_44, m_45, m_46, m_47, m_48, m_49, m_50, m_51, m_52, m_53, m_54, m_55, m_56, m_57, m_58, m_59])), (w0, .inl (K 0, 5500, .inl fw)), (e0, .inl (K 2, 13, .inr (.inl (u_106.2.2.1 0)))), (q0, .inl (K 2, 400, .inr (.inl (u_106.2.2.1 1))))]) [0, 1, 2, 3] (by decide) rfl
      exact W.iret (v := r_105) hx hb hr (fun t ht hW => ⟨⟨r_105, ((fun _ => 0, fun _ => fun _ => 0, fun i => match i with | 0 => (u_106.2.2.1 0) | _ => (u_106.2.2.1 1), fun i => match i with | 0 => (u_106.2.2.2.1 0) | _ => (u_106.2.2.2.1 1), fun i => match i with | 0 => (u_106.2.2.2.2.1 0) | _ => (u_106.2.2.2.2.1 1), fun _ => fun _ => none) : Su), rfl, ⟨(show 0 ≤ ((u_106.2.2.2.1 1) : Int32).toInt ∧ ((u_106.2.2.2.1 1) : Int32).toInt ≤ 1 by omega), trivial⟩, (⟨by rw [ht]; exact hP9, hD9⟩ : Wd D A _ t)⟩, hS.F ht⟩) hS.2.2 dX12_of_183
    · refine lv_tableIn (tgt := 184) hx hb dX12_of_16 (by omega) (by omega) (by rw [w_81]; rfl) (by decide) ?_
      refine lv_aload_n hx hb dX12_of_184 rfl (lv_at hl 0 rfl) ?_
      refine lv_iload_n hx hb dX12_of_185 rfl (lv_at hl 1 rfl) ?_
      refine kci (S := Su) (wr := []) (va_runV (As := [.int x]) (rest := []) ⟨hx, hb, hml, hown, hts⟩ (v_isBarred l D K m0 x (.int 0) m_1 m_2 w0 m_4 m_5 m_6 m_7 m_8 m_9 m_10 m_11 m_12 m_13 m_14 m_15 m_16 m_17 m_18 m_19 m_21 m_22 m_23 m_24 m_25 m_26 m_27 m_28 m_29 m_30 m_31 m_32 m_33 lw e0 m_36 q0 bro val sm m_41 m_42 m_43 m_44 m_45 m_46 m_47 m_48 m_49 m_50 m_51 m_52 m_53 m_54 m_55 m_56 m_57 m_58 m_59 fw fe fq H.size (by first | omega | decide) (by first | omega | decide) zfw) (cwV 1 hts gX12_of_X12_isBarred rfl rfl rfl (by decide +kernel) ⟨Nat.le_of_ble_eq_true rfl, Nat.le_of_ble_eq_true rfl⟩) (mkV hK hN (hP.sub [0, 1, 2, 3] rfl) (hD.sub [0, 1, 2, 3] (by decide) rfl) (ci := 12) (q0 := 0) rfl rfl) rfl rfl hl.1 rfl (lv_room (Nat.le_of_ble_eq_true rfl)) dX12_of_186 ⟨Nat.le_of_ble_eq_true rfl, Nat.le_of_ble_eq_true rfl⟩) hP hD hS hA [0, 1, 2, 3] [] rfl rfl (by decide) (by decide) (fun r_109 u_110 H locs hw hP hD hS => ?_)
      have hP : va_P D vwCl [(m0, .inr (12, [.int 0, m_1, m_2, .ref w0, m_4, m_5, m_6, m_7, m_8, m_9, m_10, m_11, m_12, m_13, m_14, m_15, m_16, m_17, m_18, m_19, .int 0, m_21, m_22, m_23, m_24, m_25, m_26, m_27, m_28, m_29, m_30, m_31, m_32, m_33, .int (u_110.2.2.2.1 0), .ref e0, m_36, .ref q0, .int (u_110.2.2.2.1 1), .long (u_110.2.2.2.2.1 0), .long (u_110.2.2.2.2.1 1), m_41, m_42, m_43, m_44, m_45, m_46, m_47, m_48, m_49, m_50, m_51, m_52, m_53, m_54, m_55, m_56, m_57, m_58, m_59])), (w0, .inl (K 0, 5500, .inl fw)), (e0, .inl (K 2, 13, .inr (.inl (u_110.2.2.1 0)))), (q0, .inl (K 2, 400, .inr (.inl (u_110.2.2.1 1))))] H := hP
      have hD : va_D A [(m0, .inr (12, [.int 0, m_1, m_2, .ref w0, m_4, m_5, m_6, m_7, m_8, m_9, m_10, m_11, m_12, m_13, m_14, m_15, m_16, m_17, m_18, m_19, .int 0, m_21, m_22, m_23, m_24, m_25, m_26, m_27, m_28, m_29, m_30, m_31, m_32, m_33, .int (u_110.2.2.2.1 0), .ref e0, m_36, .ref q0, .int (u_110.2.2.2.1 1), .long (u_110.2.2.2.2.1 0), .long (u_110.2.2.2.2.1 1), m_41, m_42, m_43, m_44, m_45, m_46, m_47, m_48, m_49, m_50, m_51, m_52, m_53, m_54, m_55, m_56, m_57, m_58, m_59])), (w0, .inl (K 0, 5500, .inl fw)), (e0, .inl (K 2, 13, .inr (.inl (u_110.2.2.1 0)))), (q0, .inl (K 2, 400, .inr (.inl (u_110.2.2.1 1))))] := hD
      obtain ⟨h_112, k_111, -⟩ := hw
      refine lv_if_eq (tgt := 196) hx hb dX12_of_189 (by decide) (fun c_113 => ?_) (fun c_113 => ?_)
      · have c_113i := i_eq (x := r_109.toInt) (y := 0) rfl rfl c_113
        refine lv_iconst (v := 0) hx hb dX12_of_196 (by decide) ?_
        subst hQ
        have hP9 := hP.sub (ws' := [(m0, .inr (12, [.int 0, m_1, m_2, .ref w0, m_4, m_5, m_6, m_7, m_8, m_9, m_10, m_11, m_12, m_13, m_14, m_15, m_16, m_17, m_18, m_19, .int 0, m_21, m_22, m_23, m_24, m_25, m_26, m_27, m_28, m_29, m_30, m_31, m_32, m_33, .int (u_110.2.2.2.1 0), .ref e0, m_36, .ref q0, .int (u_110.2.2.2.1 1), .long (u_110.2.2.2.2.1 0), .long (u_110.2.2.2.2.1 1), m_41, m_42, m_43, m_44, m_45, m_46, m_47, m_48, m_49, m_50, m_51, m_52, m_53, m_54, m_55, m_56, m_57, m_58, m_59])), (w0, .inl (K 0, 5500, .inl fw)), (e0, .inl (K 2, 13, .inr (.inl (u_110.2.2.1 0)))), (q0, .inl (K 2, 400, .inr (.inl (u_110.2.2.1 1))))]) [0, 1, 2, 3] rfl
        have hD9 := hD.sub (ws' := [(m0, .inr (12, [.int 0, m_1, m_2, .ref w0, m_4, m_5, m_6, m_7, m_8, m_9, m_10, m_11, m_12, m_13, m_14, m_15, m_16, m_17, m_18, m_19, .int 0, m_21, m_22, m_23, m_24, m_25, m_26, m_27, m_28, m_29, m_30, m_31, m_32, m_33, .int (u_110.2.2.2.1 0), .ref e0, m_36, .ref q0, .int (u_110.2.2.2.1 1), .long (u_110.2.2.2.2.1 0), .long (u_110.2.2.2.2.1 1), m_41, m_42, m_43, m_44, m_45, m_46, m_47, m_48, m_49, m_50, m_51, m_52, m_53, m_54, m_55, m_56, m_57, m_58, m_59])), (w0, .inl (K 0, 5500, .inl fw)), (e0, .inl (K 2, 13, .inr (.inl (u_110.2.2.1 0)))), (q0, .inl (K 2, 400, .inr (.inl (u_110.2.2.1 1))))]) [0, 1, 2, 3] (by decide) rfl
        exact W.iret (v := 0) hx hb hr (fun t ht hW => ⟨⟨0, ((fun _ => 0, fun _ => fun _ => 0, fun i => match i with | 0 => (u_110.2.2.1 0) | _ => (u_110.2.2.1 1), fun i => match i with | 0 => (u_110.2.2.2.1 0) | _ => (u_110.2.2.2.1 1), fun i => match i with | 0 => (u_110.2.2.2.2.1 0) | _ => (u_110.2.2.2.2.1 1), fun _ => fun _ => none) : Su), rfl, ⟨(show 0 ≤ ((u_110.2.2.2.1 1) : Int32).toInt ∧ ((u_110.2.2.2.1 1) : Int32).toInt ≤ 1 by omega), trivial⟩, (⟨by rw [ht]; exact hP9, hD9⟩ : Wd D A _ t)⟩, hS.F ht⟩) hS.2.2 dX12_of_197
      · have c_113i := i_ne (x := r_109.toInt) (y := 0) rfl rfl c_113
        refine lv_iconst (v := 1) hx hb dX12_of_192 (by decide) ?_
        refine lv_goto (tgt := 197) hx hb dX12_of_193 (by decide) ?_
        subst hQ
        have hP9 := hP.sub (ws' := [(m0, .inr (12, [.int 0, m_1, m_2, .ref w0, m_4, m_5, m_6, m_7, m_8, m_9, m_10, m_11, m_12, m_13, m_14, m_15, m_16, m_17, m_18, m_19, .int 0, m_21, m_22, m_23, m_24, m_25, m_26, m_27, m_28, m_29, m_30, m_31, m_32, m_33, .int (u_110.2.2.2.1 0), .ref e0, m_36, .ref q0, .int (u_110.2.2.2.1 1), .long (u_110.2.2.2.2.1 0), .long (u_110.2.2.2.2.1 1), m_41, m_42, m_43, m_44, m_45, m_46, m_47, m_48, m_49, m_50, m_51, m_52, m_53, m_54, m_55, m_56, m_57, m_58, m_59])), (w0, .inl (K 0, 5500, .inl fw)), (e0, .inl (K 2, 13, .inr (.inl (u_110.2.2.1 0)))), (q0, .inl (K 2, 400, .inr (.inl (u_110.2.2.1 1))))]) [0, 1, 2, 3] rfl
        have hD9 := hD.sub (ws' := [(m0, .inr (12, [.int 0, m_1, m_2, .ref w0, m_4, m_5, m_6, m_7, m_8, m_9, m_10, m_11, m_12, m_13, m_14, m_15, m_16, m_17, m_18, m_19, .int 0, m_21, m_22, m_23, m_24, m_25, m_26, m_27, m_28, m_29, m_30, m_31, m_32, m_33, .int (u_110.2.2.2.1 0), .ref e0, m_36, .ref q0, .int (u_110.2.2.2.1 1), .long (u_110.2.2.2.2.1 0), .long (u_110.2.2.2.2.1 1), m_41, m_42, m_43, m_44, m_45, m_46, m_47, m_48, m_49, m_50, m_51, m_52, m_53, m_54, m_55, m_56, m_57, m_58, m_59])), (w0, .inl (K 0, 5500, .inl fw)), (e0, .inl (K 2, 13, .inr (.inl (u_110.2.2.1 0)))), (q0, .inl (K 2, 400, .inr (.inl (u_110.2.2.1 1))))]) [0, 1, 2, 3] (by decide) rfl
        exact W.iret (v := 1) hx hb hr (fun t ht hW => ⟨⟨1, ((fun _ => 0, fun _ => fun _ => 0, fun i => match i with | 0 => (u_110.2.2.1 0) | _ => (u_110.2.2.1 1), fun i => match i with | 0 => (u_110.2.2.2.1 0) | _ => (u_110.2.2.2.1 1), fun i => match i with | 0 => (u_110.2.2.2.2.1 0) | _ => (u_110.2.2.2.2.1 1), fun _ => fun _ => none) : Su), rfl, ⟨(show 0 ≤ ((u_110.2.2.2.1 1) : Int32).toInt ∧ ((u_110.2.2.2.1 1) : Int32).toInt ≤ 1 by omega), trivial⟩, (⟨by rw [ht]; exact hP9, hD9⟩ : Wd D A _ t)⟩, hS.F ht⟩) hS.2.2 dX12_of_197
    · refine lv_tableOut (tgt := 198) hx hb dX12_of_16 (by omega) (by decide) ?_
      refine lv_iconst (v := (-1)) hx hb dX12_of_198 (by decide) ?_
      subst hQ
      have hP9 := hP.sub (ws' := [(m0, .inr (12, [.int 0, m_1, m_2, .ref w0, m_4, m_5, m_6, m_7, m_8, m_9, m_10, m_11, m_12, m_13, m_14, m_15, m_16, m_17, m_18, m_19, .int 0, m_21, m_22, m_23, m_24, m_25, m_26, m_27, m_28, m_29, m_30, m_31, m_32, m_33, .int lw, .ref e0, m_36, .ref q0, .int bro, .long val, .long sm, m_41, m_42, m_43, m_44, m_45, m_46, m_47, m_48, m_49, m_50, m_51, m_52, m_53, m_54, m_55, m_56, m_57, m_58, m_59])), (w0, .inl (K 0, 5500, .inl fw)), (e0, .inl (K 2, 13, .inr (.inl fe))), (q0, .inl (K 2, 400, .inr (.inl fq)))]) [0, 1, 2, 3] rfl
      have hD9 := hD.sub (ws' := [(m0, .inr (12, [.int 0, m_1, m_2, .ref w0, m_4, m_5, m_6, m_7, m_8, m_9, m_10, m_11, m_12, m_13, m_14, m_15, m_16, m_17, m_18, m_19, .int 0, m_21, m_22, m_23, m_24, m_25, m_26, m_27, m_28, m_29, m_30, m_31, m_32, m_33, .int lw, .ref e0, m_36, .ref q0, .int bro, .long val, .long sm, m_41, m_42, m_43, m_44, m_45, m_46, m_47, m_48, m_49, m_50, m_51, m_52, m_53, m_54, m_55, m_56, m_57, m_58, m_59])), (w0, .inl (K 0, 5500, .inl fw)), (e0, .inl (K 2, 13, .inr (.inl fe))), (q0, .inl (K 2, 400, .inr (.inl fq)))]) [0, 1, 2, 3] (by decide) rfl
      exact W.iret (v := (-1)) hx hb hr (fun t ht hW => ⟨⟨(-1), ((fun _ => 0, fun _ => fun _ => 0, fun i => match i with | 0 => fe | _ => fq, fun i => match i with | 0 => lw | _ => bro, fun i => match i with | 0 => val | _ => sm, fun _ => fun _ => none) : Su), rfl, ⟨(show 0 ≤ (bro : Int32).toInt ∧ (bro : Int32).toInt ≤ 1 by omega), trivial⟩, (⟨by rw [ht]; exact hP9, hD9⟩ : Wd D A _ t)⟩, hS.F ht⟩) hS.2.2 dX12_of_199
  · refine lv_if_ne (tgt := 15) hx hb dX12_of_10 (by decide) (fun c_114 => absurd (by decide) c_114) (fun c_114 => ?_)
    refine lv_iconst (v := (-1)) hx hb dX12_of_13 (by decide) ?_
    subst hQ
    have hP9 := hP.sub (ws' := [(m0, .inr (12, [.int 0, m_1, m_2, .ref w0, m_4, m_5, m_6, m_7, m_8, m_9, m_10, m_11, m_12, m_13, m_14, m_15, m_16, m_17, m_18, m_19, .int 0, m_21, m_22, m_23, m_24, m_25, m_26, m_27, m_28, m_29, m_30, m_31, m_32, m_33, .int lw, .ref e0, m_36, .ref q0, .int bro, .long val, .long sm, m_41, m_42, m_43, m_44, m_45, m_46, m_47, m_48, m_49, m_50, m_51, m_52, m_53, m_54, m_55, m_56, m_57, m_58, m_59])), (w0, .inl (K 0, 5500, .inl fw)), (e0, .inl (K 2, 13, .inr (.inl fe))), (q0, .inl (K 2, 400, .inr (.inl fq)))]) [0, 1, 2, 3] rfl
    have hD9 := hD.sub (ws' := [(m0, .inr (12, [.int 0, m_1, m_2, .ref w0, m_4, m_5, m_6, m_7, m_8, m_9, m_10, m_11, m_12, m_13, m_14, m_15, m_16, m_17, m_18, m_19, .int 0, m_21, m_22, m_23, m_24, m_25, m_26, m_27, m_28, m_29, m_30, m_31, m_32, m_33, .int lw, .ref e0, m_36, .ref q0, .int bro, .long val, .long sm, m_41, m_42, m_43, m_44, m_45, m_46, m_47, m_48, m_49, m_50, m_51, m_52, m_53, m_54, m_55, m_56, m_57, m_58, m_59])), (w0, .inl (K 0, 5500, .inl fw)), (e0, .inl (K 2, 13, .inr (.inl fe))), (q0, .inl (K 2, 400, .inr (.inl fq)))]) [0, 1, 2, 3] (by decide) rfl
    exact W.iret (v := (-1)) hx hb hr (fun t ht hW => ⟨⟨(-1), ((fun _ => 0, fun _ => fun _ => 0, fun i => match i with | 0 => fe | _ => fq, fun i => match i with | 0 => lw | _ => bro, fun i => match i with | 0 => val | _ => sm, fun _ => fun _ => none) : Su), rfl, ⟨(show 0 ≤ (bro : Int32).toInt ∧ (bro : Int32).toInt ≤ 1 by omega), trivial⟩, (⟨by rw [ht]; exact hP9, hD9⟩ : Wd D A _ t)⟩, hS.F ht⟩) hS.2.2 dX12_of_14
set_option maxHeartbeats 4000000 in
set_option maxRecDepth 100000 in
theorem v_discords (l : Launch) (D : va_G) (K : Nat → ClassId) (m0 : Nat) (m_0 : Value) (m_1 : Value) (m_2 : Value) (w0 : Nat) (m_4 : Value) (m_5 : Value) (m_6 : Value) (m_7 : Value) (m_8 : Value) (m_9 : Value) (m_10 : Value) (m_11 : Value) (m_12 : Value) (m_13 : Value) (m_14 : Value) (m_15 : Value) (m_16 : Value) (m_17 : Value) (m_18 : Value) (m_19 : Value) (m_21 : Value) (m_22 : Value) (m_23 : Value) (m_24 : Value) (m_25 : Value) (m_26 : Value) (m_27 : Value) (m_28 : Value) (m_29 : Value) (m_30 : Value) (m_31 : Value) (m_32 : Value) (m_33 : Value) (lw : Int32) (e0 : Nat) (m_36 : Value) (q0 : Nat) (bro : Int32) (val : Int64) (sm : Int64) (m_41 : Value) (m_42 : Value) (m_43 : Value) (m_44 : Value) (m_45 : Value) (m_46 : Value) (m_47 : Value) (m_48 : Value) (m_49 : Value) (m_50 : Value) (m_51 : Value) (m_52 : Value) (m_53 : Value) (m_54 : Value) (m_55 : Value) (m_56 : Value) (m_57 : Value) (m_58 : Value) (m_59 : Value) (fw : Nat → Int32) (fe : Nat → Int64) (fq : Nat → Int64) (sz : Nat) (zbro : 0 ≤ bro.toInt ∧ bro.toInt ≤ 1) (zfw : RowOK fw) : Met l yX12_discords wsX12_discords ({ frames := 4, cells := 0, slots := 0, locals := 102 }) (va_Pc [.ref m0] (Pre D K [(m0, .inr (12, [m_0, m_1, m_2, .ref w0, m_4, m_5, m_6, m_7, m_8, m_9, m_10, m_11, m_12, m_13, m_14, m_15, m_16, m_17, m_18, m_19, .int 0, m_21, m_22, m_23, m_24, m_25, m_26, m_27, m_28, m_29, m_30, m_31, m_32, m_33, .int lw, .ref e0, m_36, .ref q0, .int bro, .long val, .long sm, m_41, m_42, m_43, m_44, m_45, m_46, m_47, m_48, m_49, m_50, m_51, m_52, m_53, m_54, m_55, m_56, m_57, m_58, m_59])), (w0, .inl (K 0, 5500, .inl fw)), (e0, .inl (K 2, 13, .inr (.inl fe))), (q0, .inl (K 2, 400, .inr (.inl fq)))] sz)) (va_Qi (S := Su) (fun (r : Int32) (u : Su) => (0 ≤ (u.2.2.2.1 1).toInt ∧ (u.2.2.2.1 1).toInt ≤ 1) ∧ True) (fun u t => Wd D (va_A [(m0, .inr (12, [m_0, m_1, m_2, .ref w0, m_4, m_5, m_6, m_7, m_8, m_9, m_10, m_11, m_12, m_13, m_14, m_15, m_16, m_17, m_18, m_19, .int 0, m_21, m_22, m_23, m_24, m_25, m_26, m_27, m_28, m_29, m_30, m_31, m_32, m_33, .int lw, .ref e0, m_36, .ref q0, .int bro, .long val, .long sm, m_41, m_42, m_43, m_44, m_45, m_46, m_47, m_48, m_49, m_50, m_51, m_52, m_53, m_54, m_55, m_56, m_57, m_58, m_59])), (w0, .inl (K 0, 5500, .inl fw)), (e0, .inl (K 2, 13, .inr (.inl fe))), (q0, .inl (K 2, 400, .inr (.inl fq)))] sz) ((fun u => [(m0, .inr (12, [m_0, m_1, m_2, .ref w0, m_4, m_5, m_6, m_7, m_8, m_9, m_10, m_11, m_12, m_13, m_14, m_15, m_16, m_17, m_18, m_19, .int 0, m_21, m_22, m_23, m_24, m_25, m_26, m_27, m_28, m_29, m_30, m_31, m_32, m_33, .int (u.2.2.2.1 0), .ref e0, m_36, .ref q0, .int (u.2.2.2.1 1), .long (u.2.2.2.2.1 0), .long (u.2.2.2.2.1 1), m_41, m_42, m_43, m_44, m_45, m_46, m_47, m_48, m_49, m_50, m_51, m_52, m_53, m_54, m_55, m_56, m_57, m_58, m_59])), (w0, .inl (K 0, 5500, .inl fw)), (e0, .inl (K 2, 13, .inr (.inl (u.2.2.1 0)))), (q0, .inl (K 2, 400, .inr (.inl (u.2.2.1 1))))]) u) t) (va_A [(m0, .inr (12, [m_0, m_1, m_2, .ref w0, m_4, m_5, m_6, m_7, m_8, m_9, m_10, m_11, m_12, m_13, m_14, m_15, m_16, m_17, m_18, m_19, .int 0, m_21, m_22, m_23, m_24, m_25, m_26, m_27, m_28, m_29, m_30, m_31, m_32, m_33, .int lw, .ref e0, m_36, .ref q0, .int bro, .long val, .long sm, m_41, m_42, m_43, m_44, m_45, m_46, m_47, m_48, m_49, m_50, m_51, m_52, m_53, m_54, m_55, m_56, m_57, m_58, m_59])), (w0, .inl (K 0, 5500, .inl fw)), (e0, .inl (K 2, 13, .inr (.inl fe))), (q0, .inl (K 2, 400, .inr (.inl fq)))] sz)) 0 0 (va_A [(m0, .inr (12, [m_0, m_1, m_2, .ref w0, m_4, m_5, m_6, m_7, m_8, m_9, m_10, m_11, m_12, m_13, m_14, m_15, m_16, m_17, m_18, m_19, .int 0, m_21, m_22, m_23, m_24, m_25, m_26, m_27, m_28, m_29, m_30, m_31, m_32, m_33, .int lw, .ref e0, m_36, .ref q0, .int bro, .long val, .long sm, m_41, m_42, m_43, m_44, m_45, m_46, m_47, m_48, m_49, m_50, m_51, m_52, m_53, m_54, m_55, m_56, m_57, m_58, m_59])), (w0, .inl (K 0, 5500, .inl fw)), (e0, .inl (K 2, 13, .inr (.inl fe))), (q0, .inl (K 2, 400, .inr (.inl fq)))] sz) := by
  refine Met.ofW (cc := cX12_discords) (maxL := 4) (ret := (some .int)) (by decide) rfl ?_
  intro p e s m args below meth c s₁ B hml hv
  obtain ⟨rfl, hsz, hP, hK, hD0, hN⟩ := hv
  have hx := B.exec
  have hb := B.bytes
  have hr := B.returns
  have hts := atoms_spec (ws := wsX12_discords) B.pre
  have hown : s.vm.findClass RX12 = some m.cls := findClass_of_methodNamed B.named
  have hlocks := B.notSynchronized
  subst hsz
  have hD := hD0.self (sz := s.heap.size)
  generalize hAe : va_A [(m0, .inr (12, [m_0, m_1, m_2, .ref w0, m_4, m_5, m_6, m_7, m_8, m_9, m_10, m_11, m_12, m_13, m_14, m_15, m_16, m_17, m_18, m_19, .int 0, m_21, m_22, m_23, m_24, m_25, m_26, m_27, m_28, m_29, m_30, m_31, m_32, m_33, .int lw, .ref e0, m_36, .ref q0, .int bro, .long val, .long sm, m_41, m_42, m_43, m_44, m_45, m_46, m_47, m_48, m_49, m_50, m_51, m_52, m_53, m_54, m_55, m_56, m_57, m_58, m_59])), (w0, .inl (K 0, 5500, .inl fw)), (e0, .inl (K 2, 13, .inr (.inl fe))), (q0, .inl (K 2, 400, .inr (.inl fq)))] s.heap.size = A at hD ⊢
  have hA : ∀ q : Nat, s.heap.size ≤ q → A q := fun q h => by rw [← hAe]; exact Or.inr h
  have hS : va_S A s.heap s.heap [] := va_S.rf
  have hP : va_P D vwCl [(m0, .inr (12, [m_0, m_1, m_2, .ref w0, m_4, m_5, m_6, m_7, m_8, m_9, m_10, m_11, m_12, m_13, m_14, m_15, m_16, m_17, m_18, m_19, .int 0, m_21, m_22, m_23, m_24, m_25, m_26, m_27, m_28, m_29, m_30, m_31, m_32, m_33, .int lw, .ref e0, m_36, .ref q0, .int bro, .long val, .long sm, m_41, m_42, m_43, m_44, m_45, m_46, m_47, m_48, m_49, m_50, m_51, m_52, m_53, m_54, m_55, m_56, m_57, m_58, m_59])), (w0, .inl (K 0, 5500, .inl fw)), (e0, .inl (K 2, 13, .inr (.inl fe))), (q0, .inl (K 2, 400, .inr (.inl fq)))] s.heap := hP
  have hl := lv_entry [.ref m0] (n := 4) (Nat.le_of_ble_eq_true rfl)
  rw [lg_entry_eq]
  generalize (lg_sl [.ref m0] ++ List.replicate (4 - (lg_sl [.ref m0]).length) Slot.unset).toArray = ls at hl ⊢
  have hl : lv_has ls 4 [(0, .ref m0)] := hl
  have hw12 : ∀ w ∈ wsX120, w ∈ wsX12_discords := fun w h => (List.mem_cons_of_mem _ (List.mem_append_right _ h))
  generalize hQ : MQ below _ _ s _ _ _ = Q
  refine lv_iconst (v := 0) hx hb dX12_discords_0 (by decide) ?_
  refine lv_istore_n (lv' := [(1, .int 0), (0, .ref m0)]) hx hb dX12_discords_1 rfl hl (by decide) rfl (fun ls hl => ?_)
  refine lv_iconst (v := 0) hx hb dX12_discords_2 (by decide) ?_
  refine lv_istore_n (lv' := [(2, .int 0), (1, .int 0), (0, .ref m0)]) hx hb dX12_discords_3 rfl hl (by decide) rfl (fun ls hl => ?_)
  have lp_8196 : ∀ (nn_ : Nat) (v_7480 : Int32) (v_7481 : Int32) (v_7482 : Int32) (v_7483 : Int32) (v_7484 : Int64) (v_7485 : Int64) (f_7486 : Nat → Int64) (f_7487 : Nat → Int64) (hv_7480 : 0 ≤ v_7480.toInt ∧ v_7480.toInt ≤ 8) (hv_7483 : 0 ≤ v_7483.toInt ∧ v_7483.toInt ≤ 1) (hn : (9 - v_7480.toInt : Int).toNat < nn_) (H : Heap) (locs : List Loc) (hP : va_P D vwCl [(m0, .inr (12, [m_0, m_1, m_2, .ref w0, m_4, m_5, m_6, m_7, m_8, m_9, m_10, m_11, m_12, m_13, m_14, m_15, m_16, m_17, m_18, m_19, .int 0, m_21, m_22, m_23, m_24, m_25, m_26, m_27, m_28, m_29, m_30, m_31, m_32, m_33, .int v_7482, .ref e0, m_36, .ref q0, .int v_7483, .long v_7484, .long v_7485, m_41, m_42, m_43, m_44, m_45, m_46, m_47, m_48, m_49, m_50, m_51, m_52, m_53, m_54, m_55, m_56, m_57, m_58, m_59])), (w0, .inl (K 0, 5500, .inl fw)), (e0, .inl (K 2, 13, .inr (.inl f_7486))), (q0, .inl (K 2, 400, .inr (.inl f_7487)))] H) (hD : va_D A [(m0, .inr (12, [m_0, m_1, m_2, .ref w0, m_4, m_5, m_6, m_7, m_8, m_9, m_10, m_11, m_12, m_13, m_14, m_15, m_16, m_17, m_18, m_19, .int 0, m_21, m_22, m_23, m_24, m_25, m_26, m_27, m_28, m_29, m_30, m_31, m_32, m_33, .int v_7482, .ref e0, m_36, .ref q0, .int v_7483, .long v_7484, .long v_7485, m_41, m_42, m_43, m_44, m_45, m_46, m_47, m_48, m_49, m_50, m_51, m_52, m_53, m_54, m_55, m_56, m_57, m_58, m_59])), (w0, .inl (K 0, 5500, .inl fw)), (e0, .inl (K 2, 13, .inr (.inl f_7486))), (q0, .inl (K 2, 400, .inr (.inl f_7487)))]) (hS : va_S A s.heap H locs) (ls : Array Slot) (hl : lv_has ls 4 [(2, .int v_7480), (1, .int v_7481), (0, .ref m0)]), W p l e ({ frames := 4, cells := 0, slots := 0, locals := 102 }) s m (([.ref m0] : List Value).toArray) below meth c H locs 0 0 Q (F0 m 4 ls []) := by
    intro nn_
    induction nn_ with
    | zero =>
      intro v_7480 v_7481 v_7482 v_7483 v_7484 v_7485 f_7486 f_7487 hv_7480 hv_7483 hn H locs hP hD hS ls hl
      exact absurd hn (Nat.not_lt_zero _)
    | succ nn_ ih_8197 =>
      intro v_7480 v_7481 v_7482 v_7483 v_7484 v_7485 f_7486 f_7487 hv_7480 hv_7483 hn H locs hP hD hS ls hl
      refine lv_iload_n hx hb dX12_discords_4 rfl (lv_at hl 0 rfl) ?_
      refine lv_aload_n hx hb dX12_discords_5 rfl (lv_at hl 2 rfl) ?_
      refine va_get (ci := 12) (v := .ref w0) (C := RX12) (T := TX12) (N := 60) hx hb hts hw12 hown hK hP 0 rfl rfl 3 (by decide) (hts (.fieldLink RX12 13 "SmokeTuneModel" "row" "[I") (List.mem_cons_of_mem _ (List.mem_append_left _ (List.mem_append_left _ (List.mem_of_getElem? (i := 0) rfl))))) (fun _ h9 => h9) rfl dX12_discords_6 ?_
      refine lv_iconst (v := 0) hx hb dX12_discords_9 (by decide) ?_
      refine va_iald hx hb hK hP 1 0 rfl rfl (i_in (x := 0) rfl (by omega)) dX12_discords_10 ?_
      refine lv_topi (fun x_8198 ex_8198 => ?_)
      have px_8198 := RowOK.at zfw (show (0 : Int32).toInt = 0 from rfl) (show 0 ≤ 0 ∧ 0 < 100 by omega)
      rw [← ex_8198] at px_8198
      have hx_8198 := PR.r_0 px_8198 (by omega)
      refine lv_icmp_ge (tgt := 133) hx hb dX12_discords_11 (by decide) (fun c_8199 => ?_) (fun c_8199 => ?_)
      · have c_8199i := i_le (x := x_8198.toInt) (y := v_7480.toInt) rfl rfl c_8199
        refine lv_iload_n hx hb dX12_discords_133 rfl (lv_at hl 1 rfl) ?_
        subst hQ
        have hP9 := hP.sub (ws' := [(m0, .inr (12, [m_0, m_1, m_2, .ref w0, m_4, m_5, m_6, m_7, m_8, m_9, m_10, m_11, m_12, m_13, m_14, m_15, m_16, m_17, m_18, m_19, .int 0, m_21, m_22, m_23, m_24, m_25, m_26, m_27, m_28, m_29, m_30, m_31, m_32, m_33, .int v_7482, .ref e0, m_36, .ref q0, .int v_7483, .long v_7484, .long v_7485, m_41, m_42, m_43, m_44, m_45, m_46, m_47, m_48, m_49, m_50, m_51, m_52, m_53, m_54, m_55, m_56, m_57, m_58, m_59])), (w0, .inl (K 0, 5500, .inl fw)), (e0, .inl (K 2, 13, .inr (.inl f_7486))), (q0, .inl (K 2, 400, .inr (.inl f_7487)))]) [0, 1, 2, 3] rfl
        have hD9 := hD.sub (ws' := [(m0, .inr (12, [m_0, m_1, m_2, .ref w0, m_4, m_5, m_6, m_7, m_8, m_9, m_10, m_11, m_12, m_13, m_14, m_15, m_16, m_17, m_18, m_19, .int 0, m_21, m_22, m_23, m_24, m_25, m_26, m_27, m_28, m_29, m_30, m_31, m_32, m_33, .int v_7482, .ref e0, m_36, .ref q0, .int v_7483, .long v_7484, .long v_7485, m_41, m_42, m_43, m_44, m_45, m_46, m_47, m_48, m_49, m_50, m_51, m_52, m_53, m_54, m_55, m_56, m_57, m_58, m_59])), (w0, .inl (K 0, 5500, .inl fw)), (e0, .inl (K 2, 13, .inr (.inl f_7486))), (q0, .inl (K 2, 400, .inr (.inl f_7487)))]) [0, 1, 2, 3] (by decide) rfl
        exact W.iret (v := v_7481) hx hb hr (fun t ht hW => ⟨⟨v_7481, ((fun _ => 0, fun _ => fun _ => 0, fun i => match i with | 0 => f_7486 | _ => f_7487, fun i => match i with | 0 => v_7482 | _ => v_7483, fun i => match i with | 0 => v_7484 | _ => v_7485, fun _ => fun _ => none) : Su), rfl, ⟨(show 0 ≤ (v_7483 : Int32).toInt ∧ (v_7483 : Int32).toInt ≤ 1 by omega), trivial⟩, (⟨by rw [ht]; exact hP9, hD9⟩ : Wd D A _ t)⟩, hS.F ht⟩) hS.2.2 dX12_discords_134
      · have c_8199i := i_nle (x := x_8198.toInt) (y := v_7480.toInt) rfl rfl c_8199
        refine lv_iload_n hx hb dX12_discords_14 rfl (lv_at hl 0 rfl) ?_
        refine lv_iconst (v := 1) hx hb dX12_discords_15 (by decide) ?_
        refine lv_iadd hx hb dX12_discords_16 ?_
        refine lv_topi (fun x_8200 ex_8200 => ?_)
        have hx_8200 : x_8200.toInt = (v_7480.toInt + 1) := by rw [ex_8200]; exact i_add rfl (show (1 : Int32).toInt = 1 from rfl) (by omega)
        refine lv_istore_n (lv' := [(3, .int x_8200), (2, .int v_7480), (1, .int v_7481), (0, .ref m0)]) hx hb dX12_discords_17 rfl hl (by decide) rfl (fun ls hl => ?_)
        have lp_8481 : ∀ (nn_ : Nat) (v_8337 : Int32) (v_8338 : Int32) (v_8339 : Int32) (v_8340 : Int32) (v_8341 : Int64) (v_8342 : Int64) (f_8343 : Nat → Int64) (f_8344 : Nat → Int64) (hv_8337 : 1 ≤ v_8337.toInt ∧ v_8337.toInt ≤ 8) (hv_8340 : 0 ≤ v_8340.toInt ∧ v_8340.toInt ≤ 1) (hn : (9 - v_8337.toInt : Int).toNat < nn_) (H : Heap) (locs : List Loc) (hP : va_P D vwCl [(m0, .inr (12, [m_0, m_1, m_2, .ref w0, m_4, m_5, m_6, m_7, m_8, m_9, m_10, m_11, m_12, m_13, m_14, m_15, m_16, m_17, m_18, m_19, .int 0, m_21, m_22, m_23, m_24, m_25, m_26, m_27, m_28, m_29, m_30, m_31, m_32, m_33, .int v_8339, .ref e0, m_36, .ref q0, .int v_8340, .long v_8341, .long v_8342, m_41, m_42, m_43, m_44, m_45, m_46, m_47, m_48, m_49, m_50, m_51, m_52, m_53, m_54, m_55, m_56, m_57, m_58, m_59])), (w0, .inl (K 0, 5500, .inl fw)), (e0, .inl (K 2, 13, .inr (.inl f_8343))), (q0, .inl (K 2, 400, .inr (.inl f_8344)))] H) (hD : va_D A [(m0, .inr (12, [m_0, m_1, m_2, .ref w0, m_4, m_5, m_6, m_7, m_8, m_9, m_10, m_11, m_12, m_13, m_14, m_15, m_16, m_17, m_18, m_19, .int 0, m_21, m_22, m_23, m_24, m_25, m_26, m_27, m_28, m_29, m_30, m_31, m_32, m_33, .int v_8339, .ref e0, m_36, .ref q0, .int v_8340, .long v_8341, .long v_8342, m_41, m_42, m_43, m_44, m_45, m_46, m_47, m_48, m_49, m_50, m_51, m_52, m_53, m_54, m_55, m_56, m_57, m_58, m_59])), (w0, .inl (K 0, 5500, .inl fw)), (e0, .inl (K 2, 13, .inr (.inl f_8343))), (q0, .inl (K 2, 400, .inr (.inl f_8344)))]) (hS : va_S A s.heap H locs) (ls : Array Slot) (hl : lv_has ls 4 [(3, .int v_8337), (2, .int v_7480), (1, .int v_8338), (0, .ref m0)]), W p l e ({ frames := 4, cells := 0, slots := 0, locals := 102 }) s m (([.ref m0] : List Value).toArray) below meth c H locs 0 0 Q (F0 m 18 ls []) := by
          intro nn_
          induction nn_ with
          | zero =>
            intro v_8337 v_8338 v_8339 v_8340 v_8341 v_8342 f_8343 f_8344 hv_8337 hv_8340 hn H locs hP hD hS ls hl
            exact absurd hn (Nat.not_lt_zero _)
          | succ nn_ ih_8482 =>
            intro v_8337 v_8338 v_8339 v_8340 v_8341 v_8342 f_8343 f_8344 hv_8337 hv_8340 hn H locs hP hD hS ls hl
            refine lv_iload_n hx hb dX12_discords_18 rfl (lv_at hl 0 rfl) ?_
            refine lv_aload_n hx hb dX12_discords_19 rfl (lv_at hl 3 rfl) ?_
            refine va_get (ci := 12) (v := .ref w0) (C := RX12) (T := TX12) (N := 60) hx hb hts hw12 hown hK hP 0 rfl rfl 3 (by decide) (hts (.fieldLink RX12 13 "SmokeTuneModel" "row" "[I") (List.mem_cons_of_mem _ (List.mem_append_left _ (List.mem_append_left _ (List.mem_of_getElem? (i := 0) rfl))))) (fun _ h9 => h9) rfl dX12_discords_20 ?_
            refine lv_iconst (v := 0) hx hb dX12_discords_23 (by decide) ?_
            refine va_iald hx hb hK hP 1 0 rfl rfl (i_in (x := 0) rfl (by omega)) dX12_discords_24 ?_
            refine lv_topi (fun x_8483 ex_8483 => ?_)
            have px_8483 := RowOK.at zfw (show (0 : Int32).toInt = 0 from rfl) (show 0 ≤ 0 ∧ 0 < 100 by omega)
            rw [← ex_8483] at px_8483
            have hx_8483 := PR.r_0 px_8483 (by omega)
            refine lv_icmp_ge (tgt := 127) hx hb dX12_discords_25 (by decide) (fun c_8484 => ?_) (fun c_8484 => ?_)
            · have c_8484i := i_le (x := x_8483.toInt) (y := v_8337.toInt) rfl rfl c_8484
              obtain ⟨x_8485, ex_8485⟩ : ∃ y : Int32, y = v_7480 + Int32.ofInt 1 := ⟨_, rfl⟩
              have hx_8485 : x_8485.toInt = (v_7480.toInt + 1) := by rw [ex_8485]; exact i_add rfl (show (Int32.ofInt 1).toInt = 1 from rfl) (by omega)
              refine lv_iinc (v := x_8485) (lv' := [(2, .int x_8485), (3, .int v_8337), (1, .int v_8338), (0, .ref m0)]) hx hb dX12_discords_127 hl (k := 1) rfl (by rw [ex_8485]) (by decide) rfl (fun ls hl => ?_)
              refine lv_goto (tgt := 4) hx hb dX12_discords_130 (by decide) ?_
              exact ih_8197 x_8485 v_8338 v_8339 v_8340 v_8341 v_8342 f_8343 f_8344 (by rw [hx_8485]; omega) (by omega) (by omega) _ _ hP hD hS ls (lv_sub hl [0, 2, 3] rfl)
            · have c_8484i := i_nle (x := x_8483.toInt) (y := v_8337.toInt) rfl rfl c_8484
              refine lv_aload_n hx hb dX12_discords_28 rfl (lv_at hl 3 rfl) ?_
              refine lv_iload_n hx hb dX12_discords_29 rfl (lv_at hl 1 rfl) ?_
              refine pci (va_runV (As := [.int v_7480]) (rest := []) ⟨hx, hb, hml, hown, hts⟩ (v_isSounding l D K m0 v_7480 m_0 m_1 m_2 w0 m_4 m_5 m_6 m_7 m_8 m_9 m_10 m_11 m_12 m_13 m_14 m_15 m_16 m_17 m_18 m_19 (.int 0) m_21 m_22 m_23 m_24 m_25 m_26 m_27 m_28 m_29 m_30 m_31 m_32 m_33 (.int v_8339) (.ref e0) m_36 (.ref q0) (.int v_8340) (.long v_8341) (.long v_8342) m_41 m_42 m_43 m_44 m_45 m_46 m_47 m_48 m_49 m_50 m_51 m_52 m_53 m_54 m_55 m_56 m_57 m_58 m_59 fw H.size (by first | omega | decide) zfw) (cwV 1 hts gX12_discords_X12_isSounding rfl rfl rfl (by decide +kernel) ⟨Nat.le_of_ble_eq_true rfl, Nat.le_of_ble_eq_true rfl⟩) (mkV hK hN (hP.sub [0, 1] rfl) (hD.sub [0, 1] (by decide) rfl) (ci := 12) (q0 := 0) rfl rfl) rfl rfl hl.1 rfl (lv_room (Nat.le_of_ble_eq_true rfl)) dX12_discords_30 ⟨Nat.le_of_ble_eq_true rfl, Nat.le_of_ble_eq_true rfl⟩) (fun r_8486 hw => ?_)
              obtain ⟨h_8487, -⟩ := hw
              have j_8521 : ∀ (v_8513 : Int32) (v_8514 : Int32) (v_8515 : Int32) (v_8516 : Int64) (v_8517 : Int64) (f_8518 : Nat → Int64) (f_8519 : Nat → Int64) (hv_8515 : 0 ≤ v_8515.toInt ∧ v_8515.toInt ≤ 1) (H : Heap) (locs : List Loc) (hP : va_P D vwCl [(m0, .inr (12, [m_0, m_1, m_2, .ref w0, m_4, m_5, m_6, m_7, m_8, m_9, m_10, m_11, m_12, m_13, m_14, m_15, m_16, m_17, m_18, m_19, .int 0, m_21, m_22, m_23, m_24, m_25, m_26, m_27, m_28, m_29, m_30, m_31, m_32, m_33, .int v_8514, .ref e0, m_36, .ref q0, .int v_8515, .long v_8516, .long v_8517, m_41, m_42, m_43, m_44, m_45, m_46, m_47, m_48, m_49, m_50, m_51, m_52, m_53, m_54, m_55, m_56, m_57, m_58, m_59])), (w0, .inl (K 0, 5500, .inl fw)), (e0, .inl (K 2, 13, .inr (.inl f_8518))), (q0, .inl (K 2, 400, .inr (.inl f_8519)))] H) (hD : va_D A [(m0, .inr (12, [m_0, m_1, m_2, .ref w0, m_4, m_5, m_6, m_7, m_8, m_9, m_10, m_11, m_12, m_13, m_14, m_15, m_16, m_17, m_18, m_19, .int 0, m_21, m_22, m_23, m_24, m_25, m_26, m_27, m_28, m_29, m_30, m_31, m_32, m_33, .int v_8514, .ref e0, m_36, .ref q0, .int v_8515, .long v_8516, .long v_8517, m_41, m_42, m_43, m_44, m_45, m_46, m_47, m_48, m_49, m_50, m_51, m_52, m_53, m_54, m_55, m_56, m_57, m_58, m_59])), (w0, .inl (K 0, 5500, .inl fw)), (e0, .inl (K 2, 13, .inr (.inl f_8518))), (q0, .inl (K 2, 400, .inr (.inl f_8519)))]) (hS : va_S A s.heap H locs) (ls : Array Slot) (hl : lv_has ls 4 [(3, .int v_8337), (2, .int v_7480), (1, .int v_8513), (0, .ref m0)]), W p l e ({ frames := 4, cells := 0, slots := 0, locals := 102 }) s m (([.ref m0] : List Value).toArray) below meth c H locs 0 0 Q (F0 m 121 ls []) := by
                intro v_8513 v_8514 v_8515 v_8516 v_8517 f_8518 f_8519 hv_8515 H locs hP hD hS ls hl
                obtain ⟨x_8522, ex_8522⟩ : ∃ y : Int32, y = v_8337 + Int32.ofInt 1 := ⟨_, rfl⟩
                have hx_8522 : x_8522.toInt = (v_8337.toInt + 1) := by rw [ex_8522]; exact i_add rfl (show (Int32.ofInt 1).toInt = 1 from rfl) (by omega)
                refine lv_iinc (v := x_8522) (lv' := [(3, .int x_8522), (2, .int v_7480), (1, .int v_8513), (0, .ref m0)]) hx hb dX12_discords_121 hl (k := 0) rfl (by rw [ex_8522]) (by decide) rfl (fun ls hl => ?_)
                refine lv_goto (tgt := 18) hx hb dX12_discords_124 (by decide) ?_
                exact ih_8482 x_8522 v_8513 v_8514 v_8515 v_8516 v_8517 f_8518 f_8519 (by rw [hx_8522]; omega) (by omega) (by omega) _ _ hP hD hS ls (lv_sub hl [0, 1, 2, 3] rfl)
              refine lv_if_eq (tgt := 121) hx hb dX12_discords_33 (by decide) (fun c_8523 => ?_) (fun c_8523 => ?_)
              · have c_8523i := i_eq (x := r_8486.toInt) (y := 0) rfl rfl c_8523
                exact j_8521 v_8338 v_8339 v_8340 v_8341 v_8342 f_8343 f_8344 (by omega) _ _ hP hD hS ls (lv_sub hl [0, 1, 2, 3] rfl)
              · have c_8523i := i_ne (x := r_8486.toInt) (y := 0) rfl rfl c_8523
                refine lv_aload_n hx hb dX12_discords_36 rfl (lv_at hl 3 rfl) ?_
                refine lv_iload_n hx hb dX12_discords_37 rfl (lv_at hl 0 rfl) ?_
                refine pci (va_runV (As := [.int v_8337]) (rest := []) ⟨hx, hb, hml, hown, hts⟩ (v_isSounding l D K m0 v_8337 m_0 m_1 m_2 w0 m_4 m_5 m_6 m_7 m_8 m_9 m_10 m_11 m_12 m_13 m_14 m_15 m_16 m_17 m_18 m_19 (.int 0) m_21 m_22 m_23 m_24 m_25 m_26 m_27 m_28 m_29 m_30 m_31 m_32 m_33 (.int v_8339) (.ref e0) m_36 (.ref q0) (.int v_8340) (.long v_8341) (.long v_8342) m_41 m_42 m_43 m_44 m_45 m_46 m_47 m_48 m_49 m_50 m_51 m_52 m_53 m_54 m_55 m_56 m_57 m_58 m_59 fw H.size (by first | omega | decide) zfw) (cwV 1 hts gX12_discords_X12_isSounding rfl rfl rfl (by decide +kernel) ⟨Nat.le_of_ble_eq_true rfl, Nat.le_of_ble_eq_true rfl⟩) (mkV hK hN (hP.sub [0, 1] rfl) (hD.sub [0, 1] (by decide) rfl) (ci := 12) (q0 := 0) rfl rfl) rfl rfl hl.1 rfl (lv_room (Nat.le_of_ble_eq_true rfl)) dX12_discords_38 ⟨Nat.le_of_ble_eq_true rfl, Nat.le_of_ble_eq_true rfl⟩) (fun r_8524 hw => ?_)
                obtain ⟨h_8525, -⟩ := hw
                refine lv_if_eq (tgt := 121) hx hb dX12_discords_41 (by decide) (fun c_8526 => ?_) (fun c_8526 => ?_)
                · have c_8526i := i_eq (x := r_8524.toInt) (y := 0) rfl rfl c_8526
                  exact j_8521 v_8338 v_8339 v_8340 v_8341 v_8342 f_8343 f_8344 (by omega) _ _ hP hD hS ls (lv_sub hl [0, 1, 2, 3] rfl)
                · have c_8526i := i_ne (x := r_8524.toInt) (y := 0) rfl rfl c_8526
                  refine lv_aload_n hx hb dX12_discords_44 rfl (lv_at hl 3 rfl) ?_
                  refine va_get (ci := 12) (v := .ref w0) (C := RX12) (T := TX12) (N := 60) hx hb hts hw12 hown hK hP 0 rfl rfl 3 (by decide) (hts (.fieldLink RX12 13 "SmokeTuneModel" "row" "[I") (List.mem_cons_of_mem _ (List.mem_append_left _ (List.mem_append_left _ (List.mem_of_getElem? (i := 0) rfl))))) (fun _ h9 => h9) rfl dX12_discords_45 ?_
                  refine lv_bipush (v := 43) hx hb dX12_discords_48 (by decide) ?_
                  refine lv_iload_n hx hb dX12_discords_50 rfl (lv_at hl 1 rfl) ?_
                  refine lv_iadd hx hb dX12_discords_51 ?_
                  refine lv_topi (fun x_8527 ex_8527 => ?_)
                  have hx_8527 : x_8527.toInt = (43 + v_7480.toInt) := by rw [ex_8527]; exact i_add (show (43 : Int32).toInt = 43 from rfl) rfl (by omega)
                  refine va_iald hx hb hK hP 1 0 rfl rfl (i_in hx_8527 (by omega)) dX12_discords_52 ?_
                  refine lv_topi (fun x_8528 ex_8528 => ?_)
                  have px_8528 := RowOK.at zfw hx_8527 (show 0 ≤ (43 + v_7480.toInt) ∧ (43 + v_7480.toInt) < 100 by omega)
                  rw [← ex_8528] at px_8528
                  refine lv_aload_n hx hb dX12_discords_53 rfl (lv_at hl 3 rfl) ?_
                  refine va_get (ci := 12) (v := .ref w0) (C := RX12) (T := TX12) (N := 60) hx hb hts hw12 hown hK hP 0 rfl rfl 3 (by decide) (hts (.fieldLink RX12 13 "SmokeTuneModel" "row" "[I") (List.mem_cons_of_mem _ (List.mem_append_left _ (List.mem_append_left _ (List.mem_of_getElem? (i := 0) rfl))))) (fun _ h9 => h9) rfl dX12_discords_54 ?_
                  refine lv_bipush (v := 43) hx hb dX12_discords_57 (by decide) ?_
                  refine lv_iload_n hx hb dX12_discords_59 rfl (lv_at hl 0 rfl) ?_
                  refine lv_iadd hx hb dX12_discords_60 ?_
                  refine lv_topi (fun x_8529 ex_8529 => ?_)
                  have hx_8529 : x_8529.toInt = (43 + v_8337.toInt) := by rw [ex_8529]; exact i_add (show (43 : Int32).toInt = 43 from rfl) rfl (by omega)
                  refine va_iald hx hb hK hP 1 0 rfl rfl (i_in hx_8529 (by omega)) dX12_discords_61 ?_
                  refine lv_topi (fun x_8530 ex_8530 => ?_)
                  have px_8530 := RowOK.at zfw hx_8529 (show 0 ≤ (43 + v_8337.toInt) ∧ (43 + v_8337.toInt) < 100 by omega)
                  rw [← ex_8530] at px_8530
                  refine lv_icmp_ne (tgt := 121) hx hb dX12_discords_62 (by decide) (fun c_8531 => ?_) (fun c_8531 => ?_)
                  · have c_8531i := i_ne (x := x_8528.toInt) (y := x_8530.toInt) rfl rfl c_8531
                    exact j_8521 v_8338 v_8339 v_8340 v_8341 v_8342 f_8343 f_8344 (by omega) _ _ hP hD hS ls (lv_sub hl [0, 1, 2, 3] rfl)
                  · have c_8531i := i_eq (x := x_8528.toInt) (y := x_8530.toInt) rfl rfl c_8531
                    refine lv_aload_n hx hb dX12_discords_65 rfl (lv_at hl 3 rfl) ?_
                    refine va_get (ci := 12) (v := .ref w0) (C := RX12) (T := TX12) (N := 60) hx hb hts hw12 hown hK hP 0 rfl rfl 3 (by decide) (hts (.fieldLink RX12 13 "SmokeTuneModel" "row" "[I") (List.mem_cons_of_mem _ (List.mem_append_left _ (List.mem_append_left _ (List.mem_of_getElem? (i := 0) rfl))))) (fun _ h9 => h9) rfl dX12_discords_66 ?_
                    refine lv_bipush (v := 35) hx hb dX12_discords_69 (by decide) ?_
                    refine lv_iload_n hx hb dX12_discords_71 rfl (lv_at hl 1 rfl) ?_
                    refine lv_iadd hx hb dX12_discords_72 ?_
                    refine lv_topi (fun x_8532 ex_8532 => ?_)
                    have hx_8532 : x_8532.toInt = (35 + v_7480.toInt) := by rw [ex_8532]; exact i_add (show (35 : Int32).toInt = 35 from rfl) rfl (by omega)
                    refine va_iald hx hb hK hP 1 0 rfl rfl (i_in hx_8532 (by omega)) dX12_discords_73 ?_
                    refine lv_topi (fun x_8533 ex_8533 => ?_)
                    have px_8533 := RowOK.at zfw hx_8532 (show 0 ≤ (35 + v_7480.toInt) ∧ (35 + v_7480.toInt) < 100 by omega)
                    rw [← ex_8533] at px_8533
                    have hx_8533 := PR.r_35 px_8533 (by omega)
                    refine lv_aload_n hx hb dX12_discords_74 rfl (lv_at hl 3 rfl) ?_
                    refine va_get (ci := 12) (v := .ref w0) (C := RX12) (T := TX12) (N := 60) hx hb hts hw12 hown hK hP 0 rfl rfl 3 (by decide) (hts (.fieldLink RX12 13 "SmokeTuneModel" "row" "[I") (List.mem_cons_of_mem _ (List.mem_append_left _ (List.mem_append_left _ (List.mem_of_getElem? (i := 0) rfl))))) (fun _ h9 => h9) rfl dX12_discords_75 ?_
                    refine lv_bipush (v := 35) hx hb dX12_discords_78 (by decide) ?_
                    refine lv_iload_n hx hb dX12_discords_80 rfl (lv_at hl 0 rfl) ?_
                    refine lv_iadd hx hb dX12_discords_81 ?_
                    refine lv_topi (fun x_8534 ex_8534 => ?_)
                    have hx_8534 : x_8534.toInt = (35 + v_8337.toInt) := by rw [ex_8534]; exact i_add (show (35 : Int32).toInt = 35 from rfl) rfl (by omega)
                    refine va_iald hx hb hK hP 1 0 rfl rfl (i_in hx_8534 (by omega)) dX12_discords_82 ?_
                    refine lv_topi (fun x_8535 ex_8535 => ?_)
                    have px_8535 := RowOK.at zfw hx_8534 (show 0 ≤ (35 + v_8337.toInt) ∧ (35 + v_8337.toInt) < 100 by omega)
                    rw [← ex_8535] at px_8535
                    have hx_8535 := PR.r_35 px_8535 (by omega)
                    refine pci (va_runS (As := [.int x_8533, .int x_8535]) (rest := []) ⟨hx, hb, hml, hown, hts⟩ (v_areBeside l D K x_8533 x_8535 H.size) (va_cwS 2 hts gX12_discords_X12_areBeside rfl rfl rfl (by decide +kernel) ⟨Nat.le_of_ble_eq_true rfl, Nat.le_of_ble_eq_true rfl⟩) (mkS hK hN (va_P.nil) (va_D.nil (A := fun _ => True))) rfl rfl hl.1 rfl (lv_room (Nat.le_of_ble_eq_true rfl)) dX12_discords_83 ⟨Nat.le_of_ble_eq_true rfl, Nat.le_of_ble_eq_true rfl⟩) (fun r_8536 hw => ?_)
                    obtain ⟨h_8537, -⟩ := hw
                    refine lv_if_eq (tgt := 121) hx hb dX12_discords_86 (by decide) (fun c_8538 => ?_) (fun c_8538 => ?_)
                    · have c_8538i := i_eq (x := r_8536.toInt) (y := 0) rfl rfl c_8538
                      exact j_8521 v_8338 v_8339 v_8340 v_8341 v_8342 f_8343 f_8344 (by omega) _ _ hP hD hS ls (lv_sub hl [0, 1, 2, 3] rfl)
                    · have c_8538i := i_ne (x := r_8536.toInt) (y := 0) rfl rfl c_8538
                      refine lv_iload_n hx hb dX12_discords_89 rfl (lv_at hl 2 rfl) ?_
                      refine lv_aload_n hx hb dX12_discords_90 rfl (lv_at hl 3 rfl) ?_
                      refine lv_aload_n hx hb dX12_discords_91 rfl (lv_at hl 3 rfl) ?_
                      refine va_get (ci := 12) (v := .ref w0) (C := RX12) (T := TX12) (N := 60) hx hb hts hw12 hown hK hP 0 rfl rfl 3 (by decide) (hts (.fieldLink RX12 13 "SmokeTuneModel" "row" "[I") (List.mem_cons_of_mem _ (List.mem_append_left _ (List.mem_append_left _ (List.mem_of_getElem? (i := 0) rfl))))) (fun _ h9 => h9) rfl dX12_discords_92 ?_
                      refine lv_iconst (v := 3) hx hb dX12_discords_95 (by decide) ?_
                      refine va_iald hx hb hK hP 1 0 rfl rfl (i_in (x := 3) rfl (by omega)) dX12_discords_96 ?_
                      refine lv_topi (fun x_8539 ex_8539 => ?_)
                      have px_8539 := RowOK.at zfw (show (3 : Int32).toInt = 3 from rfl) (show 0 ≤ 3 ∧ 3 < 100 by omega)
                      rw [← ex_8539] at px_8539
                      have hx_8539 := PR.r_3 px_8539 (by omega)
                      refine lv_iconst (v := 2) hx hb dX12_discords_97 (by decide) ?_
                      refine lv_iload_n hx hb dX12_discords_98 rfl (lv_at hl 1 rfl) ?_
                      refine lv_aload_n hx hb dX12_discords_99 rfl (lv_at hl 3 rfl) ?_
                      refine va_get (ci := 12) (v := .ref w0) (C := RX12) (T := TX12) (N := 60) hx hb hts hw12 hown hK hP 0 rfl rfl 3 (by decide) (hts (.fieldLink RX12 13 "SmokeTuneModel" "row" "[I") (List.mem_cons_of_mem _ (List.mem_append_left _ (List.mem_append_left _ (List.mem_of_getElem? (i := 0) rfl))))) (fun _ h9 => h9) rfl dX12_discords_100 ?_
                      refine lv_bipush (v := 35) hx hb dX12_discords_103 (by decide) ?_
                      refine lv_iload_n hx hb dX12_discords_105 rfl (lv_at hl 0 rfl) ?_
                      refine lv_iadd hx hb dX12_discords_106 ?_
                      refine lv_topi (fun x_8540 ex_8540 => ?_)
                      have hx_8540 : x_8540.toInt = (35 + v_8337.toInt) := by rw [ex_8540]; exact i_add (show (35 : Int32).toInt = 35 from rfl) rfl (by omega)
                      refine va_iald hx hb hK hP 1 0 rfl rfl (i_in hx_8540 (by omega)) dX12_discords_107 ?_
                      refine lv_topi (fun x_8541 ex_8541 => ?_)
                      have px_8541 := RowOK.at zfw hx_8540 (show 0 ≤ (35 + v_8337.toInt) ∧ (35 + v_8337.toInt) < 100 by omega)
                      rw [← ex_8541] at px_8541
                      have hx_8541 := PR.r_35 px_8541 (by omega)
                      refine lv_lconst (v := 1) hx hb dX12_discords_108 (by decide) ?_
                      refine kcl (S := Su) (wr := []) (va_runV (As := [.int x_8539, .int 2, .int v_7480, .int x_8541, .long 1]) (rest := [.int v_8338]) ⟨hx, hb, hml, hown, hts⟩ (v_tells l D K m0 x_8539 2 v_7480 x_8541 1 m_0 m_1 m_2 w0 m_4 m_5 m_6 m_7 m_8 m_9 m_10 m_11 m_12 m_13 m_14 m_15 m_16 m_17 m_18 m_19 m_21 m_22 m_23 m_24 m_25 m_26 m_27 m_28 m_29 m_30 m_31 m_32 m_33 v_8339 e0 m_36 q0 v_8340 v_8341 v_8342 m_41 m_42 m_43 m_44 m_45 m_46 m_47 m_48 m_49 m_50 m_51 m_52 m_53 m_54 m_55 m_56 m_57 m_58 m_59 fw f_8343 f_8344 H.size (by first | omega | decide) (by first | omega | decide) (by first | omega | decide) zfw) (cwV 5 hts gX12_discords_X12_tells rfl rfl rfl (by decide +kernel) ⟨Nat.le_of_ble_eq_true rfl, Nat.le_of_ble_eq_true rfl⟩) (mkV hK hN (hP.sub [0, 1, 2, 3] rfl) (hD.sub [0, 1, 2, 3] (by decide) rfl) (ci := 12) (q0 := 0) rfl rfl) rfl rfl hl.1 rfl (lv_room (Nat.le_of_ble_eq_true rfl)) dX12_discords_109 ⟨Nat.le_of_ble_eq_true rfl, Nat.le_of_ble_eq_true rfl⟩) hP hD hS hA [0, 1, 2, 3] [] rfl rfl (by decide) (by decide) (fun r_8542 u_8543 H locs hw hP hD hS => ?_)
                      have hP : va_P D vwCl [(m0, .inr (12, [m_0, m_1, m_2, .ref w0, m_4, m_5, m_6, m_7, m_8, m_9, m_10, m_11, m_12, m_13, m_14, m_15, m_16, m_17, m_18, m_19, .int 0, m_21, m_22, m_23, m_24, m_25, m_26, m_27, m_28, m_29, m_30, m_31, m_32, m_33, .int (u_8543.2.2.2.1 0), .ref e0, m_36, .ref q0, .int (u_8543.2.2.2.1 1), .long (u_8543.2.2.2.2.1 0), .long (u_8543.2.2.2.2.1 1), m_41, m_42, m_43, m_44, m_45, m_46, m_47, m_48, m_49, m_50, m_51, m_52, m_53, m_54, m_55, m_56, m_57, m_58, m_59])), (w0, .inl (K 0, 5500, .inl fw)), (e0, .inl (K 2, 13, .inr (.inl (u_8543.2.2.1 0)))), (q0, .inl (K 2, 400, .inr (.inl (u_8543.2.2.1 1))))] H := hP
                      have hD : va_D A [(m0, .inr (12, [m_0, m_1, m_2, .ref w0, m_4, m_5, m_6, m_7, m_8, m_9, m_10, m_11, m_12, m_13, m_14, m_15, m_16, m_17, m_18, m_19, .int 0, m_21, m_22, m_23, m_24, m_25, m_26, m_27, m_28, m_29, m_30, m_31, m_32, m_33, .int (u_8543.2.2.2.1 0), .ref e0, m_36, .ref q0, .int (u_8543.2.2.2.1 1), .long (u_8543.2.2.2.2.1 0), .long (u_8543.2.2.2.2.1 1), m_41, m_42, m_43, m_44, m_45, m_46, m_47, m_48, m_49, m_50, m_51, m_52, m_53, m_54, m_55, m_56, m_57, m_58, m_59])), (w0, .inl (K 0, 5500, .inl fw)), (e0, .inl (K 2, 13, .inr (.inl (u_8543.2.2.1 0)))), (q0, .inl (K 2, 400, .inr (.inl (u_8543.2.2.1 1))))] := hD
                      obtain ⟨k_8544, -⟩ := hw
                      refine lv_iconst (v := 0) hx hb dX12_discords_112 (by decide) ?_
                      refine lv_sipush (v := 999) hx hb dX12_discords_113 (by decide) ?_
                      refine pci (va_runS (As := [.long r_8542, .int 0, .int 999]) (rest := [.int v_8338]) ⟨hx, hb, hml, hown, hts⟩ (v_within_999 l D K r_8542 H.size) (va_cwS 3 hts gX12_discords_X12_within rfl rfl rfl (by decide +kernel) ⟨Nat.le_of_ble_eq_true rfl, Nat.le_of_ble_eq_true rfl⟩) (mkS hK hN (va_P.nil) (va_D.nil (A := fun _ => True))) rfl rfl hl.1 rfl (lv_room (Nat.le_of_ble_eq_true rfl)) dX12_discords_116 ⟨Nat.le_of_ble_eq_true rfl, Nat.le_of_ble_eq_true rfl⟩) (fun r_8545 hw => ?_)
                      obtain ⟨h_8546, -⟩ := hw
                      refine lv_iadd hx hb dX12_discords_119 ?_
                      refine lv_topi (fun x_8547 ex_8547 => ?_)
                      refine lv_istore_n (lv' := [(1, .int x_8547), (3, .int v_8337), (2, .int v_7480), (0, .ref m0)]) hx hb dX12_discords_120 rfl hl (by decide) rfl (fun ls hl => ?_)
                      exact j_8521 x_8547 (u_8543.2.2.2.1 0) (u_8543.2.2.2.1 1) (u_8543.2.2.2.2.1 0) (u_8543.2.2.2.2.1 1) (u_8543.2.2.1 0) (u_8543.2.2.1 1) (by omega) _ _ hP hD hS ls (lv_sub hl [1, 2, 0, 3] rfl)
        exact lp_8481 ((9 - (x_8200 : Int32).toInt : Int).toNat + 1) x_8200 v_7481 v_7482 v_7483 v_7484 v_7485 f_7486 f_7487 (by rw [hx_8200]; omega) (by omega) (Nat.lt_succ_self _) _ _ hP hD hS ls (lv_sub hl [0, 1, 2, 3] rfl)
  exact lp_8196 ((9 - (0 : Int32).toInt : Int).toNat + 1) 0 0 lw bro val sm fe fq (by decide) (by omega) (Nat.lt_succ_self _) _ _ hP hD hS ls (lv_sub hl [0, 1, 2] rfl)
set_option maxHeartbeats 4000000 in
set_option maxRecDepth 100000 in
theorem v_discord (l : Launch) (D : va_G) (K : Nat → ClassId) (m0 : Nat) (thr : Int32) (m_1 : Value) (m_2 : Value) (w0 : Nat) (m_4 : Value) (m_5 : Value) (m_6 : Value) (m_7 : Value) (m_8 : Value) (m_9 : Value) (m_10 : Value) (m_11 : Value) (m_12 : Value) (m_13 : Value) (m_14 : Value) (m_15 : Value) (m_16 : Value) (m_17 : Value) (m_18 : Value) (m_19 : Value) (m_21 : Value) (m_22 : Value) (m_23 : Value) (m_24 : Value) (m_25 : Value) (m_26 : Value) (m_27 : Value) (m_28 : Value) (m_29 : Value) (m_30 : Value) (m_31 : Value) (m_32 : Value) (m_33 : Value) (lw : Int32) (e0 : Nat) (m_36 : Value) (q0 : Nat) (bro : Int32) (val : Int64) (sm : Int64) (m_41 : Value) (m_42 : Value) (m_43 : Value) (m_44 : Value) (m_45 : Value) (m_46 : Value) (m_47 : Value) (m_48 : Value) (m_49 : Value) (m_50 : Value) (m_51 : Value) (m_52 : Value) (m_53 : Value) (m_54 : Value) (m_55 : Value) (m_56 : Value) (m_57 : Value) (m_58 : Value) (m_59 : Value) (fw : Nat → Int32) (fe : Nat → Int64) (fq : Nat → Int64) (sz : Nat) (zbro : 0 ≤ bro.toInt ∧ bro.toInt ≤ 1) (zfw : RowOK fw) : Met l yX12_discord wsX12_discord ({ frames := 5, cells := 0, slots := 0, locals := 125 }) (va_Pc [.ref m0] (Pre D K [(m0, .inr (12, [.int thr, m_1, m_2, .ref w0, m_4, m_5, m_6, m_7, m_8, m_9, m_10, m_11, m_12, m_13, m_14, m_15, m_16, m_17, m_18, m_19, .int 0, m_21, m_22, m_23, m_24, m_25, m_26, m_27, m_28, m_29, m_30, m_31, m_32, m_33, .int lw, .ref e0, m_36, .ref q0, .int bro, .long val, .long sm, m_41, m_42, m_43, m_44, m_45, m_46, m_47, m_48, m_49, m_50, m_51, m_52, m_53, m_54, m_55, m_56, m_57, m_58, m_59])), (w0, .inl (K 0, 5500, .inl fw)), (e0, .inl (K 2, 13, .inr (.inl fe))), (q0, .inl (K 2, 400, .inr (.inl fq)))] sz)) (va_Qi (S := Su) (fun (r : Int32) (u : Su) => (0 ≤ (u.2.2.2.1 1).toInt ∧ (u.2.2.2.1 1).toInt ≤ 1) ∧ True) (fun u t => Wd D (va_A [(m0, .inr (12, [.int thr, m_1, m_2, .ref w0, m_4, m_5, m_6, m_7, m_8, m_9, m_10, m_11, m_12, m_13, m_14, m_15, m_16, m_17, m_18, m_19, .int 0, m_21, m_22, m_23, m_24, m_25, m_26, m_27, m_28, m_29, m_30, m_31, m_32, m_33, .int lw, .ref e0, m_36, .ref q0, .int bro, .long val, .long sm, m_41, m_42, m_43, m_44, m_45, m_46, m_47, m_48, m_49, m_50, m_51, m_52, m_53, m_54, m_55, m_56, m_57, m_58, m_59])), (w0, .inl (K 0, 5500, .inl fw)), (e0, .inl (K 2, 13, .inr (.inl fe))), (q0, .inl (K 2, 400, .inr (.inl fq)))] sz) ((fun u => [(m0, .inr (12, [.int 0, m_1, m_2, .ref w0, m_4, m_5, m_6, m_7, m_8, m_9, m_10, m_11, m_12, m_13, m_14, m_15, m_16, m_17, m_18, m_19, .int 0, m_21, m_22, m_23, m_24, m_25, m_26, m_27, m_28, m_29, m_30, m_31, m_32, m_33, .int (u.2.2.2.1 0), .ref e0, m_36, .ref q0, .int (u.2.2.2.1 1), .long (u.2.2.2.2.1 0), .long (u.2.2.2.2.1 1), m_41, m_42, m_43, m_44, m_45, m_46, m_47, m_48, m_49, m_50, m_51, m_52, m_53, m_54, m_55, m_56, m_57, m_58, m_59])), (w0, .inl (K 0, 5500, .inl fw)), (e0, .inl (K 2, 13, .inr (.inl (u.2.2.1 0)))), (q0, .inl (K 2, 400, .inr (.inl (u.2.2.1 1))))]) u) t) (va_A [(m0, .inr (12, [.int thr, m_1, m_2, .ref w0, m_4, m_5, m_6, m_7, m_8, m_9, m_10, m_11, m_12, m_13, m_14, m_15, m_16, m_17, m_18, m_19, .int 0, m_21, m_22, m_23, m_24, m_25, m_26, m_27, m_28, m_29, m_30, m_31, m_32, m_33, .int lw, .ref e0, m_36, .ref q0, .int bro, .long val, .long sm, m_41, m_42, m_43, m_44, m_45, m_46, m_47, m_48, m_49, m_50, m_51, m_52, m_53, m_54, m_55, m_56, m_57, m_58, m_59])), (w0, .inl (K 0, 5500, .inl fw)), (e0, .inl (K 2, 13, .inr (.inl fe))), (q0, .inl (K 2, 400, .inr (.inl fq)))] sz)) 0 0 (va_A [(m0, .inr (12, [.int thr, m_1, m_2, .ref w0, m_4, m_5, m_6, m_7, m_8, m_9, m_10, m_11, m_12, m_13, m_14, m_15, m_16, m_17, m_18, m_19, .int 0, m_21, m_22, m_23, m_24, m_25, m_26, m_27, m_28, m_29, m_30, m_31, m_32, m_33, .int lw, .ref e0, m_36, .ref q0, .int bro, .long val, .long sm, m_41, m_42, m_43, m_44, m_45, m_46, m_47, m_48, m_49, m_50, m_51, m_52, m_53, m_54, m_55, m_56, m_57, m_58, m_59])), (w0, .inl (K 0, 5500, .inl fw)), (e0, .inl (K 2, 13, .inr (.inl fe))), (q0, .inl (K 2, 400, .inr (.inl fq)))] sz) := by
  refine Met.ofW (cc := cX12_discord) (maxL := 1) (ret := (some .int)) (by decide) rfl ?_
  intro p e s m args below meth c s₁ B hml hv
  obtain ⟨rfl, hsz, hP, hK, hD0, hN⟩ := hv
  have hx := B.exec
  have hb := B.bytes
  have hr := B.returns
  have hts := atoms_spec (ws := wsX12_discord) B.pre
  have hown : s.vm.findClass RX12 = some m.cls := findClass_of_methodNamed B.named
  have hlocks := B.notSynchronized
  subst hsz
  have hD := hD0.self (sz := s.heap.size)
  generalize hAe : va_A [(m0, .inr (12, [.int thr, m_1, m_2, .ref w0, m_4, m_5, m_6, m_7, m_8, m_9, m_10, m_11, m_12, m_13, m_14, m_15, m_16, m_17, m_18, m_19, .int 0, m_21, m_22, m_23, m_24, m_25, m_26, m_27, m_28, m_29, m_30, m_31, m_32, m_33, .int lw, .ref e0, m_36, .ref q0, .int bro, .long val, .long sm, m_41, m_42, m_43, m_44, m_45, m_46, m_47, m_48, m_49, m_50, m_51, m_52, m_53, m_54, m_55, m_56, m_57, m_58, m_59])), (w0, .inl (K 0, 5500, .inl fw)), (e0, .inl (K 2, 13, .inr (.inl fe))), (q0, .inl (K 2, 400, .inr (.inl fq)))] s.heap.size = A at hD ⊢
  have hA : ∀ q : Nat, s.heap.size ≤ q → A q := fun q h => by rw [← hAe]; exact Or.inr h
  have hS : va_S A s.heap s.heap [] := va_S.rf
  have hP : va_P D vwCl [(m0, .inr (12, [.int thr, m_1, m_2, .ref w0, m_4, m_5, m_6, m_7, m_8, m_9, m_10, m_11, m_12, m_13, m_14, m_15, m_16, m_17, m_18, m_19, .int 0, m_21, m_22, m_23, m_24, m_25, m_26, m_27, m_28, m_29, m_30, m_31, m_32, m_33, .int lw, .ref e0, m_36, .ref q0, .int bro, .long val, .long sm, m_41, m_42, m_43, m_44, m_45, m_46, m_47, m_48, m_49, m_50, m_51, m_52, m_53, m_54, m_55, m_56, m_57, m_58, m_59])), (w0, .inl (K 0, 5500, .inl fw)), (e0, .inl (K 2, 13, .inr (.inl fe))), (q0, .inl (K 2, 400, .inr (.inl fq)))] s.heap := hP
  have hl := lv_entry [.ref m0] (n := 1) (Nat.le_of_ble_eq_true rfl)
  rw [lg_entry_eq]
  generalize (lg_sl [.ref m0] ++ List.replicate (1 - (lg_sl [.ref m0]).length) Slot.unset).toArray = ls at hl ⊢
  have hl : lv_has ls 1 [(0, .ref m0)] := hl
  have hw12 : ∀ w ∈ wsX120, w ∈ wsX12_discord := fun w h => (List.mem_cons_of_mem _ (List.mem_append_right _ h))
  generalize hQ : MQ below _ _ s _ _ _ = Q
  refine lv_aload_n hx hb dX12_discord_0 rfl (lv_at hl 0 rfl) ?_
  refine lv_iconst (v := 0) hx hb dX12_discord_1 (by decide) ?_
  refine va_put (ci := 12) (v := .int 0) (ty := .int) (C := RX12) (T := TX12) (N := 60) hx hb hts hw12 tyX12 tyX12_ok nmX12 hown hK hP hD hS 0 rfl rfl 0 (by decide) (hts (.fieldLink RX12 158 "SmokeTuneModel" "thrown" "I") (List.mem_cons_of_mem _ (List.mem_append_left _ (List.mem_append_left _ (List.mem_of_getElem? (i := 0) rfl))))) (fun _ h9 => h9) rfl (by decide +kernel) (by first | rfl | decide) (by first | rfl | decide) (Nat.le_of_ble_eq_true rfl) dX12_discord_2 (fun H locs hP hD hS => ?_)
  have hP : va_P D vwCl [(m0, .inr (12, [.int 0, m_1, m_2, .ref w0, m_4, m_5, m_6, m_7, m_8, m_9, m_10, m_11, m_12, m_13, m_14, m_15, m_16, m_17, m_18, m_19, .int 0, m_21, m_22, m_23, m_24, m_25, m_26, m_27, m_28, m_29, m_30, m_31, m_32, m_33, .int lw, .ref e0, m_36, .ref q0, .int bro, .long val, .long sm, m_41, m_42, m_43, m_44, m_45, m_46, m_47, m_48, m_49, m_50, m_51, m_52, m_53, m_54, m_55, m_56, m_57, m_58, m_59])), (w0, .inl (K 0, 5500, .inl fw)), (e0, .inl (K 2, 13, .inr (.inl fe))), (q0, .inl (K 2, 400, .inr (.inl fq)))] H := hP
  have hD : va_D A [(m0, .inr (12, [.int 0, m_1, m_2, .ref w0, m_4, m_5, m_6, m_7, m_8, m_9, m_10, m_11, m_12, m_13, m_14, m_15, m_16, m_17, m_18, m_19, .int 0, m_21, m_22, m_23, m_24, m_25, m_26, m_27, m_28, m_29, m_30, m_31, m_32, m_33, .int lw, .ref e0, m_36, .ref q0, .int bro, .long val, .long sm, m_41, m_42, m_43, m_44, m_45, m_46, m_47, m_48, m_49, m_50, m_51, m_52, m_53, m_54, m_55, m_56, m_57, m_58, m_59])), (w0, .inl (K 0, 5500, .inl fw)), (e0, .inl (K 2, 13, .inr (.inl fe))), (q0, .inl (K 2, 400, .inr (.inl fq)))] := hD
  refine lv_aload_n hx hb dX12_discord_5 rfl (lv_at hl 0 rfl) ?_
  refine kci (S := Su) (wr := []) (va_runV (As := []) (rest := []) ⟨hx, hb, hml, hown, hts⟩ (v_discords l D K m0 (.int 0) m_1 m_2 w0 m_4 m_5 m_6 m_7 m_8 m_9 m_10 m_11 m_12 m_13 m_14 m_15 m_16 m_17 m_18 m_19 m_21 m_22 m_23 m_24 m_25 m_26 m_27 m_28 m_29 m_30 m_31 m_32 m_33 lw e0 m_36 q0 bro val sm m_41 m_42 m_43 m_44 m_45 m_46 m_47 m_48 m_49 m_50 m_51 m_52 m_53 m_54 m_55 m_56 m_57 m_58 m_59 fw fe fq H.size (by first | omega | decide) zfw) (cwV 0 hts gX12_discord_X12_discords rfl rfl rfl (by decide +kernel) ⟨Nat.le_of_ble_eq_true rfl, Nat.le_of_ble_eq_true rfl⟩) (mkV hK hN (hP.sub [0, 1, 2, 3] rfl) (hD.sub [0, 1, 2, 3] (by decide) rfl) (ci := 12) (q0 := 0) rfl rfl) rfl rfl hl.1 rfl (lv_room (Nat.le_of_ble_eq_true rfl)) dX12_discord_6 ⟨Nat.le_of_ble_eq_true rfl, Nat.le_of_ble_eq_true rfl⟩) hP hD hS hA [0, 1, 2, 3] [] rfl rfl (by decide) (by decide) (fun r_7 u_8 H locs hw hP hD hS => ?_)
  have hP : va_P D vwCl [(m0, .inr (12, [.int 0, m_1, m_2, .ref w0, m_4, m_5, m_6, m_7, m_8, m_9, m_10, m_11, m_12, m_13, m_14, m_15, m_16, m_17, m_18, m_19, .int 0, m_21, m_22, m_23, m_24, m_25, m_26, m_27, m_28, m_29, m_30, m_31, m_32, m_33, .int (u_8.2.2.2.1 0), .ref e0, m_36, .ref q0, .int (u_8.2.2.2.1 1), .long (u_8.2.2.2.2.1 0), .long (u_8.2.2.2.2.1 1), m_41, m_42, m_43, m_44, m_45, m_46, m_47, m_48, m_49, m_50, m_51, m_52, m_53, m_54, m_55, m_56, m_57, m_58, m_59])), (w0, .inl (K 0, 5500, .inl fw)), (e0, .inl (K 2, 13, .inr (.inl (u_8.2.2.1 0)))), (q0, .inl (K 2, 400, .inr (.inl (u_8.2.2.1 1))))] H := hP
  have hD : va_D A [(m0, .inr (12, [.int 0, m_1, m_2, .ref w0, m_4, m_5, m_6, m_7, m_8, m_9, m_10, m_11, m_12, m_13, m_14, m_15, m_16, m_17, m_18, m_19, .int 0, m_21, m_22, m_23, m_24, m_25, m_26, m_27, m_28, m_29, m_30, m_31, m_32, m_33, .int (u_8.2.2.2.1 0), .ref e0, m_36, .ref q0, .int (u_8.2.2.2.1 1), .long (u_8.2.2.2.2.1 0), .long (u_8.2.2.2.2.1 1), m_41, m_42, m_43, m_44, m_45, m_46, m_47, m_48, m_49, m_50, m_51, m_52, m_53, m_54, m_55, m_56, m_57, m_58, m_59])), (w0, .inl (K 0, 5500, .inl fw)), (e0, .inl (K 2, 13, .inr (.inl (u_8.2.2.1 0)))), (q0, .inl (K 2, 400, .inr (.inl (u_8.2.2.1 1))))] := hD
  obtain ⟨k_9, -⟩ := hw
  subst hQ
  have hP9 := hP.sub (ws' := [(m0, .inr (12, [.int 0, m_1, m_2, .ref w0, m_4, m_5, m_6, m_7, m_8, m_9, m_10, m_11, m_12, m_13, m_14, m_15, m_16, m_17, m_18, m_19, .int 0, m_21, m_22, m_23, m_24, m_25, m_26, m_27, m_28, m_29, m_30, m_31, m_32, m_33, .int (u_8.2.2.2.1 0), .ref e0, m_36, .ref q0, .int (u_8.2.2.2.1 1), .long (u_8.2.2.2.2.1 0), .long (u_8.2.2.2.2.1 1), m_41, m_42, m_43, m_44, m_45, m_46, m_47, m_48, m_49, m_50, m_51, m_52, m_53, m_54, m_55, m_56, m_57, m_58, m_59])), (w0, .inl (K 0, 5500, .inl fw)), (e0, .inl (K 2, 13, .inr (.inl (u_8.2.2.1 0)))), (q0, .inl (K 2, 400, .inr (.inl (u_8.2.2.1 1))))]) [0, 1, 2, 3] rfl
  have hD9 := hD.sub (ws' := [(m0, .inr (12, [.int 0, m_1, m_2, .ref w0, m_4, m_5, m_6, m_7, m_8, m_9, m_10, m_11, m_12, m_13, m_14, m_15, m_16, m_17, m_18, m_19, .int 0, m_21, m_22, m_23, m_24, m_25, m_26, m_27, m_28, m_29, m_30, m_31, m_32, m_33, .int (u_8.2.2.2.1 0), .ref e0, m_36, .ref q0, .int (u_8.2.2.2.1 1), .long (u_8.2.2.2.2.1 0), .long (u_8.2.2.2.2.1 1), m_41, m_42, m_43, m_44, m_45, m_46, m_47, m_48, m_49, m_50, m_51, m_52, m_53, m_54, m_55, m_56, m_57, m_58, m_59])), (w0, .inl (K 0, 5500, .inl fw)), (e0, .inl (K 2, 13, .inr (.inl (u_8.2.2.1 0)))), (q0, .inl (K 2, 400, .inr (.inl (u_8.2.2.1 1))))]) [0, 1, 2, 3] (by decide) rfl
  exact W.iret (v := r_7) hx hb hr (fun t ht hW => ⟨⟨r_7, ((fun _ => 0, fun _ => fun _ => 0, fun i => match i with | 0 => (u_8.2.2.1 0) | _ => (u_8.2.2.1 1), fun i => match i with | 0 => (u_8.2.2.2.1 0) | _ => (u_8.2.2.2.1 1), fun i => match i with | 0 => (u_8.2.2.2.2.1 0) | _ => (u_8.2.2.2.2.1 1), fun _ => fun _ => none) : Su), rfl, ⟨(show 0 ≤ ((u_8.2.2.2.1 1) : Int32).toInt ∧ ((u_8.2.2.2.1 1) : Int32).toInt ≤ 1 by omega), trivial⟩, (⟨by rw [ht]; exact hP9, hD9⟩ : Wd D A _ t)⟩, hS.F ht⟩) hS.2.2 dX12_discord_9
set_option maxHeartbeats 4000000 in
set_option maxRecDepth 100000 in
theorem v_isMet (l : Launch) (D : va_G) (K : Nat → ClassId) (m0 : Nat) (m_0 : Value) (m_1 : Value) (m_2 : Value) (w0 : Nat) (m_4 : Value) (m_5 : Value) (m_6 : Value) (m_7 : Value) (m_8 : Value) (m_9 : Value) (m_10 : Value) (m_11 : Value) (m_12 : Value) (m_13 : Value) (m_14 : Value) (m_15 : Value) (m_16 : Value) (m_17 : Value) (m_18 : Value) (m_19 : Value) (m_20 : Value) (m_21 : Value) (m_22 : Value) (m_23 : Value) (m_24 : Value) (m_25 : Value) (m_26 : Value) (m_27 : Value) (m_28 : Value) (m_29 : Value) (m_30 : Value) (m_31 : Value) (m_32 : Value) (m_33 : Value) (m_34 : Value) (m_35 : Value) (m_36 : Value) (m_37 : Value) (m_38 : Value) (m_39 : Value) (m_40 : Value) (m_41 : Value) (m_42 : Value) (m_43 : Value) (m_44 : Value) (m_45 : Value) (m_46 : Value) (m_47 : Value) (m_48 : Value) (m_49 : Value) (m_50 : Value) (m_51 : Value) (m_52 : Value) (m_53 : Value) (m_54 : Value) (m_55 : Value) (m_56 : Value) (m_57 : Value) (m_58 : Value) (m_59 : Value) (fw : Nat → Int32) (sz : Nat) (zfw : RowOK fw) : Met l yX12_isMet wsX12_isMet ({ frames := 3, cells := 0, slots := 0, locals := 68 }) (va_Pc [.ref m0] (Pre D K [(m0, .inr (12, [m_0, m_1, m_2, .ref w0, m_4, m_5, m_6, m_7, m_8, m_9, m_10, m_11, m_12, m_13, m_14, m_15, m_16, m_17, m_18, m_19, m_20, m_21, m_22, m_23, m_24, m_25, m_26, m_27, m_28, m_29, m_30, m_31, m_32, m_33, m_34, m_35, m_36, m_37, m_38, m_39, m_40, m_41, m_42, m_43, m_44, m_45, m_46, m_47, m_48, m_49, m_50, m_51, m_52, m_53, m_54, m_55, m_56, m_57, m_58, m_59])), (w0, .inl (K 0, 5500, .inl fw))] sz)) (vp_Si (fun r : Int32 => (0 ≤ r.toInt ∧ r.toInt ≤ 1) ∧ True)) 0 0 (fun _ => False) := by
  refine Met.ofW (cc := cX12_isMet) (maxL := 1) (ret := (some .boolean)) (by decide) rfl ?_
  intro p e s m args below meth c s₁ B hml hv
  obtain ⟨rfl, hsz, hP, hK, hD0, hN⟩ := hv
  have hx := B.exec
  have hb := B.bytes
  have hr := B.returns
  have hts := atoms_spec (ws := wsX12_isMet) B.pre
  have hown : s.vm.findClass RX12 = some m.cls := findClass_of_methodNamed B.named
  have hlocks := B.notSynchronized
  subst hsz
  have hD := hD0
  have hP : va_P D vwCl [(m0, .inr (12, [m_0, m_1, m_2, .ref w0, m_4, m_5, m_6, m_7, m_8, m_9, m_10, m_11, m_12, m_13, m_14, m_15, m_16, m_17, m_18, m_19, m_20, m_21, m_22, m_23, m_24, m_25, m_26, m_27, m_28, m_29, m_30, m_31, m_32, m_33, m_34, m_35, m_36, m_37, m_38, m_39, m_40, m_41, m_42, m_43, m_44, m_45, m_46, m_47, m_48, m_49, m_50, m_51, m_52, m_53, m_54, m_55, m_56, m_57, m_58, m_59])), (w0, .inl (K 0, 5500, .inl fw))] s.heap := hP
  have hl := lv_entry [.ref m0] (n := 1) (Nat.le_of_ble_eq_true rfl)
  rw [lg_entry_eq]
  generalize (lg_sl [.ref m0] ++ List.replicate (1 - (lg_sl [.ref m0]).length) Slot.unset).toArray = ls at hl ⊢
  have hl : lv_has ls 1 [(0, .ref m0)] := hl
  have hw12 : ∀ w ∈ wsX120, w ∈ wsX12_isMet := fun w h => (List.mem_cons_of_mem _ (List.mem_append_right _ h))
  generalize hQ : MQ below _ _ s _ _ _ = Q
  refine lv_aload_n hx hb dX12_isMet_0 rfl (lv_at hl 0 rfl) ?_
  refine va_get (ci := 12) (v := .ref w0) (C := RX12) (T := TX12) (N := 60) hx hb hts hw12 hown hK hP 0 rfl rfl 3 (by decide) (hts (.fieldLink RX12 13 "SmokeTuneModel" "row" "[I") (List.mem_cons_of_mem _ (List.mem_append_left _ (List.mem_of_getElem? (i := 0) rfl)))) (fun _ h9 => h9) rfl dX12_isMet_1 ?_
  refine lv_bipush (v := 67) hx hb dX12_isMet_4 (by decide) ?_
  refine lv_aload_n hx hb dX12_isMet_6 rfl (lv_at hl 0 rfl) ?_
  refine lv_iconst (v := 0) hx hb dX12_isMet_7 (by decide) ?_
  refine pci (va_runV (As := [.int 0]) (rest := [.int 67, .ref w0]) ⟨hx, hb, hml, hown, hts⟩ (v_term_0 l D K m0 m_0 m_1 m_2 w0 m_4 m_5 m_6 m_7 m_8 m_9 m_10 m_11 m_12 m_13 m_14 m_15 m_16 m_17 m_18 m_19 m_20 m_21 m_22 m_23 m_24 m_25 m_26 m_27 m_28 m_29 m_30 m_31 m_32 m_33 m_34 m_35 m_36 m_37 m_38 m_39 m_40 m_41 m_42 m_43 m_44 m_45 m_46 m_47 m_48 m_49 m_50 m_51 m_52 m_53 m_54 m_55 m_56 m_57 m_58 m_59 fw s.heap.size zfw) (cwV 1 hts gX12_isMet_X12_term rfl rfl rfl (by decide +kernel) ⟨Nat.le_of_ble_eq_true rfl, Nat.le_of_ble_eq_true rfl⟩) (mkV hK hN (hP.sub [0, 1] rfl) (hD.sub [0, 1] (by decide) rfl) (ci := 12) (q0 := 0) rfl rfl) rfl rfl hl.1 rfl (lv_room (Nat.le_of_ble_eq_true rfl)) dX12_isMet_8 ⟨Nat.le_of_ble_eq_true rfl, Nat.le_of_ble_eq_true rfl⟩) (fun r_19 hw => ?_)
  obtain ⟨h_20, -⟩ := hw
  refine lv_iadd hx hb dX12_isMet_11 ?_
  refine lv_topi (fun x_21 ex_21 => ?_)
  have hx_21 : x_21.toInt = (67 + r_19.toInt) := by rw [ex_21]; exact i_add (show (67 : Int32).toInt = 67 from rfl) rfl (by omega)
  refine va_iald hx hb hK hP 1 0 rfl rfl (i_in hx_21 (by omega)) dX12_isMet_12 ?_
  refine lv_topi (fun x_22 ex_22 => ?_)
  have px_22 := RowOK.at zfw hx_21 (show 0 ≤ (67 + r_19.toInt) ∧ (67 + r_19.toInt) < 100 by omega)
  rw [← ex_22] at px_22
  refine lv_aload_n hx hb dX12_isMet_13 rfl (lv_at hl 0 rfl) ?_
  refine pci (va_runV (As := []) (rest := [.int x_22]) ⟨hx, hb, hml, hown, hts⟩ (v_soundingNotes l D K m0 m_0 m_1 m_2 w0 m_4 m_5 m_6 m_7 m_8 m_9 m_10 m_11 m_12 m_13 m_14 m_15 m_16 m_17 m_18 m_19 m_20 m_21 m_22 m_23 m_24 m_25 m_26 m_27 m_28 m_29 m_30 m_31 m_32 m_33 m_34 m_35 m_36 m_37 m_38 m_39 m_40 m_41 m_42 m_43 m_44 m_45 m_46 m_47 m_48 m_49 m_50 m_51 m_52 m_53 m_54 m_55 m_56 m_57 m_58 m_59 fw s.heap.size zfw) (cwV 0 hts gX12_isMet_X12_soundingNotes rfl rfl rfl (by decide +kernel) ⟨Nat.le_of_ble_eq_true rfl, Nat.le_of_ble_eq_true rfl⟩) (mkV hK hN (hP.sub [0, 1] rfl) (hD.sub [0, 1] (by decide) rfl) (ci := 12) (q0 := 0) rfl rfl) rfl rfl hl.1 rfl (lv_room (Nat.le_of_ble_eq_true rfl)) dX12_isMet_14 ⟨Nat.le_of_ble_eq_true rfl, Nat.le_of_ble_eq_true rfl⟩) (fun r_23 hw => ?_)
  obtain ⟨h_24, -⟩ := hw
  refine lv_iconst (v := (-1)) hx hb dX12_isMet_17 (by decide) ?_
  refine lv_ixor hx hb dX12_isMet_18 ?_
  refine lv_topi (fun x_25 ex_25 => ?_)
  refine lv_iand hx hb dX12_isMet_19 ?_
  refine lv_topi (fun x_26 ex_26 => ?_)
  refine lv_if_ne (tgt := 27) hx hb dX12_isMet_20 (by decide) (fun c_27 => ?_) (fun c_27 => ?_)
  · have c_27i := i_ne (x := x_26.toInt) (y := 0) rfl rfl c_27
    refine lv_iconst (v := 0) hx hb dX12_isMet_27 (by decide) ?_
    subst hQ
    exact W.zret (v := 0) hx hb hr (by decide) (fun t ht hW => ⟨_, rfl, ⟨(show 0 ≤ (0 : Int32).toInt ∧ (0 : Int32).toInt ≤ 1 by decide), trivial⟩, ht⟩) (fun q hq => by cases hq) dX12_isMet_28
  · have c_27i := i_eq (x := x_26.toInt) (y := 0) rfl rfl c_27
    refine lv_iconst (v := 1) hx hb dX12_isMet_23 (by decide) ?_
    refine lv_goto (tgt := 28) hx hb dX12_isMet_24 (by decide) ?_
    subst hQ
    exact W.zret (v := 1) hx hb hr (by decide) (fun t ht hW => ⟨_, rfl, ⟨(show 0 ≤ (1 : Int32).toInt ∧ (1 : Int32).toInt ≤ 1 by decide), trivial⟩, ht⟩) (fun q hq => by cases hq) dX12_isMet_28
set_option maxHeartbeats 4000000 in
set_option maxRecDepth 100000 in
theorem v_sounds (l : Launch) (D : va_G) (K : Nat → ClassId) (m0 : Nat) (x : Int32) (thr : Int32) (m_1 : Value) (m_2 : Value) (w0 : Nat) (m_4 : Value) (m_5 : Value) (m_6 : Value) (m_7 : Value) (m_8 : Value) (m_9 : Value) (m_10 : Value) (m_11 : Value) (m_12 : Value) (m_13 : Value) (m_14 : Value) (m_15 : Value) (m_16 : Value) (m_17 : Value) (m_18 : Value) (m_19 : Value) (m_20 : Value) (m_21 : Value) (m_22 : Value) (m_23 : Value) (m_24 : Value) (m_25 : Value) (m_26 : Value) (m_27 : Value) (m_28 : Value) (m_29 : Value) (m_30 : Value) (m_31 : Value) (m_32 : Value) (m_33 : Value) (m_34 : Value) (m_35 : Value) (m_36 : Value) (m_37 : Value) (m_38 : Value) (m_39 : Value) (m_40 : Value) (m_41 : Value) (m_42 : Value) (m_43 : Value) (m_44 : Value) (m_45 : Value) (m_46 : Value) (m_47 : Value) (m_48 : Value) (m_49 : Value) (m_50 : Value) (m_51 : Value) (m_52 : Value) (m_53 : Value) (m_54 : Value) (m_55 : Value) (m_56 : Value) (m_57 : Value) (m_58 : Value) (m_59 : Value) (fw : Nat → Int32) (sz : Nat) (zfw : RowOK fw) : Met l yX12_sounds wsX12_sounds ({ frames := 4, cells := 0, slots := 0, locals := 88 }) (va_Pc [.ref m0, .int x] (Pre D K [(m0, .inr (12, [.int thr, m_1, m_2, .ref w0, m_4, m_5, m_6, m_7, m_8, m_9, m_10, m_11, m_12, m_13, m_14, m_15, m_16, m_17, m_18, m_19, m_20, m_21, m_22, m_23, m_24, m_25, m_26, m_27, m_28, m_29, m_30, m_31, m_32, m_33, m_34, m_35, m_36, m_37, m_38, m_39, m_40, m_41, m_42, m_43, m_44, m_45, m_46, m_47, m_48, m_49, m_50, m_51, m_52, m_53, m_54, m_55, m_56, m_57, m_58, m_59])), (w0, .inl (K 0, 5500, .inl fw))] sz)) (va_Qi (S := Su) (fun (r : Int32) (u : Su) => True) (fun u t => Wd D (va_A [(m0, .inr (12, [.int thr, m_1, m_2, .ref w0, m_4, m_5, m_6, m_7, m_8, m_9, m_10, m_11, m_12, m_13, m_14, m_15, m_16, m_17, m_18, m_19, m_20, m_21, m_22, m_23, m_24, m_25, m_26, m_27, m_28, m_29, m_30, m_31, m_32, m_33, m_34, m_35, m_36, m_37, m_38, m_39, m_40, m_41, m_42, m_43, m_44, m_45, m_46, m_47, m_48, m_49, m_50, m_51, m_52, m_53, m_54, m_55, m_56, m_57, m_58, m_59])), (w0, .inl (K 0, 5500, .inl fw))] sz) ((fun u => [(m0, .inr (12, [.int 0, m_1, m_2, .ref w0, m_4, m_5, m_6, m_7, m_8, m_9, m_10, m_11, m_12, m_13, m_14, m_15, m_16, m_17, m_18, m_19, m_20, m_21, m_22, m_23, m_24, m_25, m_26, m_27, m_28, m_29, m_30, m_31, m_32, m_33, m_34, m_35, m_36, m_37, m_38, m_39, m_40, m_41, m_42, m_43, m_44, m_45, m_46, m_47, m_48, m_49, m_50, m_51, m_52, m_53, m_54, m_55, m_56, m_57, m_58, m_59])), (w0, .inl (K 0, 5500, .inl fw))]) u) t) (va_A [(m0, .inr (12, [.int thr, m_1, m_2, .ref w0, m_4, m_5, m_6, m_7, m_8, m_9, m_10, m_11, m_12, m_13, m_14, m_15, m_16, m_17, m_18, m_19, m_20, m_21, m_22, m_23, m_24, m_25, m_26, m_27, m_28, m_29, m_30, m_31, m_32, m_33, m_34, m_35, m_36, m_37, m_38, m_39, m_40, m_41, m_42, m_43, m_44, m_45, m_46, m_47, m_48, m_49, m_50, m_51, m_52, m_53, m_54, m_55, m_56, m_57, m_58, m_59])), (w0, .inl (K 0, 5500, .inl fw))] sz)) 0 0 (va_A [(m0, .inr (12, [.int thr, m_1, m_2, .ref w0, m_4, m_5, m_6, m_7, m_8, m_9, m_10, m_11, m_12, m_13, m_14, m_15, m_16, m_17, m_18, m_19, m_20, m_21, m_22, m_23, m_24, m_25, m_26, m_27, m_28, m_29, m_30, m_31, m_32, m_33, m_34, m_35, m_36, m_37, m_38, m_39, m_40, m_41, m_42, m_43, m_44, m_45, m_46, m_47, m_48, m_49, m_50, m_51, m_52, m_53, m_54, m_55, m_56, m_57, m_58, m_59])), (w0, .inl (K 0, 5500, .inl fw))] sz) := by
  refine Met.ofW (cc := cX12_sounds) (maxL := 5) (ret := (some .int)) (by decide) rfl ?_
  intro p e s m args below meth c s₁ B hml hv
  obtain ⟨rfl, hsz, hP, hK, hD0, hN⟩ := hv
  have hx := B.exec
  have hb := B.bytes
  have hr := B.returns
  have hts := atoms_spec (ws := wsX12_sounds) B.pre
  have hown : s.vm.findClass RX12 = some m.cls := findClass_of_methodNamed B.named
  have hlocks := B.notSynchronized
  subst hsz
  have hD := hD0.self (sz := s.heap.size)
  generalize hAe : va_A [(m0, .inr (12, [.int thr, m_1, m_2, .ref w0, m_4, m_5, m_6, m_7, m_8, m_9, m_10, m_11, m_12, m_13, m_14, m_15, m_16, m_17, m_18, m_19, m_20, m_21, m_22, m_23, m_24, m_25, m_26, m_27, m_28, m_29, m_30, m_31, m_32, m_33, m_34, m_35, m_36, m_37, m_38, m_39, m_40, m_41, m_42, m_43, m_44, m_45, m_46, m_47, m_48, m_49, m_50, m_51, m_52, m_53, m_54, m_55, m_56, m_57, m_58, m_59])), (w0, .inl (K 0, 5500, .inl fw))] s.heap.size = A at hD ⊢
  have hA : ∀ q : Nat, s.heap.size ≤ q → A q := fun q h => by rw [← hAe]; exact Or.inr h
  have hS : va_S A s.heap s.heap [] := va_S.rf
  have hP : va_P D vwCl [(m0, .inr (12, [.int thr, m_1, m_2, .ref w0, m_4, m_5, m_6, m_7, m_8, m_9, m_10, m_11, m_12, m_13, m_14, m_15, m_16, m_17, m_18, m_19, m_20, m_21, m_22, m_23, m_24, m_25, m_26, m_27, m_28, m_29, m_30, m_31, m_32, m_33, m_34, m_35, m_36, m_37, m_38, m_39, m_40, m_41, m_42, m_43, m_44, m_45, m_46, m_47, m_48, m_49, m_50, m_51, m_52, m_53, m_54, m_55, m_56, m_57, m_58, m_59])), (w0, .inl (K 0, 5500, .inl fw))] s.heap := hP
  have hl := lv_entry [.ref m0, .int x] (n := 5) (Nat.le_of_ble_eq_true rfl)
  rw [lg_entry_eq]
  generalize (lg_sl [.ref m0, .int x] ++ List.replicate (5 - (lg_sl [.ref m0, .int x]).length) Slot.unset).toArray = ls at hl ⊢
  have hl : lv_has ls 5 [(0, .ref m0), (1, .int x)] := hl
  have hw12 : ∀ w ∈ wsX120, w ∈ wsX12_sounds := fun w h => (List.mem_cons_of_mem _ (List.mem_append_right _ h))
  generalize hQ : MQ below _ _ s _ _ _ = Q
  refine lv_aload_n hx hb dX12_sounds_0 rfl (lv_at hl 0 rfl) ?_
  refine lv_iconst (v := 0) hx hb dX12_sounds_1 (by decide) ?_
  refine va_put (ci := 12) (v := .int 0) (ty := .int) (C := RX12) (T := TX12) (N := 60) hx hb hts hw12 tyX12 tyX12_ok nmX12 hown hK hP hD hS 0 rfl rfl 0 (by decide) (hts (.fieldLink RX12 158 "SmokeTuneModel" "thrown" "I") (List.mem_cons_of_mem _ (List.mem_append_left _ (List.mem_append_left _ (List.mem_of_getElem? (i := 0) rfl))))) (fun _ h9 => h9) rfl (by decide +kernel) (by first | rfl | decide) (by first | rfl | decide) (Nat.le_of_ble_eq_true rfl) dX12_sounds_2 (fun H locs hP hD hS => ?_)
  have hP : va_P D vwCl [(m0, .inr (12, [.int 0, m_1, m_2, .ref w0, m_4, m_5, m_6, m_7, m_8, m_9, m_10, m_11, m_12, m_13, m_14, m_15, m_16, m_17, m_18, m_19, m_20, m_21, m_22, m_23, m_24, m_25, m_26, m_27, m_28, m_29, m_30, m_31, m_32, m_33, m_34, m_35, m_36, m_37, m_38, m_39, m_40, m_41, m_42, m_43, m_44, m_45, m_46, m_47, m_48, m_49, m_50, m_51, m_52, m_53, m_54, m_55, m_56, m_57, m_58, m_59])), (w0, .inl (K 0, 5500, .inl fw))] H := hP
  have hD : va_D A [(m0, .inr (12, [.int 0, m_1, m_2, .ref w0, m_4, m_5, m_6, m_7, m_8, m_9, m_10, m_11, m_12, m_13, m_14, m_15, m_16, m_17, m_18, m_19, m_20, m_21, m_22, m_23, m_24, m_25, m_26, m_27, m_28, m_29, m_30, m_31, m_32, m_33, m_34, m_35, m_36, m_37, m_38, m_39, m_40, m_41, m_42, m_43, m_44, m_45, m_46, m_47, m_48, m_49, m_50, m_51, m_52, m_53, m_54, m_55, m_56, m_57, m_58, m_59])), (w0, .inl (K 0, 5500, .inl fw))] := hD
  refine lv_iload_n hx hb dX12_sounds_5 rfl (lv_at hl 1 rfl) ?_
  refine lv_i2l hx hb dX12_sounds_6 rfl ?_
  refine lv_topl (fun x_401 ex_401 => ?_)
  have hx_401 : x_401.toInt = x.toInt := by rw [ex_401]; exact i_wide rfl
  have hbx_401 := i_rng (a := x) rfl
  refine lv_lconst (v := 0) hx hb dX12_sounds_7 (by decide) ?_
  refine lv_ldc2 (v := 2) hx hb hown (hts (.constantLong RX12 434 (2)) (List.mem_cons_of_mem _ (List.mem_append_left _ (List.mem_append_left _ (List.mem_of_getElem? (i := 1) rfl))))) dX12_sounds_8 ?_
  refine pci (va_runS (As := [.long x_401, .long 0, .long 2]) (rest := []) ⟨hx, hb, hml, hown, hts⟩ (v_in l D K x.toInt 0 2 x_401 0 2 H.size hx_401 (show (0 : Int64).toInt = 0 from rfl) (show (2 : Int64).toInt = 2 from rfl)) (va_cwS 3 hts gX12_sounds_X12_in rfl rfl rfl (by decide +kernel) ⟨Nat.le_of_ble_eq_true rfl, Nat.le_of_ble_eq_true rfl⟩) (mkS hK hN (va_P.nil) (va_D.nil (A := fun _ => True))) rfl rfl hl.1 rfl (lv_room (Nat.le_of_ble_eq_true rfl)) dX12_sounds_11 ⟨Nat.le_of_ble_eq_true rfl, Nat.le_of_ble_eq_true rfl⟩) (fun r_402 hw => ?_)
  obtain ⟨hw, -⟩ := hw
  rcases hw with ⟨rfl, h_403, h_404⟩ | ⟨rfl, h_405⟩
  · refine lv_if_ne (tgt := 19) hx hb dX12_sounds_14 (by decide) (fun c_406 => ?_) (fun c_406 => absurd c_406 (by decide))
    refine lv_aload_n hx hb dX12_sounds_19 rfl (lv_at hl 0 rfl) ?_
    refine pci (va_runV (As := []) (rest := []) ⟨hx, hb, hml, hown, hts⟩ (v_soundingNotes l D K m0 (.int 0) m_1 m_2 w0 m_4 m_5 m_6 m_7 m_8 m_9 m_10 m_11 m_12 m_13 m_14 m_15 m_16 m_17 m_18 m_19 m_20 m_21 m_22 m_23 m_24 m_25 m_26 m_27 m_28 m_29 m_30 m_31 m_32 m_33 m_34 m_35 m_36 m_37 m_38 m_39 m_40 m_41 m_42 m_43 m_44 m_45 m_46 m_47 m_48 m_49 m_50 m_51 m_52 m_53 m_54 m_55 m_56 m_57 m_58 m_59 fw H.size zfw) (cwV 0 hts gX12_sounds_X12_soundingNotes rfl rfl rfl (by decide +kernel) ⟨Nat.le_of_ble_eq_true rfl, Nat.le_of_ble_eq_true rfl⟩) (mkV hK hN (hP.sub [0, 1] rfl) (hD.sub [0, 1] (by decide) rfl) (ci := 12) (q0 := 0) rfl rfl) rfl rfl hl.1 rfl (lv_room (Nat.le_of_ble_eq_true rfl)) dX12_sounds_20 ⟨Nat.le_of_ble_eq_true rfl, Nat.le_of_ble_eq_true rfl⟩) (fun r_407 hw => ?_)
    obtain ⟨h_408, -⟩ := hw
    refine lv_istore_n (lv' := [(2, .int r_407), (0, .ref m0), (1, .int x)]) hx hb dX12_sounds_23 rfl hl (by decide) rfl (fun ls hl => ?_)
    refine lv_iconst (v := 0) hx hb dX12_sounds_24 (by decide) ?_
    refine lv_istore_n (lv' := [(3, .int 0), (2, .int r_407), (0, .ref m0), (1, .int x)]) hx hb dX12_sounds_25 rfl hl (by decide) rfl (fun ls hl => ?_)
    refine lv_iconst (v := 0) hx hb dX12_sounds_26 (by decide) ?_
    refine lv_istore (lv' := [(4, .int 0), (3, .int 0), (2, .int r_407), (0, .ref m0), (1, .int x)]) hx hb dX12_sounds_27 hl (by decide) rfl (fun ls hl => ?_)
    have lp_571 : ∀ (nn_ : Nat) (v_523 : Int32) (v_524 : Int32) (hv_523 : 0 ≤ v_523.toInt ∧ v_523.toInt ≤ 7) (hn : (8 - v_523.toInt : Int).toNat < nn_) (H : Heap) (locs : List Loc) (hP : va_P D vwCl [(m0, .inr (12, [.int 0, m_1, m_2, .ref w0, m_4, m_5, m_6, m_7, m_8, m_9, m_10, m_11, m_12, m_13, m_14, m_15, m_16, m_17, m_18, m_19, m_20, m_21, m_22, m_23, m_24, m_25, m_26, m_27, m_28, m_29, m_30, m_31, m_32, m_33, m_34, m_35, m_36, m_37, m_38, m_39, m_40, m_41, m_42, m_43, m_44, m_45, m_46, m_47, m_48, m_49, m_50, m_51, m_52, m_53, m_54, m_55, m_56, m_57, m_58, m_59])), (w0, .inl (K 0, 5500, .inl fw))] H) (hD : va_D A [(m0, .inr (12, [.int 0, m_1, m_2, .ref w0, m_4, m_5, m_6, m_7, m_8, m_9, m_10, m_11, m_12, m_13, m_14, m_15, m_16, m_17, m_18, m_19, m_20, m_21, m_22, m_23, m_24, m_25, m_26, m_27, m_28, m_29, m_30, m_31, m_32, m_33, m_34, m_35, m_36, m_37, m_38, m_39, m_40, m_41, m_42, m_43, m_44, m_45, m_46, m_47, m_48, m_49, m_50, m_51, m_52, m_53, m_54, m_55, m_56, m_57, m_58, m_59])), (w0, .inl (K 0, 5500, .inl fw))]) (hS : va_S A s.heap H locs) (ls : Array Slot) (hl : lv_has ls 5 [(4, .int v_523), (3, .int v_524), (2, .int r_407), (0, .ref m0), (1, .int x)]), W p l e ({ frames := 4, cells := 0, slots := 0, locals := 88 }) s m (([.ref m0, .int x] : List Value).toArray) below meth c H locs 0 0 Q (F0 m 29 ls []) := by
      intro nn_
      induction nn_ with
      | zero =>
        intro v_523 v_524 hv_523 hn H locs hP hD hS ls hl
        exact absurd hn (Nat.not_lt_zero _)
      | succ nn_ ih_572 =>
        intro v_523 v_524 hv_523 hn H locs hP hD hS ls hl
        refine lv_iload hx hb dX12_sounds_29 (lv_at hl 0 rfl) ?_
        refine lv_bipush (v := 7) hx hb dX12_sounds_31 (by decide) ?_
        refine lv_icmp_ge (tgt := 87) hx hb dX12_sounds_33 (by decide) (fun c_573 => ?_) (fun c_573 => ?_)
        · have c_573i := i_le (x := 7) (y := v_523.toInt) rfl rfl c_573
          refine lv_iload_n hx hb dX12_sounds_87 rfl (lv_at hl 4 rfl) ?_
          refine lv_if_ne (tgt := 95) hx hb dX12_sounds_88 (by decide) (fun c_574 => ?_) (fun c_574 => ?_)
          · have c_574i := i_ne (x := x.toInt) (y := 0) rfl rfl c_574
            refine lv_iload_n hx hb dX12_sounds_95 rfl (lv_at hl 4 rfl) ?_
            refine lv_iconst (v := 1) hx hb dX12_sounds_96 (by decide) ?_
            refine lv_icmp_ne (tgt := 104) hx hb dX12_sounds_97 (by decide) (fun c_575 => ?_) (fun c_575 => ?_)
            · have c_575i := i_ne (x := x.toInt) (y := 1) rfl rfl c_575
              refine lv_aload_n hx hb dX12_sounds_104 rfl (lv_at hl 3 rfl) ?_
              refine pci (va_runV (As := []) (rest := []) ⟨hx, hb, hml, hown, hts⟩ (v_isMet l D K m0 (.int 0) m_1 m_2 w0 m_4 m_5 m_6 m_7 m_8 m_9 m_10 m_11 m_12 m_13 m_14 m_15 m_16 m_17 m_18 m_19 m_20 m_21 m_22 m_23 m_24 m_25 m_26 m_27 m_28 m_29 m_30 m_31 m_32 m_33 m_34 m_35 m_36 m_37 m_38 m_39 m_40 m_41 m_42 m_43 m_44 m_45 m_46 m_47 m_48 m_49 m_50 m_51 m_52 m_53 m_54 m_55 m_56 m_57 m_58 m_59 fw H.size zfw) (cwV 0 hts gX12_sounds_X12_isMet rfl rfl rfl (by decide +kernel) ⟨Nat.le_of_ble_eq_true rfl, Nat.le_of_ble_eq_true rfl⟩) (mkV hK hN (hP.sub [0, 1] rfl) (hD.sub [0, 1] (by decide) rfl) (ci := 12) (q0 := 0) rfl rfl) rfl rfl hl.1 rfl (lv_room (Nat.le_of_ble_eq_true rfl)) dX12_sounds_105 ⟨Nat.le_of_ble_eq_true rfl, Nat.le_of_ble_eq_true rfl⟩) (fun r_576 hw => ?_)
              obtain ⟨h_577, -⟩ := hw
              refine lv_if_eq (tgt := 115) hx hb dX12_sounds_108 (by decide) (fun c_578 => ?_) (fun c_578 => ?_)
              · have c_578i := i_eq (x := r_576.toInt) (y := 0) rfl rfl c_578
                refine lv_iconst (v := 0) hx hb dX12_sounds_115 (by decide) ?_
                subst hQ
                have hP9 := hP.sub (ws' := [(m0, .inr (12, [.int 0, m_1, m_2, .ref w0, m_4, m_5, m_6, m_7, m_8, m_9, m_10, m_11, m_12, m_13, m_14, m_15, m_16, m_17, m_18, m_19, m_20, m_21, m_22, m_23, m_24, m_25, m_26, m_27, m_28, m_29, m_30, m_31, m_32, m_33, m_34, m_35, m_36, m_37, m_38, m_39, m_40, m_41, m_42, m_43, m_44, m_45, m_46, m_47, m_48, m_49, m_50, m_51, m_52, m_53, m_54, m_55, m_56, m_57, m_58, m_59])), (w0, .inl (K 0, 5500, .inl fw))]) [0, 1] rfl
                have hD9 := hD.sub (ws' := [(m0, .inr (12, [.int 0, m_1, m_2, .ref w0, m_4, m_5, m_6, m_7, m_8, m_9, m_10, m_11, m_12, m_13, m_14, m_15, m_16, m_17, m_18, m_19, m_20, m_21, m_22, m_23, m_24, m_25, m_26, m_27, m_28, m_29, m_30, m_31, m_32, m_33, m_34, m_35, m_36, m_37, m_38, m_39, m_40, m_41, m_42, m_43, m_44, m_45, m_46, m_47, m_48, m_49, m_50, m_51, m_52, m_53, m_54, m_55, m_56, m_57, m_58, m_59])), (w0, .inl (K 0, 5500, .inl fw))]) [0, 1] (by decide) rfl
                exact W.iret (v := 0) hx hb hr (fun t ht hW => ⟨⟨0, ((fun _ => 0, fun _ => fun _ => 0, fun _ => fun _ => 0, fun _ => 0, fun _ => 0, fun _ => fun _ => none) : Su), rfl, trivial, (⟨by rw [ht]; exact hP9, hD9⟩ : Wd D A _ t)⟩, hS.F ht⟩) hS.2.2 dX12_sounds_116
              · have c_578i := i_ne (x := r_576.toInt) (y := 0) rfl rfl c_578
                refine lv_iconst (v := 1) hx hb dX12_sounds_111 (by decide) ?_
                refine lv_goto (tgt := 116) hx hb dX12_sounds_112 (by decide) ?_
                subst hQ
                have hP9 := hP.sub (ws' := [(m0, .inr (12, [.int 0, m_1, m_2, .ref w0, m_4, m_5, m_6, m_7, m_8, m_9, m_10, m_11, m_12, m_13, m_14, m_15, m_16, m_17, m_18, m_19, m_20, m_21, m_22, m_23, m_24, m_25, m_26, m_27, m_28, m_29, m_30, m_31, m_32, m_33, m_34, m_35, m_36, m_37, m_38, m_39, m_40, m_41, m_42, m_43, m_44, m_45, m_46, m_47, m_48, m_49, m_50, m_51, m_52, m_53, m_54, m_55, m_56, m_57, m_58, m_59])), (w0, .inl (K 0, 5500, .inl fw))]) [0, 1] rfl
                have hD9 := hD.sub (ws' := [(m0, .inr (12, [.int 0, m_1, m_2, .ref w0, m_4, m_5, m_6, m_7, m_8, m_9, m_10, m_11, m_12, m_13, m_14, m_15, m_16, m_17, m_18, m_19, m_20, m_21, m_22, m_23, m_24, m_25, m_26, m_27, m_28, m_29, m_30, m_31, m_32, m_33, m_34, m_35, m_36, m_37, m_38, m_39, m_40, m_41, m_42, m_43, m_44, m_45, m_46, m_47, m_48, m_49, m_50, m_51, m_52, m_53, m_54, m_55, m_56, m_57, m_58, m_59])), (w0, .inl (K 0, 5500, .inl fw))]) [0, 1] (by decide) rfl
                exact W.iret (v := 1) hx hb hr (fun t ht hW => ⟨⟨1, ((fun _ => 0, fun _ => fun _ => 0, fun _ => fun _ => 0, fun _ => 0, fun _ => 0, fun _ => fun _ => none) : Su), rfl, trivial, (⟨by rw [ht]; exact hP9, hD9⟩ : Wd D A _ t)⟩, hS.F ht⟩) hS.2.2 dX12_sounds_116
            · have c_575i := i_eq (x := x.toInt) (y := 1) rfl rfl c_575
              refine lv_iload_n hx hb dX12_sounds_100 rfl (lv_at hl 1 rfl) ?_
              refine lv_goto (tgt := 116) hx hb dX12_sounds_101 (by decide) ?_
              subst hQ
              have hP9 := hP.sub (ws' := [(m0, .inr (12, [.int 0, m_1, m_2, .ref w0, m_4, m_5, m_6, m_7, m_8, m_9, m_10, m_11, m_12, m_13, m_14, m_15, m_16, m_17, m_18, m_19, m_20, m_21, m_22, m_23, m_24, m_25, m_26, m_27, m_28, m_29, m_30, m_31, m_32, m_33, m_34, m_35, m_36, m_37, m_38, m_39, m_40, m_41, m_42, m_43, m_44, m_45, m_46, m_47, m_48, m_49, m_50, m_51, m_52, m_53, m_54, m_55, m_56, m_57, m_58, m_59])), (w0, .inl (K 0, 5500, .inl fw))]) [0, 1] rfl
              have hD9 := hD.sub (ws' := [(m0, .inr (12, [.int 0, m_1, m_2, .ref w0, m_4, m_5, m_6, m_7, m_8, m_9, m_10, m_11, m_12, m_13, m_14, m_15, m_16, m_17, m_18, m_19, m_20, m_21, m_22, m_23, m_24, m_25, m_26, m_27, m_28, m_29, m_30, m_31, m_32, m_33, m_34, m_35, m_36, m_37, m_38, m_39, m_40, m_41, m_42, m_43, m_44, m_45, m_46, m_47, m_48, m_49, m_50, m_51, m_52, m_53, m_54, m_55, m_56, m_57, m_58, m_59])), (w0, .inl (K 0, 5500, .inl fw))]) [0, 1] (by decide) rfl
              exact W.iret (v := v_524) hx hb hr (fun t ht hW => ⟨⟨v_524, ((fun _ => 0, fun _ => fun _ => 0, fun _ => fun _ => 0, fun _ => 0, fun _ => 0, fun _ => fun _ => none) : Su), rfl, trivial, (⟨by rw [ht]; exact hP9, hD9⟩ : Wd D A _ t)⟩, hS.F ht⟩) hS.2.2 dX12_sounds_116
          · have c_574i := i_eq (x := x.toInt) (y := 0) rfl rfl c_574
            refine lv_iload_n hx hb dX12_sounds_91 rfl (lv_at hl 2 rfl) ?_
            refine lv_goto (tgt := 116) hx hb dX12_sounds_92 (by decide) ?_
            subst hQ
            have hP9 := hP.sub (ws' := [(m0, .inr (12, [.int 0, m_1, m_2, .ref w0, m_4, m_5, m_6, m_7, m_8, m_9, m_10, m_11, m_12, m_13, m_14, m_15, m_16, m_17, m_18, m_19, m_20, m_21, m_22, m_23, m_24, m_25, m_26, m_27, m_28, m_29, m_30, m_31, m_32, m_33, m_34, m_35, m_36, m_37, m_38, m_39, m_40, m_41, m_42, m_43, m_44, m_45, m_46, m_47, m_48, m_49, m_50, m_51, m_52, m_53, m_54, m_55, m_56, m_57, m_58, m_59])), (w0, .inl (K 0, 5500, .inl fw))]) [0, 1] rfl
            have hD9 := hD.sub (ws' := [(m0, .inr (12, [.int 0, m_1, m_2, .ref w0, m_4, m_5, m_6, m_7, m_8, m_9, m_10, m_11, m_12, m_13, m_14, m_15, m_16, m_17, m_18, m_19, m_20, m_21, m_22, m_23, m_24, m_25, m_26, m_27, m_28, m_29, m_30, m_31, m_32, m_33, m_34, m_35, m_36, m_37, m_38, m_39, m_40, m_41, m_42, m_43, m_44, m_45, m_46, m_47, m_48, m_49, m_50, m_51, m_52, m_53, m_54, m_55, m_56, m_57, m_58, m_59])), (w0, .inl (K 0, 5500, .inl fw))]) [0, 1] (by decide) rfl
            exact W.iret (v := r_407) hx hb hr (fun t ht hW => ⟨⟨r_407, ((fun _ => 0, fun _ => fun _ => 0, fun _ => fun _ => 0, fun _ => 0, fun _ => 0, fun _ => fun _ => none) : Su), rfl, trivial, (⟨by rw [ht]; exact hP9, hD9⟩ : Wd D A _ t)⟩, hS.F ht⟩) hS.2.2 dX12_sounds_116
        · have c_573i := i_nle (x := 7) (y := v_523.toInt) rfl rfl c_573
          refine lv_iload_n hx hb dX12_sounds_36 rfl (lv_at hl 1 rfl) ?_
          refine lv_iload_n hx hb dX12_sounds_37 rfl (lv_at hl 2 rfl) ?_
          refine lv_iload hx hb dX12_sounds_38 (lv_at hl 0 rfl) ?_
          refine pci (va_runS (As := [.int r_407, .int v_523]) (rest := [.int v_524]) ⟨hx, hb, hml, hown, hts⟩ (v_is l D K r_407 v_523 H.size) (va_cwS 2 hts gX12_sounds_X12_is rfl rfl rfl (by decide +kernel) ⟨Nat.le_of_ble_eq_true rfl, Nat.le_of_ble_eq_true rfl⟩) (mkS hK hN (va_P.nil) (va_D.nil (A := fun _ => True))) rfl rfl hl.1 rfl (lv_room (Nat.le_of_ble_eq_true rfl)) dX12_sounds_40 ⟨Nat.le_of_ble_eq_true rfl, Nat.le_of_ble_eq_true rfl⟩) (fun r_579 hw => ?_)
          obtain ⟨h_580, -⟩ := hw
          refine lv_if_eq (tgt := 78) hx hb dX12_sounds_43 (by decide) (fun c_581 => ?_) (fun c_581 => ?_)
          · have c_581i := i_eq (x := r_579.toInt) (y := 0) rfl rfl c_581
            refine lv_iconst (v := 0) hx hb dX12_sounds_78 (by decide) ?_
            refine lv_iadd hx hb dX12_sounds_79 ?_
            refine lv_topi (fun x_582 ex_582 => ?_)
            have hx_582 : x_582.toInt = (v_524.toInt + 0) := by rw [ex_582]; exact i_add rfl (show (0 : Int32).toInt = 0 from rfl) (by have q1 := i_rng (a := v_524) rfl; omega)
            refine lv_istore_n (lv' := [(3, .int x_582), (4, .int v_523), (2, .int r_407), (0, .ref m0), (1, .int x)]) hx hb dX12_sounds_80 rfl hl (by decide) rfl (fun ls hl => ?_)
            obtain ⟨x_583, ex_583⟩ : ∃ y : Int32, y = v_523 + Int32.ofInt 1 := ⟨_, rfl⟩
            have hx_583 : x_583.toInt = (v_523.toInt + 1) := by rw [ex_583]; exact i_add rfl (show (Int32.ofInt 1).toInt = 1 from rfl) (by omega)
            refine lv_iinc (v := x_583) (lv' := [(4, .int x_583), (3, .int x_582), (2, .int r_407), (0, .ref m0), (1, .int x)]) hx hb dX12_sounds_81 hl (k := 1) rfl (by rw [ex_583]) (by decide) rfl (fun ls hl => ?_)
            refine lv_goto (tgt := 29) hx hb dX12_sounds_84 (by decide) ?_
            exact ih_572 x_583 x_582 (by rw [hx_583]; omega) (by omega) _ _ hP hD hS ls (lv_sub hl [0, 1, 2, 3, 4] rfl)
          · have c_581i := i_ne (x := r_579.toInt) (y := 0) rfl rfl c_581
            refine lv_iload_n hx hb dX12_sounds_46 rfl (lv_at hl 2 rfl) ?_
            refine lv_iload hx hb dX12_sounds_47 (lv_at hl 0 rfl) ?_
            refine lv_iconst (v := 2) hx hb dX12_sounds_49 (by decide) ?_
            refine lv_iadd hx hb dX12_sounds_50 ?_
            refine lv_topi (fun x_584 ex_584 => ?_)
            have hx_584 : x_584.toInt = (v_523.toInt + 2) := by rw [ex_584]; exact i_add rfl (show (2 : Int32).toInt = 2 from rfl) (by omega)
            refine lv_bipush (v := 7) hx hb dX12_sounds_51 (by decide) ?_
            refine lv_irem hx hb dX12_sounds_53 (by decide) ?_
            refine lv_topi (fun x_585 ex_585 => ?_)
            have hx_585 : x_585.toInt = ((v_523.toInt + 2) % 7) := by rw [ex_585]; exact i_rem hx_584 (show (7 : Int32).toInt = 7 from rfl) (by omega) (by omega)
            refine pci (va_runS (As := [.int r_407, .int x_585]) (rest := [.int v_524]) ⟨hx, hb, hml, hown, hts⟩ (v_is l D K r_407 x_585 H.size) (va_cwS 2 hts gX12_sounds_X12_is rfl rfl rfl (by decide +kernel) ⟨Nat.le_of_ble_eq_true rfl, Nat.le_of_ble_eq_true rfl⟩) (mkS hK hN (va_P.nil) (va_D.nil (A := fun _ => True))) rfl rfl hl.1 rfl (lv_room (Nat.le_of_ble_eq_true rfl)) dX12_sounds_54 ⟨Nat.le_of_ble_eq_true rfl, Nat.le_of_ble_eq_true rfl⟩) (fun r_586 hw => ?_)
            obtain ⟨h_587, -⟩ := hw
            refine lv_if_eq (tgt := 78) hx hb dX12_sounds_57 (by decide) (fun c_588 => ?_) (fun c_588 => ?_)
            · have c_588i := i_eq (x := r_586.toInt) (y := 0) rfl rfl c_588
              refine lv_iconst (v := 0) hx hb dX12_sounds_78 (by decide) ?_
              refine lv_iadd hx hb dX12_sounds_79 ?_
              refine lv_topi (fun x_589 ex_589 => ?_)
              have hx_589 : x_589.toInt = (v_524.toInt + 0) := by rw [ex_589]; exact i_add rfl (show (0 : Int32).toInt = 0 from rfl) (by have q1 := i_rng (a := v_524) rfl; omega)
              refine lv_istore_n (lv' := [(3, .int x_589), (4, .int v_523), (2, .int r_407), (0, .ref m0), (1, .int x)]) hx hb dX12_sounds_80 rfl hl (by decide) rfl (fun ls hl => ?_)
              obtain ⟨x_590, ex_590⟩ : ∃ y : Int32, y = v_523 + Int32.ofInt 1 := ⟨_, rfl⟩
              have hx_590 : x_590.toInt = (v_523.toInt + 1) := by rw [ex_590]; exact i_add rfl (show (Int32.ofInt 1).toInt = 1 from rfl) (by omega)
              refine lv_iinc (v := x_590) (lv' := [(4, .int x_590), (3, .int x_589), (2, .int r_407), (0, .ref m0), (1, .int x)]) hx hb dX12_sounds_81 hl (k := 1) rfl (by rw [ex_590]) (by decide) rfl (fun ls hl => ?_)
              refine lv_goto (tgt := 29) hx hb dX12_sounds_84 (by decide) ?_
              exact ih_572 x_590 x_589 (by rw [hx_590]; omega) (by omega) _ _ hP hD hS ls (lv_sub hl [0, 1, 2, 3, 4] rfl)
            · have c_588i := i_ne (x := r_586.toInt) (y := 0) rfl rfl c_588
              refine lv_iload_n hx hb dX12_sounds_60 rfl (lv_at hl 2 rfl) ?_
              refine lv_iload hx hb dX12_sounds_61 (lv_at hl 0 rfl) ?_
              refine lv_iconst (v := 4) hx hb dX12_sounds_63 (by decide) ?_
              refine lv_iadd hx hb dX12_sounds_64 ?_
              refine lv_topi (fun x_591 ex_591 => ?_)
              have hx_591 : x_591.toInt = (v_523.toInt + 4) := by rw [ex_591]; exact i_add rfl (show (4 : Int32).toInt = 4 from rfl) (by omega)
              refine lv_bipush (v := 7) hx hb dX12_sounds_65 (by decide) ?_
              refine lv_irem hx hb dX12_sounds_67 (by decide) ?_
              refine lv_topi (fun x_592 ex_592 => ?_)
              have hx_592 : x_592.toInt = ((v_523.toInt + 4) % 7) := by rw [ex_592]; exact i_rem hx_591 (show (7 : Int32).toInt = 7 from rfl) (by omega) (by omega)
              refine pci (va_runS (As := [.int r_407, .int x_592]) (rest := [.int v_524]) ⟨hx, hb, hml, hown, hts⟩ (v_is l D K r_407 x_592 H.size) (va_cwS 2 hts gX12_sounds_X12_is rfl rfl rfl (by decide +kernel) ⟨Nat.le_of_ble_eq_true rfl, Nat.le_of_ble_eq_true rfl⟩) (mkS hK hN (va_P.nil) (va_D.nil (A := fun _ => True))) rfl rfl hl.1 rfl (lv_room (Nat.le_of_ble_eq_true rfl)) dX12_sounds_68 ⟨Nat.le_of_ble_eq_true rfl, Nat.le_of_ble_eq_true rfl⟩) (fun r_593 hw => ?_)
              obtain ⟨h_594, -⟩ := hw
              refine lv_if_eq (tgt := 78) hx hb dX12_sounds_71 (by decide) (fun c_595 => ?_) (fun c_595 => ?_)
              · have c_595i := i_eq (x := r_593.toInt) (y := 0) rfl rfl c_595
                refine lv_iconst (v := 0) hx hb dX12_sounds_78 (by decide) ?_
                refine lv_iadd hx hb dX12_sounds_79 ?_
                refine lv_topi (fun x_596 ex_596 => ?_)
                have hx_596 : x_596.toInt = (v_524.toInt + 0) := by rw [ex_596]; exact i_add rfl (show (0 : Int32).toInt = 0 from rfl) (by have q1 := i_rng (a := v_524) rfl; omega)
                refine lv_istore_n (lv' := [(3, .int x_596), (4, .int v_523), (2, .int r_407), (0, .ref m0), (1, .int x)]) hx hb dX12_sounds_80 rfl hl (by decide) rfl (fun ls hl => ?_)
                obtain ⟨x_597, ex_597⟩ : ∃ y : Int32, y = v_523 + Int32.ofInt 1 := ⟨_, rfl⟩
                have hx_597 : x_597.toInt = (v_523.toInt + 1) := by rw [ex_597]; exact i_add rfl (show (Int32.ofInt 1).toInt = 1 from rfl) (by omega)
                refine lv_iinc (v := x_597) (lv' := [(4, .int x_597), (3, .int x_596), (2, .int r_407), (0, .ref m0), (1, .int x)]) hx hb dX12_sounds_81 hl (k := 1) rfl (by rw [ex_597]) (by decide) rfl (fun ls hl => ?_)
                refine lv_goto (tgt := 29) hx hb dX12_sounds_84 (by decide) ?_
                exact ih_572 x_597 x_596 (by rw [hx_597]; omega) (by omega) _ _ hP hD hS ls (lv_sub hl [0, 1, 2, 3, 4] rfl)
              · have c_595i := i_ne (x := r_593.toInt) (y := 0) rfl rfl c_595
                refine lv_iconst (v := 1) hx hb dX12_sounds_74 (by decide) ?_
                refine lv_goto (tgt := 79) hx hb dX12_sounds_75 (by decide) ?_
                refine lv_iadd hx hb dX12_sounds_79 ?_
                refine lv_topi (fun x_598 ex_598 => ?_)
                refine lv_istore_n (lv' := [(3, .int x_598), (4, .int v_523), (2, .int r_407), (0, .ref m0), (1, .int x)]) hx hb dX12_sounds_80 rfl hl (by decide) rfl (fun ls hl => ?_)
                obtain ⟨x_599, ex_599⟩ : ∃ y : Int32, y = v_523 + Int32.ofInt 1 := ⟨_, rfl⟩
                have hx_599 : x_599.toInt = (v_523.toInt + 1) := by rw [ex_599]; exact i_add rfl (show (Int32.ofInt 1).toInt = 1 from rfl) (by omega)
                refine lv_iinc (v := x_599) (lv' := [(4, .int x_599), (3, .int x_598), (2, .int r_407), (0, .ref m0), (1, .int x)]) hx hb dX12_sounds_81 hl (k := 1) rfl (by rw [ex_599]) (by decide) rfl (fun ls hl => ?_)
                refine lv_goto (tgt := 29) hx hb dX12_sounds_84 (by decide) ?_
                exact ih_572 x_599 x_598 (by rw [hx_599]; omega) (by omega) _ _ hP hD hS ls (lv_sub hl [0, 1, 2, 3, 4] rfl)
    exact lp_571 ((8 - (0 : Int32).toInt : Int).toNat + 1) 0 0 (by decide) (Nat.lt_succ_self _) _ _ hP hD hS ls (lv_sub hl [0, 1, 2, 3, 4] rfl)
  · refine lv_if_ne (tgt := 19) hx hb dX12_sounds_14 (by decide) (fun c_600 => absurd (by decide) c_600) (fun c_600 => ?_)
    refine lv_iconst (v := (-1)) hx hb dX12_sounds_17 (by decide) ?_
    subst hQ
    have hP9 := hP.sub (ws' := [(m0, .inr (12, [.int 0, m_1, m_2, .ref w0, m_4, m_5, m_6, m_7, m_8, m_9, m_10, m_11, m_12, m_13, m_14, m_15, m_16, m_17, m_18, m_19, m_20, m_21, m_22, m_23, m_24, m_25, m_26, m_27, m_28, m_29, m_30, m_31, m_32, m_33, m_34, m_35, m_36, m_37, m_38, m_39, m_40, m_41, m_42, m_43, m_44, m_45, m_46, m_47, m_48, m_49, m_50, m_51, m_52, m_53, m_54, m_55, m_56, m_57, m_58, m_59])), (w0, .inl (K 0, 5500, .inl fw))]) [0, 1] rfl
    have hD9 := hD.sub (ws' := [(m0, .inr (12, [.int 0, m_1, m_2, .ref w0, m_4, m_5, m_6, m_7, m_8, m_9, m_10, m_11, m_12, m_13, m_14, m_15, m_16, m_17, m_18, m_19, m_20, m_21, m_22, m_23, m_24, m_25, m_26, m_27, m_28, m_29, m_30, m_31, m_32, m_33, m_34, m_35, m_36, m_37, m_38, m_39, m_40, m_41, m_42, m_43, m_44, m_45, m_46, m_47, m_48, m_49, m_50, m_51, m_52, m_53, m_54, m_55, m_56, m_57, m_58, m_59])), (w0, .inl (K 0, 5500, .inl fw))]) [0, 1] (by decide) rfl
    exact W.iret (v := (-1)) hx hb hr (fun t ht hW => ⟨⟨(-1), ((fun _ => 0, fun _ => fun _ => 0, fun _ => fun _ => 0, fun _ => 0, fun _ => 0, fun _ => fun _ => none) : Su), rfl, trivial, (⟨by rw [ht]; exact hP9, hD9⟩ : Wd D A _ t)⟩, hS.F ht⟩) hS.2.2 dX12_sounds_18
set_option maxHeartbeats 4000000 in
set_option maxRecDepth 100000 in
theorem v_flare (l : Launch) (D : va_G) (K : Nat → ClassId) (m0 : Nat) (x : Int32) (y : Int32) (m_0 : Value) (m_1 : Value) (m_2 : Value) (w0 : Nat) (m_4 : Value) (m_5 : Value) (m_6 : Value) (m_7 : Value) (m_8 : Value) (m_9 : Value) (m_10 : Value) (m_11 : Value) (m_12 : Value) (m_13 : Value) (m_14 : Value) (m_15 : Value) (m_16 : Value) (m_17 : Value) (m_18 : Value) (m_19 : Value) (m_21 : Value) (m_22 : Value) (m_23 : Value) (m_24 : Value) (m_25 : Value) (m_26 : Value) (m_27 : Value) (m_28 : Value) (m_29 : Value) (m_30 : Value) (m_31 : Value) (m_32 : Value) (m_33 : Value) (lw : Int32) (e0 : Nat) (m_36 : Value) (q0 : Nat) (bro : Int32) (val : Int64) (sm : Int64) (m_41 : Value) (m_42 : Value) (m_43 : Value) (m_44 : Value) (m_45 : Value) (m_46 : Value) (m_47 : Value) (m_48 : Value) (m_49 : Value) (m_50 : Value) (m_51 : Value) (m_52 : Value) (m_53 : Value) (m_54 : Value) (m_55 : Value) (m_56 : Value) (m_57 : Value) (m_58 : Value) (m_59 : Value) (fw : Nat → Int32) (fe : Nat → Int64) (fq : Nat → Int64) (sz : Nat) (zbro : 0 ≤ bro.toInt ∧ bro.toInt ≤ 1) (zx : (-1) ≤ x.toInt ∧ x.toInt ≤ 5) (zy : 0 ≤ y.toInt ∧ y.toInt ≤ 7) (zfw : RowOK fw) : Met l yX12_flare wsX12_flare ({ frames := 5, cells := 0, slots := 0, locals := 124 }) (va_Pc [.ref m0, .int x, .int y] (Pre D K [(m0, .inr (12, [m_0, m_1, m_2, .ref w0, m_4, m_5, m_6, m_7, m_8, m_9, m_10, m_11, m_12, m_13, m_14, m_15, m_16, m_17, m_18, m_19, .int 0, m_21, m_22, m_23, m_24, m_25, m_26, m_27, m_28, m_29, m_30, m_31, m_32, m_33, .int lw, .ref e0, m_36, .ref q0, .int bro, .long val, .long sm, m_41, m_42, m_43, m_44, m_45, m_46, m_47, m_48, m_49, m_50, m_51, m_52, m_53, m_54, m_55, m_56, m_57, m_58, m_59])), (w0, .inl (K 0, 5500, .inl fw)), (e0, .inl (K 2, 13, .inr (.inl fe))), (q0, .inl (K 2, 400, .inr (.inl fq)))] sz)) (va_Qv (S := Su) (fun (u : Su) => (0 ≤ (u.2.2.2.1 1).toInt ∧ (u.2.2.2.1 1).toInt ≤ 1) ∧ (RowOK (u.2.1 0)) ∧ True) (fun u t => Wd D (va_A [(m0, .inr (12, [m_0, m_1, m_2, .ref w0, m_4, m_5, m_6, m_7, m_8, m_9, m_10, m_11, m_12, m_13, m_14, m_15, m_16, m_17, m_18, m_19, .int 0, m_21, m_22, m_23, m_24, m_25, m_26, m_27, m_28, m_29, m_30, m_31, m_32, m_33, .int lw, .ref e0, m_36, .ref q0, .int bro, .long val, .long sm, m_41, m_42, m_43, m_44, m_45, m_46, m_47, m_48, m_49, m_50, m_51, m_52, m_53, m_54, m_55, m_56, m_57, m_58, m_59])), (w0, .inl (K 0, 5500, .inl fw)), (e0, .inl (K 2, 13, .inr (.inl fe))), (q0, .inl (K 2, 400, .inr (.inl fq)))] sz) ((fun u => [(m0, .inr (12, [m_0, m_1, m_2, .ref w0, m_4, m_5, m_6, m_7, m_8, m_9, m_10, m_11, m_12, m_13, m_14, m_15, m_16, m_17, m_18, m_19, .int 0, m_21, m_22, m_23, m_24, m_25, m_26, m_27, m_28, m_29, m_30, m_31, m_32, m_33, .int (u.2.2.2.1 0), .ref e0, m_36, .ref q0, .int (u.2.2.2.1 1), .long (u.2.2.2.2.1 0), .long (u.2.2.2.2.1 1), m_41, m_42, m_43, m_44, m_45, m_46, m_47, m_48, m_49, m_50, m_51, m_52, m_53, m_54, m_55, m_56, m_57, m_58, m_59])), (w0, .inl (K 0, 5500, .inl (u.2.1 0))), (e0, .inl (K 2, 13, .inr (.inl (u.2.2.1 0)))), (q0, .inl (K 2, 400, .inr (.inl (u.2.2.1 1))))]) u) t) (va_A [(m0, .inr (12, [m_0, m_1, m_2, .ref w0, m_4, m_5, m_6, m_7, m_8, m_9, m_10, m_11, m_12, m_13, m_14, m_15, m_16, m_17, m_18, m_19, .int 0, m_21, m_22, m_23, m_24, m_25, m_26, m_27, m_28, m_29, m_30, m_31, m_32, m_33, .int lw, .ref e0, m_36, .ref q0, .int bro, .long val, .long sm, m_41, m_42, m_43, m_44, m_45, m_46, m_47, m_48, m_49, m_50, m_51, m_52, m_53, m_54, m_55, m_56, m_57, m_58, m_59])), (w0, .inl (K 0, 5500, .inl fw)), (e0, .inl (K 2, 13, .inr (.inl fe))), (q0, .inl (K 2, 400, .inr (.inl fq)))] sz)) 0 0 (va_A [(m0, .inr (12, [m_0, m_1, m_2, .ref w0, m_4, m_5, m_6, m_7, m_8, m_9, m_10, m_11, m_12, m_13, m_14, m_15, m_16, m_17, m_18, m_19, .int 0, m_21, m_22, m_23, m_24, m_25, m_26, m_27, m_28, m_29, m_30, m_31, m_32, m_33, .int lw, .ref e0, m_36, .ref q0, .int bro, .long val, .long sm, m_41, m_42, m_43, m_44, m_45, m_46, m_47, m_48, m_49, m_50, m_51, m_52, m_53, m_54, m_55, m_56, m_57, m_58, m_59])), (w0, .inl (K 0, 5500, .inl fw)), (e0, .inl (K 2, 13, .inr (.inl fe))), (q0, .inl (K 2, 400, .inr (.inl fq)))] sz) := by
  refine Met.ofW (cc := cX12_flare) (maxL := 3) (ret := none) (by decide) rfl ?_
  intro p e s m args below meth c s₁ B hml hv
  obtain ⟨rfl, hsz, hP, hK, hD0, hN⟩ := hv
  have hx := B.exec
  have hb := B.bytes
  have hr := B.returns
  have hts := atoms_spec (ws := wsX12_flare) B.pre
  have hown : s.vm.findClass RX12 = some m.cls := findClass_of_methodNamed B.named
  have hlocks := B.notSynchronized
  subst hsz
  have hD := hD0.self (sz := s.heap.size)
  generalize hAe : va_A [(m0, .inr (12, [m_0, m_1, m_2, .ref w0, m_4, m_5, m_6, m_7, m_8, m_9, m_10, m_11, m_12, m_13, m_14, m_15, m_16, m_17, m_18, m_19, .int 0, m_21, m_22, m_23, m_24, m_25, m_26, m_27, m_28, m_29, m_30, m_31, m_32, m_33, .int lw, .ref e0, m_36, .ref q0, .int bro, .long val, .long sm, m_41, m_42, m_43, m_44, m_45, m_46, m_47, m_48, m_49, m_50, m_51, m_52, m_53, m_54, m_55, m_56, m_57, m_58, m_59])), (w0, .inl (K 0, 5500, .inl fw)), (e0, .inl (K 2, 13, .inr (.inl fe))), (q0, .inl (K 2, 400, .inr (.inl fq)))] s.heap.size = A at hD ⊢
  have hA : ∀ q : Nat, s.heap.size ≤ q → A q := fun q h => by rw [← hAe]; exact Or.inr h
  have hS : va_S A s.heap s.heap [] := va_S.rf
  have hP : va_P D vwCl [(m0, .inr (12, [m_0, m_1, m_2, .ref w0, m_4, m_5, m_6, m_7, m_8, m_9, m_10, m_11, m_12, m_13, m_14, m_15, m_16, m_17, m_18, m_19, .int 0, m_21, m_22, m_23, m_24, m_25, m_26, m_27, m_28, m_29, m_30, m_31, m_32, m_33, .int lw, .ref e0, m_36, .ref q0, .int bro, .long val, .long sm, m_41, m_42, m_43, m_44, m_45, m_46, m_47, m_48, m_49, m_50, m_51, m_52, m_53, m_54, m_55, m_56, m_57, m_58, m_59])), (w0, .inl (K 0, 5500, .inl fw)), (e0, .inl (K 2, 13, .inr (.inl fe))), (q0, .inl (K 2, 400, .inr (.inl fq)))] s.heap := hP
  have hl := lv_entry [.ref m0, .int x, .int y] (n := 3) (Nat.le_of_ble_eq_true rfl)
  rw [lg_entry_eq]
  generalize (lg_sl [.ref m0, .int x, .int y] ++ List.replicate (3 - (lg_sl [.ref m0, .int x, .int y]).length) Slot.unset).toArray = ls at hl ⊢
  have hl : lv_has ls 3 [(0, .ref m0), (1, .int x), (2, .int y)] := hl
  have hw12 : ∀ w ∈ wsX120, w ∈ wsX12_flare := fun w h => (List.mem_cons_of_mem _ (List.mem_append_right _ h))
  generalize hQ : MQ below _ _ s _ _ _ = Q
  refine lv_aload_n hx hb dX12_flare_0 rfl (lv_at hl 0 rfl) ?_
  refine va_get (ci := 12) (v := .ref w0) (C := RX12) (T := TX12) (N := 60) hx hb hts hw12 hown hK hP 0 rfl rfl 3 (by decide) (hts (.fieldLink RX12 13 "SmokeTuneModel" "row" "[I") (List.mem_cons_of_mem _ (List.mem_append_left _ (List.mem_append_left _ (List.mem_of_getElem? (i := 0) rfl))))) (fun _ h9 => h9) rfl dX12_flare_1 ?_
  refine lv_bipush (v := 11) hx hb dX12_flare_4 (by decide) ?_
  refine lv_iload_n hx hb dX12_flare_6 rfl (lv_at hl 2 rfl) ?_
  refine lv_iadd hx hb dX12_flare_7 ?_
  refine lv_topi (fun x_25 ex_25 => ?_)
  have hx_25 : x_25.toInt = (11 + y.toInt) := by rw [ex_25]; exact i_add (show (11 : Int32).toInt = 11 from rfl) rfl (by omega)
  refine lv_aload_n hx hb dX12_flare_8 rfl (lv_at hl 0 rfl) ?_
  refine va_get (ci := 12) (v := .ref w0) (C := RX12) (T := TX12) (N := 60) hx hb hts hw12 hown hK hP 0 rfl rfl 3 (by decide) (hts (.fieldLink RX12 13 "SmokeTuneModel" "row" "[I") (List.mem_cons_of_mem _ (List.mem_append_left _ (List.mem_append_left _ (List.mem_of_getElem? (i := 0) rfl))))) (fun _ h9 => h9) rfl dX12_flare_9 ?_
  refine lv_bipush (v := 11) hx hb dX12_flare_12 (by decide) ?_
  refine lv_iload_n hx hb dX12_flare_14 rfl (lv_at hl 2 rfl) ?_
  refine lv_iadd hx hb dX12_flare_15 ?_
  refine lv_topi (fun x_26 ex_26 => ?_)
  have hx_26 : x_26.toInt = (11 + y.toInt) := by rw [ex_26]; exact i_add (show (11 : Int32).toInt = 11 from rfl) rfl (by omega)
  refine va_iald hx hb hK hP 1 0 rfl rfl (i_in hx_26 (by omega)) dX12_flare_16 ?_
  refine lv_topi (fun x_27 ex_27 => ?_)
  have px_27 := RowOK.at zfw hx_26 (show 0 ≤ (11 + y.toInt) ∧ (11 + y.toInt) < 100 by omega)
  rw [← ex_27] at px_27
  have hx_27 := PR.r_11 px_27 (by omega)
  refine lv_aload_n hx hb dX12_flare_17 rfl (lv_at hl 0 rfl) ?_
  refine lv_iload_n hx hb dX12_flare_18 rfl (lv_at hl 1 rfl) ?_
  refine lv_iload_n hx hb dX12_flare_19 rfl (lv_at hl 2 rfl) ?_
  refine kci (S := Su) (wr := []) (va_runV (As := [.int x, .int y]) (rest := [.int x_27, .int x_25, .ref w0]) ⟨hx, hb, hml, hown, hts⟩ (v_flaresOf l D K m0 x y m_0 m_1 m_2 w0 m_4 m_5 m_6 m_7 m_8 m_9 m_10 m_11 m_12 m_13 m_14 m_15 m_16 m_17 m_18 m_19 m_21 m_22 m_23 m_24 m_25 m_26 m_27 m_28 m_29 m_30 m_31 m_32 m_33 lw e0 m_36 q0 bro val sm m_41 m_42 m_43 m_44 m_45 m_46 m_47 m_48 m_49 m_50 m_51 m_52 m_53 m_54 m_55 m_56 m_57 m_58 m_59 fw fe fq s.heap.size (by first | omega | decide) (by first | omega | decide) (by first | omega | decide) zfw) (cwV 2 hts gX12_flare_X12_flaresOf rfl rfl rfl (by decide +kernel) ⟨Nat.le_of_ble_eq_true rfl, Nat.le_of_ble_eq_true rfl⟩) (mkV hK hN (hP.sub [0, 1, 2, 3] rfl) (hD.sub [0, 1, 2, 3] (by decide) rfl) (ci := 12) (q0 := 0) rfl rfl) rfl rfl hl.1 rfl (lv_room (Nat.le_of_ble_eq_true rfl)) dX12_flare_20 ⟨Nat.le_of_ble_eq_true rfl, Nat.le_of_ble_eq_true rfl⟩) hP hD hS hA [0, 1, 2, 3] [] rfl rfl (by decide) (by decide) (fun r_28 u_29 H locs hw hP hD hS => ?_)
  have hP : va_P D vwCl [(m0, .inr (12, [m_0, m_1, m_2, .ref w0, m_4, m_5, m_6, m_7, m_8, m_9, m_10, m_11, m_12, m_13, m_14, m_15, m_16, m_17, m_18, m_19, .int 0, m_21, m_22, m_23, m_24, m_25, m_26, m_27, m_28, m_29, m_30, m_31, m_32, m_33, .int (u_29.2.2.2.1 0), .ref e0, m_36, .ref q0, .int (u_29.2.2.2.1 1), .long (u_29.2.2.2.2.1 0), .long (u_29.2.2.2.2.1 1), m_41, m_42, m_43, m_44, m_45, m_46, m_47, m_48, m_49, m_50, m_51, m_52, m_53, m_54, m_55, m_56, m_57, m_58, m_59])), (w0, .inl (K 0, 5500, .inl fw)), (e0, .inl (K 2, 13, .inr (.inl (u_29.2.2.1 0)))), (q0, .inl (K 2, 400, .inr (.inl (u_29.2.2.1 1))))] H := hP
  have hD : va_D A [(m0, .inr (12, [m_0, m_1, m_2, .ref w0, m_4, m_5, m_6, m_7, m_8, m_9, m_10, m_11, m_12, m_13, m_14, m_15, m_16, m_17, m_18, m_19, .int 0, m_21, m_22, m_23, m_24, m_25, m_26, m_27, m_28, m_29, m_30, m_31, m_32, m_33, .int (u_29.2.2.2.1 0), .ref e0, m_36, .ref q0, .int (u_29.2.2.2.1 1), .long (u_29.2.2.2.2.1 0), .long (u_29.2.2.2.2.1 1), m_41, m_42, m_43, m_44, m_45, m_46, m_47, m_48, m_49, m_50, m_51, m_52, m_53, m_54, m_55, m_56, m_57, m_58, m_59])), (w0, .inl (K 0, 5500, .inl fw)), (e0, .inl (K 2, 13, .inr (.inl (u_29.2.2.1 0)))), (q0, .inl (K 2, 400, .inr (.inl (u_29.2.2.1 1))))] := hD
  obtain ⟨h_31, k_30, -⟩ := hw
  refine lv_iadd hx hb dX12_flare_23 ?_
  refine lv_topi (fun x_32 ex_32 => ?_)
  have hx_32 : x_32.toInt = (x_27.toInt + r_28.toInt) := by rw [ex_32]; exact i_add rfl rfl (by omega)
  refine lv_i2l hx hb dX12_flare_24 rfl ?_
  refine lv_topl (fun x_33 ex_33 => ?_)
  have hx_33 : x_33.toInt = (x_27.toInt + r_28.toInt) := by rw [ex_33]; exact i_wide hx_32
  refine lv_iconst (v := 0) hx hb dX12_flare_25 (by decide) ?_
  refine lv_bipush (v := 20) hx hb dX12_flare_26 (by decide) ?_
  refine pci (va_runS (As := [.long x_33, .int 0, .int 20]) (rest := [.int x_25, .ref w0]) ⟨hx, hb, hml, hown, hts⟩ (v_within_20 l D K x_33 H.size) (va_cwS 3 hts gX12_flare_X12_within rfl rfl rfl (by decide +kernel) ⟨Nat.le_of_ble_eq_true rfl, Nat.le_of_ble_eq_true rfl⟩) (mkS hK hN (va_P.nil) (va_D.nil (A := fun _ => True))) rfl rfl hl.1 rfl (lv_room (Nat.le_of_ble_eq_true rfl)) dX12_flare_28 ⟨Nat.le_of_ble_eq_true rfl, Nat.le_of_ble_eq_true rfl⟩) (fun r_34 hw => ?_)
  obtain ⟨h_35, -⟩ := hw
  refine va_iast hx hb hK hP hD hS 1 0 rfl rfl (i_in hx_25 (by omega)) dX12_flare_31 (fun H locs hP hD hS => ?_)
  generalize hf_36 : (upd fw (x_25 : Int32).toNatClampNeg r_34) = f_36 at hP hD
  have hf_36_0 : RowOK f_36 := by rw [← hf_36]; exact RowOK.upd zfw hx_25 (by omega) rfl (PR.w_11 (by omega) (by omega))
  have hP : va_P D vwCl [(m0, .inr (12, [m_0, m_1, m_2, .ref w0, m_4, m_5, m_6, m_7, m_8, m_9, m_10, m_11, m_12, m_13, m_14, m_15, m_16, m_17, m_18, m_19, .int 0, m_21, m_22, m_23, m_24, m_25, m_26, m_27, m_28, m_29, m_30, m_31, m_32, m_33, .int (u_29.2.2.2.1 0), .ref e0, m_36, .ref q0, .int (u_29.2.2.2.1 1), .long (u_29.2.2.2.2.1 0), .long (u_29.2.2.2.2.1 1), m_41, m_42, m_43, m_44, m_45, m_46, m_47, m_48, m_49, m_50, m_51, m_52, m_53, m_54, m_55, m_56, m_57, m_58, m_59])), (w0, .inl (K 0, 5500, .inl f_36)), (e0, .inl (K 2, 13, .inr (.inl (u_29.2.2.1 0)))), (q0, .inl (K 2, 400, .inr (.inl (u_29.2.2.1 1))))] H := hP
  have hD : va_D A [(m0, .inr (12, [m_0, m_1, m_2, .ref w0, m_4, m_5, m_6, m_7, m_8, m_9, m_10, m_11, m_12, m_13, m_14, m_15, m_16, m_17, m_18, m_19, .int 0, m_21, m_22, m_23, m_24, m_25, m_26, m_27, m_28, m_29, m_30, m_31, m_32, m_33, .int (u_29.2.2.2.1 0), .ref e0, m_36, .ref q0, .int (u_29.2.2.2.1 1), .long (u_29.2.2.2.2.1 0), .long (u_29.2.2.2.2.1 1), m_41, m_42, m_43, m_44, m_45, m_46, m_47, m_48, m_49, m_50, m_51, m_52, m_53, m_54, m_55, m_56, m_57, m_58, m_59])), (w0, .inl (K 0, 5500, .inl f_36)), (e0, .inl (K 2, 13, .inr (.inl (u_29.2.2.1 0)))), (q0, .inl (K 2, 400, .inr (.inl (u_29.2.2.1 1))))] := hD
  subst hQ
  have hP9 := hP.sub (ws' := [(m0, .inr (12, [m_0, m_1, m_2, .ref w0, m_4, m_5, m_6, m_7, m_8, m_9, m_10, m_11, m_12, m_13, m_14, m_15, m_16, m_17, m_18, m_19, .int 0, m_21, m_22, m_23, m_24, m_25, m_26, m_27, m_28, m_29, m_30, m_31, m_32, m_33, .int (u_29.2.2.2.1 0), .ref e0, m_36, .ref q0, .int (u_29.2.2.2.1 1), .long (u_29.2.2.2.2.1 0), .long (u_29.2.2.2.2.1 1), m_41, m_42, m_43, m_44, m_45, m_46, m_47, m_48, m_49, m_50, m_51, m_52, m_53, m_54, m_55, m_56, m_57, m_58, m_59])), (w0, .inl (K 0, 5500, .inl f_36)), (e0, .inl (K 2, 13, .inr (.inl (u_29.2.2.1 0)))), (q0, .inl (K 2, 400, .inr (.inl (u_29.2.2.1 1))))]) [0, 1, 2, 3] rfl
  have hD9 := hD.sub (ws' := [(m0, .inr (12, [m_0, m_1, m_2, .ref w0, m_4, m_5, m_6, m_7, m_8, m_9, m_10, m_11, m_12, m_13, m_14, m_15, m_16, m_17, m_18, m_19, .int 0, m_21, m_22, m_23, m_24, m_25, m_26, m_27, m_28, m_29, m_30, m_31, m_32, m_33, .int (u_29.2.2.2.1 0), .ref e0, m_36, .ref q0, .int (u_29.2.2.2.1 1), .long (u_29.2.2.2.2.1 0), .long (u_29.2.2.2.2.1 1), m_41, m_42, m_43, m_44, m_45, m_46, m_47, m_48, m_49, m_50, m_51, m_52, m_53, m_54, m_55, m_56, m_57, m_58, m_59])), (w0, .inl (K 0, 5500, .inl f_36)), (e0, .inl (K 2, 13, .inr (.inl (u_29.2.2.1 0)))), (q0, .inl (K 2, 400, .inr (.inl (u_29.2.2.1 1))))]) [0, 1, 2, 3] (by decide) rfl
  exact W.vret hx hb hr (fun t ht hW => ⟨⟨((fun _ => 0, fun i => match i with | _ => f_36, fun i => match i with | 0 => (u_29.2.2.1 0) | _ => (u_29.2.2.1 1), fun i => match i with | 0 => (u_29.2.2.2.1 0) | _ => (u_29.2.2.2.1 1), fun i => match i with | 0 => (u_29.2.2.2.2.1 0) | _ => (u_29.2.2.2.2.1 1), fun _ => fun _ => none) : Su), rfl, ⟨(show 0 ≤ ((u_29.2.2.2.1 1) : Int32).toInt ∧ ((u_29.2.2.2.1 1) : Int32).toInt ≤ 1 by omega), hf_36_0, trivial⟩, (⟨by rw [ht]; exact hP9, hD9⟩ : Wd D A _ t)⟩, hS.F ht⟩) hS.2.2 dX12_flare_32
set_option maxHeartbeats 4000000 in
set_option maxRecDepth 100000 in
theorem v_canStoke (l : Launch) (D : va_G) (K : Nat → ClassId) (m0 : Nat) (x : Int32) (m_0 : Value) (m_1 : Value) (m_2 : Value) (w0 : Nat) (m_4 : Value) (m_5 : Value) (m_6 : Value) (m_7 : Value) (m_8 : Value) (m_9 : Value) (m_10 : Value) (m_11 : Value) (m_12 : Value) (m_13 : Value) (m_14 : Value) (m_15 : Value) (m_16 : Value) (m_17 : Value) (m_18 : Value) (m_19 : Value) (m_21 : Value) (m_22 : Value) (m_23 : Value) (m_24 : Value) (m_25 : Value) (m_26 : Value) (m_27 : Value) (m_28 : Value) (m_29 : Value) (m_30 : Value) (m_31 : Value) (m_32 : Value) (m_33 : Value) (lw : Int32) (e0 : Nat) (m_36 : Value) (q0 : Nat) (bro : Int32) (val : Int64) (sm : Int64) (m_41 : Value) (m_42 : Value) (m_43 : Value) (m_44 : Value) (m_45 : Value) (m_46 : Value) (m_47 : Value) (m_48 : Value) (m_49 : Value) (m_50 : Value) (m_51 : Value) (m_52 : Value) (m_53 : Value) (m_54 : Value) (m_55 : Value) (m_56 : Value) (m_57 : Value) (m_58 : Value) (m_59 : Value) (fw : Nat → Int32) (fe : Nat → Int64) (fq : Nat → Int64) (sz : Nat) (zbro : 0 ≤ bro.toInt ∧ bro.toInt ≤ 1) (zx : 0 ≤ x.toInt ∧ x.toInt ≤ 7) (zfw : RowOK fw) : Met l yX12_canStoke wsX12_canStoke ({ frames := 5, cells := 0, slots := 0, locals := 123 }) (va_Pc [.ref m0, .int x] (Pre D K [(m0, .inr (12, [m_0, m_1, m_2, .ref w0, m_4, m_5, m_6, m_7, m_8, m_9, m_10, m_11, m_12, m_13, m_14, m_15, m_16, m_17, m_18, m_19, .int 0, m_21, m_22, m_23, m_24, m_25, m_26, m_27, m_28, m_29, m_30, m_31, m_32, m_33, .int lw, .ref e0, m_36, .ref q0, .int bro, .long val, .long sm, m_41, m_42, m_43, m_44, m_45, m_46, m_47, m_48, m_49, m_50, m_51, m_52, m_53, m_54, m_55, m_56, m_57, m_58, m_59])), (w0, .inl (K 0, 5500, .inl fw)), (e0, .inl (K 2, 13, .inr (.inl fe))), (q0, .inl (K 2, 400, .inr (.inl fq)))] sz)) (va_Qi (S := Su) (fun (r : Int32) (u : Su) => (0 ≤ r.toInt ∧ r.toInt ≤ 1) ∧ (0 ≤ (u.2.2.2.1 1).toInt ∧ (u.2.2.2.1 1).toInt ≤ 1) ∧ True) (fun u t => Wd D (va_A [(m0, .inr (12, [m_0, m_1, m_2, .ref w0, m_4, m_5, m_6, m_7, m_8, m_9, m_10, m_11, m_12, m_13, m_14, m_15, m_16, m_17, m_18, m_19, .int 0, m_21, m_22, m_23, m_24, m_25, m_26, m_27, m_28, m_29, m_30, m_31, m_32, m_33, .int lw, .ref e0, m_36, .ref q0, .int bro, .long val, .long sm, m_41, m_42, m_43, m_44, m_45, m_46, m_47, m_48, m_49, m_50, m_51, m_52, m_53, m_54, m_55, m_56, m_57, m_58, m_59])), (w0, .inl (K 0, 5500, .inl fw)), (e0, .inl (K 2, 13, .inr (.inl fe))), (q0, .inl (K 2, 400, .inr (.inl fq)))] sz) ((fun u => [(m0, .inr (12, [m_0, m_1, m_2, .ref w0, m_4, m_5, m_6, m_7, m_8, m_9, m_10, m_11, m_12, m_13, m_14, m_15, m_16, m_17, m_18, m_19, .int 0, m_21, m_22, m_23, m_24, m_25, m_26, m_27, m_28, m_29, m_30, m_31, m_32, m_33, .int (u.2.2.2.1 0), .ref e0, m_36, .ref q0, .int (u.2.2.2.1 1), .long (u.2.2.2.2.1 0), .long (u.2.2.2.2.1 1), m_41, m_42, m_43, m_44, m_45, m_46, m_47, m_48, m_49, m_50, m_51, m_52, m_53, m_54, m_55, m_56, m_57, m_58, m_59])), (w0, .inl (K 0, 5500, .inl fw)), (e0, .inl (K 2, 13, .inr (.inl (u.2.2.1 0)))), (q0, .inl (K 2, 400, .inr (.inl (u.2.2.1 1))))]) u) t) (va_A [(m0, .inr (12, [m_0, m_1, m_2, .ref w0, m_4, m_5, m_6, m_7, m_8, m_9, m_10, m_11, m_12, m_13, m_14, m_15, m_16, m_17, m_18, m_19, .int 0, m_21, m_22, m_23, m_24, m_25, m_26, m_27, m_28, m_29, m_30, m_31, m_32, m_33, .int lw, .ref e0, m_36, .ref q0, .int bro, .long val, .long sm, m_41, m_42, m_43, m_44, m_45, m_46, m_47, m_48, m_49, m_50, m_51, m_52, m_53, m_54, m_55, m_56, m_57, m_58, m_59])), (w0, .inl (K 0, 5500, .inl fw)), (e0, .inl (K 2, 13, .inr (.inl fe))), (q0, .inl (K 2, 400, .inr (.inl fq)))] sz)) 0 0 (va_A [(m0, .inr (12, [m_0, m_1, m_2, .ref w0, m_4, m_5, m_6, m_7, m_8, m_9, m_10, m_11, m_12, m_13, m_14, m_15, m_16, m_17, m_18, m_19, .int 0, m_21, m_22, m_23, m_24, m_25, m_26, m_27, m_28, m_29, m_30, m_31, m_32, m_33, .int lw, .ref e0, m_36, .ref q0, .int bro, .long val, .long sm, m_41, m_42, m_43, m_44, m_45, m_46, m_47, m_48, m_49, m_50, m_51, m_52, m_53, m_54, m_55, m_56, m_57, m_58, m_59])), (w0, .inl (K 0, 5500, .inl fw)), (e0, .inl (K 2, 13, .inr (.inl fe))), (q0, .inl (K 2, 400, .inr (.inl fq)))] sz) := by
  refine Met.ofW (cc := cX12_canStoke) (maxL := 2) (ret := (some .boolean)) (by decide) rfl ?_
  intro p e s m args below meth c s₁ B hml hv
  obtain ⟨rfl, hsz, hP, hK, hD0, hN⟩ := hv
  have hx := B.exec
  have hb := B.bytes
  have hr := B.returns
  have hts := atoms_spec (ws := wsX12_canStoke) B.pre
  have hown : s.vm.findClass RX12 = some m.cls := findClass_of_methodNamed B.named
  have hlocks := B.notSynchronized
  subst hsz
  have hD := hD0.self (sz := s.heap.size)
  generalize hAe : va_A [(m0, .inr (12, [m_0, m_1, m_2, .ref w0, m_4, m_5, m_6, m_7, m_8, m_9, m_10, m_11, m_12, m_13, m_14, m_15, m_16, m_17, m_18, m_19, .int 0, m_21, m_22, m_23, m_24, m_25, m_26, m_27, m_28, m_29, m_30, m_31, m_32, m_33, .int lw, .ref e0, m_36, .ref q0, .int bro, .long val, .long sm, m_41, m_42, m_43, m_44, m_45, m_46, m_47, m_48, m_49, m_50, m_51, m_52, m_53, m_54, m_55, m_56, m_57, m_58, m_59])), (w0, .inl (K 0, 5500, .inl fw)), (e0, .inl (K 2, 13, .inr (.inl fe))), (q0, .inl (K 2, 400, .inr (.inl fq)))] s.heap.size = A at hD ⊢
  have hA : ∀ q : Nat, s.heap.size ≤ q → A q := fun q h => by rw [← hAe]; exact Or.inr h
  have hS : va_S A s.heap s.heap [] := va_S.rf
  have hP : va_P D vwCl [(m0, .inr (12, [m_0, m_1, m_2, .ref w0, m_4, m_5, m_6, m_7, m_8, m_9, m_10, m_11, m_12, m_13, m_14, m_15, m_16, m_17, m_18, m_19, .int 0, m_21, m_22, m_23, m_24, m_25, m_26, m_27, m_28, m_29, m_30, m_31, m_32, m_33, .int lw, .ref e0, m_36, .ref q0, .int bro, .long val, .long sm, m_41, m_42, m_43, m_44, m_45, m_46, m_47, m_48, m_49, m_50, m_51, m_52, m_53, m_54, m_55, m_56, m_57, m_58, m_59])), (w0, .inl (K 0, 5500, .inl fw)), (e0, .inl (K 2, 13, .inr (.inl fe))), (q0, .inl (K 2, 400, .inr (.inl fq)))] s.heap := hP
  have hl := lv_entry [.ref m0, .int x] (n := 2) (Nat.le_of_ble_eq_true rfl)
  rw [lg_entry_eq]
  generalize (lg_sl [.ref m0, .int x] ++ List.replicate (2 - (lg_sl [.ref m0, .int x]).length) Slot.unset).toArray = ls at hl ⊢
  have hl : lv_has ls 2 [(0, .ref m0), (1, .int x)] := hl
  have hw12 : ∀ w ∈ wsX120, w ∈ wsX12_canStoke := fun w h => (List.mem_cons_of_mem _ (List.mem_append_right _ h))
  generalize hQ : MQ below _ _ s _ _ _ = Q
  refine lv_aload_n hx hb dX12_canStoke_0 rfl (lv_at hl 0 rfl) ?_
  refine va_get (ci := 12) (v := .ref w0) (C := RX12) (T := TX12) (N := 60) hx hb hts hw12 hown hK hP 0 rfl rfl 3 (by decide) (hts (.fieldLink RX12 13 "SmokeTuneModel" "row" "[I") (List.mem_cons_of_mem _ (List.mem_append_left _ (List.mem_append_left _ (List.mem_of_getElem? (i := 0) rfl))))) (fun _ h9 => h9) rfl dX12_canStoke_1 ?_
  refine lv_bipush (v := 19) hx hb dX12_canStoke_4 (by decide) ?_
  refine lv_iload_n hx hb dX12_canStoke_6 rfl (lv_at hl 1 rfl) ?_
  refine lv_iadd hx hb dX12_canStoke_7 ?_
  refine lv_topi (fun x_43 ex_43 => ?_)
  have hx_43 : x_43.toInt = (19 + x.toInt) := by rw [ex_43]; exact i_add (show (19 : Int32).toInt = 19 from rfl) rfl (by omega)
  refine va_iald hx hb hK hP 1 0 rfl rfl (i_in hx_43 (by omega)) dX12_canStoke_8 ?_
  refine lv_topi (fun x_44 ex_44 => ?_)
  have px_44 := RowOK.at zfw hx_43 (show 0 ≤ (19 + x.toInt) ∧ (19 + x.toInt) < 100 by omega)
  rw [← ex_44] at px_44
  have j_57 : ∀ (v_51 : Int32) (v_52 : Int32) (v_53 : Int64) (v_54 : Int64) (f_55 : Nat → Int64) (f_56 : Nat → Int64) (hv_52 : 0 ≤ v_52.toInt ∧ v_52.toInt ≤ 1) (H : Heap) (locs : List Loc) (hP : va_P D vwCl [(m0, .inr (12, [m_0, m_1, m_2, .ref w0, m_4, m_5, m_6, m_7, m_8, m_9, m_10, m_11, m_12, m_13, m_14, m_15, m_16, m_17, m_18, m_19, .int 0, m_21, m_22, m_23, m_24, m_25, m_26, m_27, m_28, m_29, m_30, m_31, m_32, m_33, .int v_51, .ref e0, m_36, .ref q0, .int v_52, .long v_53, .long v_54, m_41, m_42, m_43, m_44, m_45, m_46, m_47, m_48, m_49, m_50, m_51, m_52, m_53, m_54, m_55, m_56, m_57, m_58, m_59])), (w0, .inl (K 0, 5500, .inl fw)), (e0, .inl (K 2, 13, .inr (.inl f_55))), (q0, .inl (K 2, 400, .inr (.inl f_56)))] H) (hD : va_D A [(m0, .inr (12, [m_0, m_1, m_2, .ref w0, m_4, m_5, m_6, m_7, m_8, m_9, m_10, m_11, m_12, m_13, m_14, m_15, m_16, m_17, m_18, m_19, .int 0, m_21, m_22, m_23, m_24, m_25, m_26, m_27, m_28, m_29, m_30, m_31, m_32, m_33, .int v_51, .ref e0, m_36, .ref q0, .int v_52, .long v_53, .long v_54, m_41, m_42, m_43, m_44, m_45, m_46, m_47, m_48, m_49, m_50, m_51, m_52, m_53, m_54, m_55, m_56, m_57, m_58, m_59])), (w0, .inl (K 0, 5500, .inl fw)), (e0, .inl (K 2, 13, .inr (.inl f_55))), (q0, .inl (K 2, 400, .inr (.inl f_56)))]) (hS : va_S A s.heap H locs) (ls : Array Slot) (hl : lv_has ls 2 []), W p l e ({ frames := 5, cells := 0, slots := 0, locals := 123 }) s m (([.ref m0, .int x] : List Value).toArray) below meth c H locs 0 0 Q (F0 m 24 ls []) := by
    intro v_51 v_52 v_53 v_54 f_55 f_56 hv_52 H locs hP hD hS ls hl
    refine lv_iconst (v := 0) hx hb dX12_canStoke_24 (by decide) ?_
    subst hQ
    have hP9 := hP.sub (ws' := [(m0, .inr (12, [m_0, m_1, m_2, .ref w0, m_4, m_5, m_6, m_7, m_8, m_9, m_10, m_11, m_12, m_13, m_14, m_15, m_16, m_17, m_18, m_19, .int 0, m_21, m_22, m_23, m_24, m_25, m_26, m_27, m_28, m_29, m_30, m_31, m_32, m_33, .int v_51, .ref e0, m_36, .ref q0, .int v_52, .long v_53, .long v_54, m_41, m_42, m_43, m_44, m_45, m_46, m_47, m_48, m_49, m_50, m_51, m_52, m_53, m_54, m_55, m_56, m_57, m_58, m_59])), (w0, .inl (K 0, 5500, .inl fw)), (e0, .inl (K 2, 13, .inr (.inl f_55))), (q0, .inl (K 2, 400, .inr (.inl f_56)))]) [0, 1, 2, 3] rfl
    have hD9 := hD.sub (ws' := [(m0, .inr (12, [m_0, m_1, m_2, .ref w0, m_4, m_5, m_6, m_7, m_8, m_9, m_10, m_11, m_12, m_13, m_14, m_15, m_16, m_17, m_18, m_19, .int 0, m_21, m_22, m_23, m_24, m_25, m_26, m_27, m_28, m_29, m_30, m_31, m_32, m_33, .int v_51, .ref e0, m_36, .ref q0, .int v_52, .long v_53, .long v_54, m_41, m_42, m_43, m_44, m_45, m_46, m_47, m_48, m_49, m_50, m_51, m_52, m_53, m_54, m_55, m_56, m_57, m_58, m_59])), (w0, .inl (K 0, 5500, .inl fw)), (e0, .inl (K 2, 13, .inr (.inl f_55))), (q0, .inl (K 2, 400, .inr (.inl f_56)))]) [0, 1, 2, 3] (by decide) rfl
    exact W.zret (v := 0) hx hb hr (by decide) (fun t ht hW => ⟨⟨0, ((fun _ => 0, fun _ => fun _ => 0, fun i => match i with | 0 => f_55 | _ => f_56, fun i => match i with | 0 => v_51 | _ => v_52, fun i => match i with | 0 => v_53 | _ => v_54, fun _ => fun _ => none) : Su), rfl, ⟨(show 0 ≤ (0 : Int32).toInt ∧ (0 : Int32).toInt ≤ 1 by decide), (show 0 ≤ (v_52 : Int32).toInt ∧ (v_52 : Int32).toInt ≤ 1 by omega), trivial⟩, (⟨by rw [ht]; exact hP9, hD9⟩ : Wd D A _ t)⟩, hS.F ht⟩) hS.2.2 dX12_canStoke_25
  refine lv_if_le (tgt := 24) hx hb dX12_canStoke_9 (by decide) (fun c_58 => ?_) (fun c_58 => ?_)
  · have c_58i := i_le (x := x_44.toInt) (y := 0) rfl rfl c_58
    exact j_57 lw bro val sm fe fq (by omega) _ _ hP hD hS ls (lv_sub hl [] rfl)
  · have c_58i := i_nle (x := x_44.toInt) (y := 0) rfl rfl c_58
    refine lv_aload_n hx hb dX12_canStoke_12 rfl (lv_at hl 0 rfl) ?_
    refine lv_iload_n hx hb dX12_canStoke_13 rfl (lv_at hl 1 rfl) ?_
    refine kci (S := Su) (wr := []) (va_runV (As := [.int x]) (rest := []) ⟨hx, hb, hml, hown, hts⟩ (v_isBarred l D K m0 x m_0 m_1 m_2 w0 m_4 m_5 m_6 m_7 m_8 m_9 m_10 m_11 m_12 m_13 m_14 m_15 m_16 m_17 m_18 m_19 m_21 m_22 m_23 m_24 m_25 m_26 m_27 m_28 m_29 m_30 m_31 m_32 m_33 lw e0 m_36 q0 bro val sm m_41 m_42 m_43 m_44 m_45 m_46 m_47 m_48 m_49 m_50 m_51 m_52 m_53 m_54 m_55 m_56 m_57 m_58 m_59 fw fe fq s.heap.size (by first | omega | decide) (by first | omega | decide) zfw) (cwV 1 hts gX12_canStoke_X12_isBarred rfl rfl rfl (by decide +kernel) ⟨Nat.le_of_ble_eq_true rfl, Nat.le_of_ble_eq_true rfl⟩) (mkV hK hN (hP.sub [0, 1, 2, 3] rfl) (hD.sub [0, 1, 2, 3] (by decide) rfl) (ci := 12) (q0 := 0) rfl rfl) rfl rfl hl.1 rfl (lv_room (Nat.le_of_ble_eq_true rfl)) dX12_canStoke_14 ⟨Nat.le_of_ble_eq_true rfl, Nat.le_of_ble_eq_true rfl⟩) hP hD hS hA [0, 1, 2, 3] [] rfl rfl (by decide) (by decide) (fun r_59 u_60 H locs hw hP hD hS => ?_)
    have hP : va_P D vwCl [(m0, .inr (12, [m_0, m_1, m_2, .ref w0, m_4, m_5, m_6, m_7, m_8, m_9, m_10, m_11, m_12, m_13, m_14, m_15, m_16, m_17, m_18, m_19, .int 0, m_21, m_22, m_23, m_24, m_25, m_26, m_27, m_28, m_29, m_30, m_31, m_32, m_33, .int (u_60.2.2.2.1 0), .ref e0, m_36, .ref q0, .int (u_60.2.2.2.1 1), .long (u_60.2.2.2.2.1 0), .long (u_60.2.2.2.2.1 1), m_41, m_42, m_43, m_44, m_45, m_46, m_47, m_48, m_49, m_50, m_51, m_52, m_53, m_54, m_55, m_56, m_57, m_58, m_59])), (w0, .inl (K 0, 5500, .inl fw)), (e0, .inl (K 2, 13, .inr (.inl (u_60.2.2.1 0)))), (q0, .inl (K 2, 400, .inr (.inl (u_60.2.2.1 1))))] H := hP
    have hD : va_D A [(m0, .inr (12, [m_0, m_1, m_2, .ref w0, m_4, m_5, m_6, m_7, m_8, m_9, m_10, m_11, m_12, m_13, m_14, m_15, m_16, m_17, m_18, m_19, .int 0, m_21, m_22, m_23, m_24, m_25, m_26, m_27, m_28, m_29, m_30, m_31, m_32, m_33, .int (u_60.2.2.2.1 0), .ref e0, m_36, .ref q0, .int (u_60.2.2.2.1 1), .long (u_60.2.2.2.2.1 0), .long (u_60.2.2.2.2.1 1), m_41, m_42, m_43, m_44, m_45, m_46, m_47, m_48, m_49, m_50, m_51, m_52, m_53, m_54, m_55, m_56, m_57, m_58, m_59])), (w0, .inl (K 0, 5500, .inl fw)), (e0, .inl (K 2, 13, .inr (.inl (u_60.2.2.1 0)))), (q0, .inl (K 2, 400, .inr (.inl (u_60.2.2.1 1))))] := hD
    obtain ⟨h_62, k_61, -⟩ := hw
    refine lv_if_ne (tgt := 24) hx hb dX12_canStoke_17 (by decide) (fun c_63 => ?_) (fun c_63 => ?_)
    · have c_63i := i_ne (x := r_59.toInt) (y := 0) rfl rfl c_63
      exact j_57 (u_60.2.2.2.1 0) (u_60.2.2.2.1 1) (u_60.2.2.2.2.1 0) (u_60.2.2.2.2.1 1) (u_60.2.2.1 0) (u_60.2.2.1 1) (by omega) _ _ hP hD hS ls (lv_sub hl [] rfl)
    · have c_63i := i_eq (x := r_59.toInt) (y := 0) rfl rfl c_63
      refine lv_iconst (v := 1) hx hb dX12_canStoke_20 (by decide) ?_
      refine lv_goto (tgt := 25) hx hb dX12_canStoke_21 (by decide) ?_
      subst hQ
      have hP9 := hP.sub (ws' := [(m0, .inr (12, [m_0, m_1, m_2, .ref w0, m_4, m_5, m_6, m_7, m_8, m_9, m_10, m_11, m_12, m_13, m_14, m_15, m_16, m_17, m_18, m_19, .int 0, m_21, m_22, m_23, m_24, m_25, m_26, m_27, m_28, m_29, m_30, m_31, m_32, m_33, .int (u_60.2.2.2.1 0), .ref e0, m_36, .ref q0, .int (u_60.2.2.2.1 1), .long (u_60.2.2.2.2.1 0), .long (u_60.2.2.2.2.1 1), m_41, m_42, m_43, m_44, m_45, m_46, m_47, m_48, m_49, m_50, m_51, m_52, m_53, m_54, m_55, m_56, m_57, m_58, m_59])), (w0, .inl (K 0, 5500, .inl fw)), (e0, .inl (K 2, 13, .inr (.inl (u_60.2.2.1 0)))), (q0, .inl (K 2, 400, .inr (.inl (u_60.2.2.1 1))))]) [0, 1, 2, 3] rfl
      have hD9 := hD.sub (ws' := [(m0, .inr (12, [m_0, m_1, m_2, .ref w0, m_4, m_5, m_6, m_7, m_8, m_9, m_10, m_11, m_12, m_13, m_14, m_15, m_16, m_17, m_18, m_19, .int 0, m_21, m_22, m_23, m_24, m_25, m_26, m_27, m_28, m_29, m_30, m_31, m_32, m_33, .int (u_60.2.2.2.1 0), .ref e0, m_36, .ref q0, .int (u_60.2.2.2.1 1), .long (u_60.2.2.2.2.1 0), .long (u_60.2.2.2.2.1 1), m_41, m_42, m_43, m_44, m_45, m_46, m_47, m_48, m_49, m_50, m_51, m_52, m_53, m_54, m_55, m_56, m_57, m_58, m_59])), (w0, .inl (K 0, 5500, .inl fw)), (e0, .inl (K 2, 13, .inr (.inl (u_60.2.2.1 0)))), (q0, .inl (K 2, 400, .inr (.inl (u_60.2.2.1 1))))]) [0, 1, 2, 3] (by decide) rfl
      exact W.zret (v := 1) hx hb hr (by decide) (fun t ht hW => ⟨⟨1, ((fun _ => 0, fun _ => fun _ => 0, fun i => match i with | 0 => (u_60.2.2.1 0) | _ => (u_60.2.2.1 1), fun i => match i with | 0 => (u_60.2.2.2.1 0) | _ => (u_60.2.2.2.1 1), fun i => match i with | 0 => (u_60.2.2.2.2.1 0) | _ => (u_60.2.2.2.2.1 1), fun _ => fun _ => none) : Su), rfl, ⟨(show 0 ≤ (1 : Int32).toInt ∧ (1 : Int32).toInt ≤ 1 by decide), (show 0 ≤ ((u_60.2.2.2.1 1) : Int32).toInt ∧ ((u_60.2.2.2.1 1) : Int32).toInt ≤ 1 by omega), trivial⟩, (⟨by rw [ht]; exact hP9, hD9⟩ : Wd D A _ t)⟩, hS.F ht⟩) hS.2.2 dX12_canStoke_25
set_option maxHeartbeats 4000000 in
set_option maxRecDepth 100000 in
theorem v_stokeIt (l : Launch) (D : va_G) (K : Nat → ClassId) (m0 : Nat) (x : Int32) (m_0 : Value) (m_1 : Value) (m_2 : Value) (w0 : Nat) (m_4 : Value) (m_5 : Value) (m_6 : Value) (m_7 : Value) (m_8 : Value) (m_9 : Value) (m_10 : Value) (m_11 : Value) (m_12 : Value) (m_13 : Value) (m_14 : Value) (m_15 : Value) (m_16 : Value) (m_17 : Value) (m_18 : Value) (m_19 : Value) (m_21 : Value) (m_22 : Value) (m_23 : Value) (m_24 : Value) (m_25 : Value) (m_26 : Value) (m_27 : Value) (m_28 : Value) (m_29 : Value) (m_30 : Value) (m_31 : Value) (m_32 : Value) (m_33 : Value) (lw : Int32) (e0 : Nat) (m_36 : Value) (q0 : Nat) (bro : Int32) (val : Int64) (sm : Int64) (m_41 : Value) (m_42 : Value) (m_43 : Value) (m_44 : Value) (m_45 : Value) (m_46 : Value) (m_47 : Value) (m_48 : Value) (m_49 : Value) (m_50 : Value) (m_51 : Value) (m_52 : Value) (m_53 : Value) (m_54 : Value) (m_55 : Value) (m_56 : Value) (m_57 : Value) (m_58 : Value) (m_59 : Value) (fw : Nat → Int32) (fe : Nat → Int64) (fq : Nat → Int64) (sz : Nat) (zbro : 0 ≤ bro.toInt ∧ bro.toInt ≤ 1) (zx : 0 ≤ x.toInt ∧ x.toInt ≤ 7) (zfw : RowOK fw) : Met l yX12_stokeIt wsX12_stokeIt ({ frames := 6, cells := 0, slots := 0, locals := 146 }) (va_Pc [.ref m0, .int x] (Pre D K [(m0, .inr (12, [m_0, m_1, m_2, .ref w0, m_4, m_5, m_6, m_7, m_8, m_9, m_10, m_11, m_12, m_13, m_14, m_15, m_16, m_17, m_18, m_19, .int 0, m_21, m_22, m_23, m_24, m_25, m_26, m_27, m_28, m_29, m_30, m_31, m_32, m_33, .int lw, .ref e0, m_36, .ref q0, .int bro, .long val, .long sm, m_41, m_42, m_43, m_44, m_45, m_46, m_47, m_48, m_49, m_50, m_51, m_52, m_53, m_54, m_55, m_56, m_57, m_58, m_59])), (w0, .inl (K 0, 5500, .inl fw)), (e0, .inl (K 2, 13, .inr (.inl fe))), (q0, .inl (K 2, 400, .inr (.inl fq)))] sz)) (va_Qv (S := Su) (fun (u : Su) => (0 ≤ (u.2.2.2.1 1).toInt ∧ (u.2.2.2.1 1).toInt ≤ 1) ∧ (RowOK (u.2.1 0)) ∧ True) (fun u t => Wd D (va_A [(m0, .inr (12, [m_0, m_1, m_2, .ref w0, m_4, m_5, m_6, m_7, m_8, m_9, m_10, m_11, m_12, m_13, m_14, m_15, m_16, m_17, m_18, m_19, .int 0, m_21, m_22, m_23, m_24, m_25, m_26, m_27, m_28, m_29, m_30, m_31, m_32, m_33, .int lw, .ref e0, m_36, .ref q0, .int bro, .long val, .long sm, m_41, m_42, m_43, m_44, m_45, m_46, m_47, m_48, m_49, m_50, m_51, m_52, m_53, m_54, m_55, m_56, m_57, m_58, m_59])), (w0, .inl (K 0, 5500, .inl fw)), (e0, .inl (K 2, 13, .inr (.inl fe))), (q0, .inl (K 2, 400, .inr (.inl fq)))] sz) ((fun u => [(m0, .inr (12, [m_0, m_1, m_2, .ref w0, m_4, m_5, m_6, m_7, m_8, m_9, m_10, m_11, m_12, m_13, m_14, m_15, m_16, m_17, m_18, m_19, .int 0, m_21, m_22, m_23, m_24, m_25, m_26, m_27, m_28, m_29, m_30, m_31, m_32, m_33, .int (u.2.2.2.1 0), .ref e0, m_36, .ref q0, .int (u.2.2.2.1 1), .long (u.2.2.2.2.1 0), .long (u.2.2.2.2.1 1), m_41, m_42, m_43, m_44, m_45, m_46, m_47, m_48, m_49, m_50, m_51, m_52, m_53, m_54, m_55, m_56, m_57, m_58, m_59])), (w0, .inl (K 0, 5500, .inl (u.2.1 0))), (e0, .inl (K 2, 13, .inr (.inl (u.2.2.1 0)))), (q0, .inl (K 2, 400, .inr (.inl (u.2.2.1 1))))]) u) t) (va_A [(m0, .inr (12, [m_0, m_1, m_2, .ref w0, m_4, m_5, m_6, m_7, m_8, m_9, m_10, m_11, m_12, m_13, m_14, m_15, m_16, m_17, m_18, m_19, .int 0, m_21, m_22, m_23, m_24, m_25, m_26, m_27, m_28, m_29, m_30, m_31, m_32, m_33, .int lw, .ref e0, m_36, .ref q0, .int bro, .long val, .long sm, m_41, m_42, m_43, m_44, m_45, m_46, m_47, m_48, m_49, m_50, m_51, m_52, m_53, m_54, m_55, m_56, m_57, m_58, m_59])), (w0, .inl (K 0, 5500, .inl fw)), (e0, .inl (K 2, 13, .inr (.inl fe))), (q0, .inl (K 2, 400, .inr (.inl fq)))] sz)) 0 0 (va_A [(m0, .inr (12, [m_0, m_1, m_2, .ref w0, m_4, m_5, m_6, m_7, m_8, m_9, m_10, m_11, m_12, m_13, m_14, m_15, m_16, m_17, m_18, m_19, .int 0, m_21, m_22, m_23, m_24, m_25, m_26, m_27, m_28, m_29, m_30, m_31, m_32, m_33, .int lw, .ref e0, m_36, .ref q0, .int bro, .long val, .long sm, m_41, m_42, m_43, m_44, m_45, m_46, m_47, m_48, m_49, m_50, m_51, m_52, m_53, m_54, m_55, m_56, m_57, m_58, m_59])), (w0, .inl (K 0, 5500, .inl fw)), (e0, .inl (K 2, 13, .inr (.inl fe))), (q0, .inl (K 2, 400, .inr (.inl fq)))] sz) := by
  refine Met.ofW (cc := cX12_stokeIt) (maxL := 2) (ret := none) (by decide) rfl ?_
  intro p e s m args below meth c s₁ B hml hv
  obtain ⟨rfl, hsz, hP, hK, hD0, hN⟩ := hv
  have hx := B.exec
  have hb := B.bytes
  have hr := B.returns
  have hts := atoms_spec (ws := wsX12_stokeIt) B.pre
  have hown : s.vm.findClass RX12 = some m.cls := findClass_of_methodNamed B.named
  have hlocks := B.notSynchronized
  subst hsz
  have hD := hD0.self (sz := s.heap.size)
  generalize hAe : va_A [(m0, .inr (12, [m_0, m_1, m_2, .ref w0, m_4, m_5, m_6, m_7, m_8, m_9, m_10, m_11, m_12, m_13, m_14, m_15, m_16, m_17, m_18, m_19, .int 0, m_21, m_22, m_23, m_24, m_25, m_26, m_27, m_28, m_29, m_30, m_31, m_32, m_33, .int lw, .ref e0, m_36, .ref q0, .int bro, .long val, .long sm, m_41, m_42, m_43, m_44, m_45, m_46, m_47, m_48, m_49, m_50, m_51, m_52, m_53, m_54, m_55, m_56, m_57, m_58, m_59])), (w0, .inl (K 0, 5500, .inl fw)), (e0, .inl (K 2, 13, .inr (.inl fe))), (q0, .inl (K 2, 400, .inr (.inl fq)))] s.heap.size = A at hD ⊢
  have hA : ∀ q : Nat, s.heap.size ≤ q → A q := fun q h => by rw [← hAe]; exact Or.inr h
  have hS : va_S A s.heap s.heap [] := va_S.rf
  have hP : va_P D vwCl [(m0, .inr (12, [m_0, m_1, m_2, .ref w0, m_4, m_5, m_6, m_7, m_8, m_9, m_10, m_11, m_12, m_13, m_14, m_15, m_16, m_17, m_18, m_19, .int 0, m_21, m_22, m_23, m_24, m_25, m_26, m_27, m_28, m_29, m_30, m_31, m_32, m_33, .int lw, .ref e0, m_36, .ref q0, .int bro, .long val, .long sm, m_41, m_42, m_43, m_44, m_45, m_46, m_47, m_48, m_49, m_50, m_51, m_52, m_53, m_54, m_55, m_56, m_57, m_58, m_59])), (w0, .inl (K 0, 5500, .inl fw)), (e0, .inl (K 2, 13, .inr (.inl fe))), (q0, .inl (K 2, 400, .inr (.inl fq)))] s.heap := hP
  have hl := lv_entry [.ref m0, .int x] (n := 2) (Nat.le_of_ble_eq_true rfl)
  rw [lg_entry_eq]
  generalize (lg_sl [.ref m0, .int x] ++ List.replicate (2 - (lg_sl [.ref m0, .int x]).length) Slot.unset).toArray = ls at hl ⊢
  have hl : lv_has ls 2 [(0, .ref m0), (1, .int x)] := hl
  have hw12 : ∀ w ∈ wsX120, w ∈ wsX12_stokeIt := fun w h => (List.mem_cons_of_mem _ (List.mem_append_right _ h))
  generalize hQ : MQ below _ _ s _ _ _ = Q
  refine lv_aload_n hx hb dX12_stokeIt_0 rfl (lv_at hl 0 rfl) ?_
  refine lv_aload_n hx hb dX12_stokeIt_1 rfl (lv_at hl 0 rfl) ?_
  refine va_get (ci := 12) (v := .ref w0) (C := RX12) (T := TX12) (N := 60) hx hb hts hw12 hown hK hP 0 rfl rfl 3 (by decide) (hts (.fieldLink RX12 13 "SmokeTuneModel" "row" "[I") (List.mem_cons_of_mem _ (List.mem_append_left _ (List.mem_append_left _ (List.mem_of_getElem? (i := 0) rfl))))) (fun _ h9 => h9) rfl dX12_stokeIt_2 ?_
  refine lv_iconst (v := 3) hx hb dX12_stokeIt_5 (by decide) ?_
  refine va_iald hx hb hK hP 1 0 rfl rfl (i_in (x := 3) rfl (by omega)) dX12_stokeIt_6 ?_
  refine lv_topi (fun x_19 ex_19 => ?_)
  have px_19 := RowOK.at zfw (show (3 : Int32).toInt = 3 from rfl) (show 0 ≤ 3 ∧ 3 < 100 by omega)
  rw [← ex_19] at px_19
  have hx_19 := PR.r_3 px_19 (by omega)
  refine lv_iload_n hx hb dX12_stokeIt_7 rfl (lv_at hl 1 rfl) ?_
  refine kcv (S := Su) (wr := []) (va_runV (As := [.int x_19, .int x]) (rest := []) ⟨hx, hb, hml, hown, hts⟩ (v_flare l D K m0 x_19 x m_0 m_1 m_2 w0 m_4 m_5 m_6 m_7 m_8 m_9 m_10 m_11 m_12 m_13 m_14 m_15 m_16 m_17 m_18 m_19 m_21 m_22 m_23 m_24 m_25 m_26 m_27 m_28 m_29 m_30 m_31 m_32 m_33 lw e0 m_36 q0 bro val sm m_41 m_42 m_43 m_44 m_45 m_46 m_47 m_48 m_49 m_50 m_51 m_52 m_53 m_54 m_55 m_56 m_57 m_58 m_59 fw fe fq s.heap.size (by first | omega | decide) (by first | omega | decide) (by first | omega | decide) zfw) (cwV 2 hts gX12_stokeIt_X12_flare rfl rfl rfl (by decide +kernel) ⟨Nat.le_of_ble_eq_true rfl, Nat.le_of_ble_eq_true rfl⟩) (mkV hK hN (hP.sub [0, 1, 2, 3] rfl) (hD.sub [0, 1, 2, 3] (by decide) rfl) (ci := 12) (q0 := 0) rfl rfl) rfl rfl hl.1 rfl (lv_room (Nat.le_of_ble_eq_true rfl)) dX12_stokeIt_8 ⟨Nat.le_of_ble_eq_true rfl, Nat.le_of_ble_eq_true rfl⟩) hP hD hS hA [0, 1, 2, 3] [] rfl rfl (by decide) (by decide) (fun u_21 H locs hw hP hD hS => ?_)
  have hP : va_P D vwCl [(m0, .inr (12, [m_0, m_1, m_2, .ref w0, m_4, m_5, m_6, m_7, m_8, m_9, m_10, m_11, m_12, m_13, m_14, m_15, m_16, m_17, m_18, m_19, .int 0, m_21, m_22, m_23, m_24, m_25, m_26, m_27, m_28, m_29, m_30, m_31, m_32, m_33, .int (u_21.2.2.2.1 0), .ref e0, m_36, .ref q0, .int (u_21.2.2.2.1 1), .long (u_21.2.2.2.2.1 0), .long (u_21.2.2.2.2.1 1), m_41, m_42, m_43, m_44, m_45, m_46, m_47, m_48, m_49, m_50, m_51, m_52, m_53, m_54, m_55, m_56, m_57, m_58, m_59])), (w0, .inl (K 0, 5500, .inl (u_21.2.1 0))), (e0, .inl (K 2, 13, .inr (.inl (u_21.2.2.1 0)))), (q0, .inl (K 2, 400, .inr (.inl (u_21.2.2.1 1))))] H := hP
  have hD : va_D A [(m0, .inr (12, [m_0, m_1, m_2, .ref w0, m_4, m_5, m_6, m_7, m_8, m_9, m_10, m_11, m_12, m_13, m_14, m_15, m_16, m_17, m_18, m_19, .int 0, m_21, m_22, m_23, m_24, m_25, m_26, m_27, m_28, m_29, m_30, m_31, m_32, m_33, .int (u_21.2.2.2.1 0), .ref e0, m_36, .ref q0, .int (u_21.2.2.2.1 1), .long (u_21.2.2.2.2.1 0), .long (u_21.2.2.2.2.1 1), m_41, m_42, m_43, m_44, m_45, m_46, m_47, m_48, m_49, m_50, m_51, m_52, m_53, m_54, m_55, m_56, m_57, m_58, m_59])), (w0, .inl (K 0, 5500, .inl (u_21.2.1 0))), (e0, .inl (K 2, 13, .inr (.inl (u_21.2.2.1 0)))), (q0, .inl (K 2, 400, .inr (.inl (u_21.2.2.1 1))))] := hD
  obtain ⟨k_22, k_23, -⟩ := hw
  refine lv_aload_n hx hb dX12_stokeIt_11 rfl (lv_at hl 0 rfl) ?_
  refine va_get (ci := 12) (v := .ref w0) (C := RX12) (T := TX12) (N := 60) hx hb hts hw12 hown hK hP 0 rfl rfl 3 (by decide) (hts (.fieldLink RX12 13 "SmokeTuneModel" "row" "[I") (List.mem_cons_of_mem _ (List.mem_append_left _ (List.mem_append_left _ (List.mem_of_getElem? (i := 0) rfl))))) (fun _ h9 => h9) rfl dX12_stokeIt_12 ?_
  refine lv_bipush (v := 19) hx hb dX12_stokeIt_15 (by decide) ?_
  refine lv_iload_n hx hb dX12_stokeIt_17 rfl (lv_at hl 1 rfl) ?_
  refine lv_iadd hx hb dX12_stokeIt_18 ?_
  refine lv_topi (fun x_24 ex_24 => ?_)
  have hx_24 : x_24.toInt = (19 + x.toInt) := by rw [ex_24]; exact i_add (show (19 : Int32).toInt = 19 from rfl) rfl (by omega)
  refine lv_dup2_11 hx hb dX12_stokeIt_19 rfl rfl ?_
  refine va_iald hx hb hK hP 1 0 rfl rfl (i_in hx_24 (by omega)) dX12_stokeIt_20 ?_
  refine lv_topi (fun x_25 ex_25 => ?_)
  have px_25 := RowOK.at k_23 hx_24 (show 0 ≤ (19 + x.toInt) ∧ (19 + x.toInt) < 100 by omega)
  rw [← ex_25] at px_25
  refine lv_iconst (v := 1) hx hb dX12_stokeIt_21 (by decide) ?_
  refine lv_isub hx hb dX12_stokeIt_22 ?_
  refine lv_topi (fun x_26 ex_26 => ?_)
  refine va_iast hx hb hK hP hD hS 1 0 rfl rfl (i_in hx_24 (by omega)) dX12_stokeIt_23 (fun H locs hP hD hS => ?_)
  generalize hf_27 : (upd (u_21.2.1 0) (x_24 : Int32).toNatClampNeg x_26) = f_27 at hP hD
  have hf_27_0 : RowOK f_27 := by rw [← hf_27]; exact RowOK.upd k_23 hx_24 (by omega) rfl (PR.free (by omega))
  have hP : va_P D vwCl [(m0, .inr (12, [m_0, m_1, m_2, .ref w0, m_4, m_5, m_6, m_7, m_8, m_9, m_10, m_11, m_12, m_13, m_14, m_15, m_16, m_17, m_18, m_19, .int 0, m_21, m_22, m_23, m_24, m_25, m_26, m_27, m_28, m_29, m_30, m_31, m_32, m_33, .int (u_21.2.2.2.1 0), .ref e0, m_36, .ref q0, .int (u_21.2.2.2.1 1), .long (u_21.2.2.2.2.1 0), .long (u_21.2.2.2.2.1 1), m_41, m_42, m_43, m_44, m_45, m_46, m_47, m_48, m_49, m_50, m_51, m_52, m_53, m_54, m_55, m_56, m_57, m_58, m_59])), (w0, .inl (K 0, 5500, .inl f_27)), (e0, .inl (K 2, 13, .inr (.inl (u_21.2.2.1 0)))), (q0, .inl (K 2, 400, .inr (.inl (u_21.2.2.1 1))))] H := hP
  have hD : va_D A [(m0, .inr (12, [m_0, m_1, m_2, .ref w0, m_4, m_5, m_6, m_7, m_8, m_9, m_10, m_11, m_12, m_13, m_14, m_15, m_16, m_17, m_18, m_19, .int 0, m_21, m_22, m_23, m_24, m_25, m_26, m_27, m_28, m_29, m_30, m_31, m_32, m_33, .int (u_21.2.2.2.1 0), .ref e0, m_36, .ref q0, .int (u_21.2.2.2.1 1), .long (u_21.2.2.2.2.1 0), .long (u_21.2.2.2.2.1 1), m_41, m_42, m_43, m_44, m_45, m_46, m_47, m_48, m_49, m_50, m_51, m_52, m_53, m_54, m_55, m_56, m_57, m_58, m_59])), (w0, .inl (K 0, 5500, .inl f_27)), (e0, .inl (K 2, 13, .inr (.inl (u_21.2.2.1 0)))), (q0, .inl (K 2, 400, .inr (.inl (u_21.2.2.1 1))))] := hD
  subst hQ
  have hP9 := hP.sub (ws' := [(m0, .inr (12, [m_0, m_1, m_2, .ref w0, m_4, m_5, m_6, m_7, m_8, m_9, m_10, m_11, m_12, m_13, m_14, m_15, m_16, m_17, m_18, m_19, .int 0, m_21, m_22, m_23, m_24, m_25, m_26, m_27, m_28, m_29, m_30, m_31, m_32, m_33, .int (u_21.2.2.2.1 0), .ref e0, m_36, .ref q0, .int (u_21.2.2.2.1 1), .long (u_21.2.2.2.2.1 0), .long (u_21.2.2.2.2.1 1), m_41, m_42, m_43, m_44, m_45, m_46, m_47, m_48, m_49, m_50, m_51, m_52, m_53, m_54, m_55, m_56, m_57, m_58, m_59])), (w0, .inl (K 0, 5500, .inl f_27)), (e0, .inl (K 2, 13, .inr (.inl (u_21.2.2.1 0)))), (q0, .inl (K 2, 400, .inr (.inl (u_21.2.2.1 1))))]) [0, 1, 2, 3] rfl
  have hD9 := hD.sub (ws' := [(m0, .inr (12, [m_0, m_1, m_2, .ref w0, m_4, m_5, m_6, m_7, m_8, m_9, m_10, m_11, m_12, m_13, m_14, m_15, m_16, m_17, m_18, m_19, .int 0, m_21, m_22, m_23, m_24, m_25, m_26, m_27, m_28, m_29, m_30, m_31, m_32, m_33, .int (u_21.2.2.2.1 0), .ref e0, m_36, .ref q0, .int (u_21.2.2.2.1 1), .long (u_21.2.2.2.2.1 0), .long (u_21.2.2.2.2.1 1), m_41, m_42, m_43, m_44, m_45, m_46, m_47, m_48, m_49, m_50, m_51, m_52, m_53, m_54, m_55, m_56, m_57, m_58, m_59])), (w0, .inl (K 0, 5500, .inl f_27)), (e0, .inl (K 2, 13, .inr (.inl (u_21.2.2.1 0)))), (q0, .inl (K 2, 400, .inr (.inl (u_21.2.2.1 1))))]) [0, 1, 2, 3] (by decide) rfl
  exact W.vret hx hb hr (fun t ht hW => ⟨⟨((fun _ => 0, fun i => match i with | _ => f_27, fun i => match i with | 0 => (u_21.2.2.1 0) | _ => (u_21.2.2.1 1), fun i => match i with | 0 => (u_21.2.2.2.1 0) | _ => (u_21.2.2.2.1 1), fun i => match i with | 0 => (u_21.2.2.2.2.1 0) | _ => (u_21.2.2.2.2.1 1), fun _ => fun _ => none) : Su), rfl, ⟨(show 0 ≤ ((u_21.2.2.2.1 1) : Int32).toInt ∧ ((u_21.2.2.2.1 1) : Int32).toInt ≤ 1 by omega), hf_27_0, trivial⟩, (⟨by rw [ht]; exact hP9, hD9⟩ : Wd D A _ t)⟩, hS.F ht⟩) hS.2.2 dX12_stokeIt_24
set_option maxHeartbeats 4000000 in
set_option maxRecDepth 100000 in
theorem v_stokeNow (l : Launch) (D : va_G) (K : Nat → ClassId) (m0 : Nat) (x : Int32) (m_0 : Value) (m_1 : Value) (m_2 : Value) (w0 : Nat) (m_4 : Value) (m_5 : Value) (u0 : Nat) (s0 : Nat) (nu : Int32) (m_9 : Value) (m_10 : Value) (m_11 : Value) (m_12 : Value) (m_13 : Value) (m_14 : Value) (m_15 : Value) (m_16 : Value) (m_17 : Value) (m_18 : Value) (m_19 : Value) (m_21 : Value) (m_22 : Value) (m_23 : Value) (m_24 : Value) (m_25 : Value) (m_26 : Value) (m_27 : Value) (m_28 : Value) (m_29 : Value) (m_30 : Value) (m_31 : Value) (m_32 : Value) (m_33 : Value) (lw : Int32) (e0 : Nat) (m_36 : Value) (q0 : Nat) (bro : Int32) (val : Int64) (sm : Int64) (m_41 : Value) (m_42 : Value) (m_43 : Value) (m_44 : Value) (m_45 : Value) (m_46 : Value) (m_47 : Value) (m_48 : Value) (m_49 : Value) (m_50 : Value) (m_51 : Value) (m_52 : Value) (m_53 : Value) (m_54 : Value) (m_55 : Value) (m_56 : Value) (m_57 : Value) (m_58 : Value) (m_59 : Value) (fw : Nat → Int32) (fe : Nat → Int64) (fq : Nat → Int64) (fu : Nat → Int32) (fs : Nat → Int32) (sz : Nat) (zbro : 0 ≤ bro.toInt ∧ bro.toInt ≤ 1) (znu : 0 ≤ nu.toInt ∧ nu.toInt ≤ 16) (zfw : RowOK fw) (zfu : Pu 558 fu) (zfs : Rg 16 0 3 fs) : Met l yX12_stokeNow wsX12_stokeNow ({ frames := 7, cells := 0, slots := 0, locals := 167 }) (va_Pc [.ref m0, .int x] (Pre D K [(m0, .inr (12, [m_0, m_1, m_2, .ref w0, m_4, m_5, .ref u0, .ref s0, .int nu, m_9, m_10, m_11, m_12, m_13, m_14, m_15, m_16, m_17, m_18, m_19, .int 0, m_21, m_22, m_23, m_24, m_25, m_26, m_27, m_28, m_29, m_30, m_31, m_32, m_33, .int lw, .ref e0, m_36, .ref q0, .int bro, .long val, .long sm, m_41, m_42, m_43, m_44, m_45, m_46, m_47, m_48, m_49, m_50, m_51, m_52, m_53, m_54, m_55, m_56, m_57, m_58, m_59])), (w0, .inl (K 0, 5500, .inl fw)), (e0, .inl (K 2, 13, .inr (.inl fe))), (q0, .inl (K 2, 400, .inr (.inl fq))), (u0, .inl (K 0, 558, .inl fu)), (s0, .inl (K 0, 16, .inl fs))] sz)) (va_Qi (S := Su) (fun (r : Int32) (u : Su) => ((-3) ≤ r.toInt ∧ r.toInt ≤ 20) ∧ (0 ≤ (u.2.2.2.1 0).toInt ∧ (u.2.2.2.1 0).toInt ≤ 16) ∧ (0 ≤ (u.2.2.2.1 2).toInt ∧ (u.2.2.2.1 2).toInt ≤ 1) ∧ (RowOK (u.2.1 0)) ∧ (Pu 558 (u.2.1 1)) ∧ (Rg 16 0 3 (u.2.1 2)) ∧ True) (fun u t => Wd D (va_A [(m0, .inr (12, [m_0, m_1, m_2, .ref w0, m_4, m_5, .ref u0, .ref s0, .int nu, m_9, m_10, m_11, m_12, m_13, m_14, m_15, m_16, m_17, m_18, m_19, .int 0, m_21, m_22, m_23, m_24, m_25, m_26, m_27, m_28, m_29, m_30, m_31, m_32, m_33, .int lw, .ref e0, m_36, .ref q0, .int bro, .long val, .long sm, m_41, m_42, m_43, m_44, m_45, m_46, m_47, m_48, m_49, m_50, m_51, m_52, m_53, m_54, m_55, m_56, m_57, m_58, m_59])), (w0, .inl (K 0, 5500, .inl fw)), (e0, .inl (K 2, 13, .inr (.inl fe))), (q0, .inl (K 2, 400, .inr (.inl fq))), (u0, .inl (K 0, 558, .inl fu)), (s0, .inl (K 0, 16, .inl fs))] sz) ((fun u => [(m0, .inr (12, [m_0, m_1, m_2, .ref w0, m_4, m_5, .ref u0, .ref s0, .int (u.2.2.2.1 0), m_9, m_10, m_11, m_12, m_13, m_14, m_15, m_16, m_17, m_18, m_19, .int 0, m_21, m_22, m_23, m_24, m_25, m_26, m_27, m_28, m_29, m_30, m_31, m_32, m_33, .int (u.2.2.2.1 1), .ref e0, m_36, .ref q0, .int (u.2.2.2.1 2), .long (u.2.2.2.2.1 0), .long (u.2.2.2.2.1 1), m_41, m_42, m_43, m_44, m_45, m_46, m_47, m_48, m_49, m_50, m_51, m_52, m_53, m_54, m_55, m_56, m_57, m_58, m_59])), (w0, .inl (K 0, 5500, .inl (u.2.1 0))), (e0, .inl (K 2, 13, .inr (.inl (u.2.2.1 0)))), (q0, .inl (K 2, 400, .inr (.inl (u.2.2.1 1)))), (u0, .inl (K 0, 558, .inl (u.2.1 1))), (s0, .inl (K 0, 16, .inl (u.2.1 2)))]) u) t) (va_A [(m0, .inr (12, [m_0, m_1, m_2, .ref w0, m_4, m_5, .ref u0, .ref s0, .int nu, m_9, m_10, m_11, m_12, m_13, m_14, m_15, m_16, m_17, m_18, m_19, .int 0, m_21, m_22, m_23, m_24, m_25, m_26, m_27, m_28, m_29, m_30, m_31, m_32, m_33, .int lw, .ref e0, m_36, .ref q0, .int bro, .long val, .long sm, m_41, m_42, m_43, m_44, m_45, m_46, m_47, m_48, m_49, m_50, m_51, m_52, m_53, m_54, m_55, m_56, m_57, m_58, m_59])), (w0, .inl (K 0, 5500, .inl fw)), (e0, .inl (K 2, 13, .inr (.inl fe))), (q0, .inl (K 2, 400, .inr (.inl fq))), (u0, .inl (K 0, 558, .inl fu)), (s0, .inl (K 0, 16, .inl fs))] sz)) 0 0 (va_A [(m0, .inr (12, [m_0, m_1, m_2, .ref w0, m_4, m_5, .ref u0, .ref s0, .int nu, m_9, m_10, m_11, m_12, m_13, m_14, m_15, m_16, m_17, m_18, m_19, .int 0, m_21, m_22, m_23, m_24, m_25, m_26, m_27, m_28, m_29, m_30, m_31, m_32, m_33, .int lw, .ref e0, m_36, .ref q0, .int bro, .long val, .long sm, m_41, m_42, m_43, m_44, m_45, m_46, m_47, m_48, m_49, m_50, m_51, m_52, m_53, m_54, m_55, m_56, m_57, m_58, m_59])), (w0, .inl (K 0, 5500, .inl fw)), (e0, .inl (K 2, 13, .inr (.inl fe))), (q0, .inl (K 2, 400, .inr (.inl fq))), (u0, .inl (K 0, 558, .inl fu)), (s0, .inl (K 0, 16, .inl fs))] sz) := by
  refine Met.ofW (cc := cX12_stokeNow) (maxL := 2) (ret := (some .int)) (by decide) rfl ?_
  intro p e s m args below meth c s₁ B hml hv
  obtain ⟨rfl, hsz, hP, hK, hD0, hN⟩ := hv
  have hx := B.exec
  have hb := B.bytes
  have hr := B.returns
  have hts := atoms_spec (ws := wsX12_stokeNow) B.pre
  have hown : s.vm.findClass RX12 = some m.cls := findClass_of_methodNamed B.named
  have hlocks := B.notSynchronized
  subst hsz
  have hD := hD0.self (sz := s.heap.size)
  generalize hAe : va_A [(m0, .inr (12, [m_0, m_1, m_2, .ref w0, m_4, m_5, .ref u0, .ref s0, .int nu, m_9, m_10, m_11, m_12, m_13, m_14, m_15, m_16, m_17, m_18, m_19, .int 0, m_21, m_22, m_23, m_24, m_25, m_26, m_27, m_28, m_29, m_30, m_31, m_32, m_33, .int lw, .ref e0, m_36, .ref q0, .int bro, .long val, .long sm, m_41, m_42, m_43, m_44, m_45, m_46, m_47, m_48, m_49, m_50, m_51, m_52, m_53, m_54, m_55, m_56, m_57, m_58, m_59])), (w0, .inl (K 0, 5500, .inl fw)), (e0, .inl (K 2, 13, .inr (.inl fe))), (q0, .inl (K 2, 400, .inr (.inl fq))), (u0, .inl (K 0, 558, .inl fu)), (s0, .inl (K 0, 16, .inl fs))] s.heap.size = A at hD ⊢
  have hA : ∀ q : Nat, s.heap.size ≤ q → A q := fun q h => by rw [← hAe]; exact Or.inr h
  have hS : va_S A s.heap s.heap [] := va_S.rf
  have hP : va_P D vwCl [(m0, .inr (12, [m_0, m_1, m_2, .ref w0, m_4, m_5, .ref u0, .ref s0, .int nu, m_9, m_10, m_11, m_12, m_13, m_14, m_15, m_16, m_17, m_18, m_19, .int 0, m_21, m_22, m_23, m_24, m_25, m_26, m_27, m_28, m_29, m_30, m_31, m_32, m_33, .int lw, .ref e0, m_36, .ref q0, .int bro, .long val, .long sm, m_41, m_42, m_43, m_44, m_45, m_46, m_47, m_48, m_49, m_50, m_51, m_52, m_53, m_54, m_55, m_56, m_57, m_58, m_59])), (w0, .inl (K 0, 5500, .inl fw)), (e0, .inl (K 2, 13, .inr (.inl fe))), (q0, .inl (K 2, 400, .inr (.inl fq))), (u0, .inl (K 0, 558, .inl fu)), (s0, .inl (K 0, 16, .inl fs))] s.heap := hP
  have hl := lv_entry [.ref m0, .int x] (n := 2) (Nat.le_of_ble_eq_true rfl)
  rw [lg_entry_eq]
  generalize (lg_sl [.ref m0, .int x] ++ List.replicate (2 - (lg_sl [.ref m0, .int x]).length) Slot.unset).toArray = ls at hl ⊢
  have hl : lv_has ls 2 [(0, .ref m0), (1, .int x)] := hl
  have hw12 : ∀ w ∈ wsX120, w ∈ wsX12_stokeNow := fun w h => (List.mem_cons_of_mem _ (List.mem_append_right _ h))
  generalize hQ : MQ below _ _ s _ _ _ = Q
  refine lv_aload_n hx hb dX12_stokeNow_0 rfl (lv_at hl 0 rfl) ?_
  refine lv_iload_n hx hb dX12_stokeNow_1 rfl (lv_at hl 1 rfl) ?_
  refine pci (va_runV (As := [.int x]) (rest := []) ⟨hx, hb, hml, hown, hts⟩ (v_isHouse l D K x.toInt m0 x m_0 m_1 m_2 w0 m_4 m_5 (.ref u0) (.ref s0) (.int nu) m_9 m_10 m_11 m_12 m_13 m_14 m_15 m_16 m_17 m_18 m_19 (.int 0) m_21 m_22 m_23 m_24 m_25 m_26 m_27 m_28 m_29 m_30 m_31 m_32 m_33 (.int lw) (.ref e0) m_36 (.ref q0) (.int bro) (.long val) (.long sm) m_41 m_42 m_43 m_44 m_45 m_46 m_47 m_48 m_49 m_50 m_51 m_52 m_53 m_54 m_55 m_56 m_57 m_58 m_59 fw s.heap.size rfl zfw) (cwV 1 hts gX12_stokeNow_X12_isHouse rfl rfl rfl (by decide +kernel) ⟨Nat.le_of_ble_eq_true rfl, Nat.le_of_ble_eq_true rfl⟩) (mkV hK hN (hP.sub [0, 1] rfl) (hD.sub [0, 1] (by decide) rfl) (ci := 12) (q0 := 0) rfl rfl) rfl rfl hl.1 rfl (lv_room (Nat.le_of_ble_eq_true rfl)) dX12_stokeNow_2 ⟨Nat.le_of_ble_eq_true rfl, Nat.le_of_ble_eq_true rfl⟩) (fun r_43 hw => ?_)
  obtain ⟨hw, -⟩ := hw
  rcases hw with ⟨rfl, h_44, h_45⟩ | rfl
  · refine lv_if_ne (tgt := 11) hx hb dX12_stokeNow_5 (by decide) (fun c_46 => ?_) (fun c_46 => absurd c_46 (by decide))
    refine lv_aload_n hx hb dX12_stokeNow_11 rfl (lv_at hl 0 rfl) ?_
    refine lv_iload_n hx hb dX12_stokeNow_12 rfl (lv_at hl 1 rfl) ?_
    refine kci (S := Su) (wr := [(u0, .inl (K 0, 558, .inl fu)), (s0, .inl (K 0, 16, .inl fs))]) (va_runV (As := [.int x]) (rest := []) ⟨hx, hb, hml, hown, hts⟩ (v_canStoke l D K m0 x m_0 m_1 m_2 w0 m_4 m_5 (.ref u0) (.ref s0) (.int nu) m_9 m_10 m_11 m_12 m_13 m_14 m_15 m_16 m_17 m_18 m_19 m_21 m_22 m_23 m_24 m_25 m_26 m_27 m_28 m_29 m_30 m_31 m_32 m_33 lw e0 m_36 q0 bro val sm m_41 m_42 m_43 m_44 m_45 m_46 m_47 m_48 m_49 m_50 m_51 m_52 m_53 m_54 m_55 m_56 m_57 m_58 m_59 fw fe fq s.heap.size (by first | omega | decide) (by first | omega | decide) zfw) (cwV 1 hts gX12_stokeNow_X12_canStoke rfl rfl rfl (by decide +kernel) ⟨Nat.le_of_ble_eq_true rfl, Nat.le_of_ble_eq_true rfl⟩) (mkV hK hN (hP.sub [0, 1, 2, 3] rfl) (hD.sub [0, 1, 2, 3] (by decide) rfl) (ci := 12) (q0 := 0) rfl rfl) rfl rfl hl.1 rfl (lv_room (Nat.le_of_ble_eq_true rfl)) dX12_stokeNow_13 ⟨Nat.le_of_ble_eq_true rfl, Nat.le_of_ble_eq_true rfl⟩) hP hD hS hA [0, 1, 2, 3] [4, 5] rfl rfl (by decide) (by decide) (fun r_47 u_48 H locs hw hP hD hS => ?_)
    have hP : va_P D vwCl [(u0, .inl (K 0, 558, .inl fu)), (s0, .inl (K 0, 16, .inl fs)), (m0, .inr (12, [m_0, m_1, m_2, .ref w0, m_4, m_5, .ref u0, .ref s0, .int nu, m_9, m_10, m_11, m_12, m_13, m_14, m_15, m_16, m_17, m_18, m_19, .int 0, m_21, m_22, m_23, m_24, m_25, m_26, m_27, m_28, m_29, m_30, m_31, m_32, m_33, .int (u_48.2.2.2.1 0), .ref e0, m_36, .ref q0, .int (u_48.2.2.2.1 1), .long (u_48.2.2.2.2.1 0), .long (u_48.2.2.2.2.1 1), m_41, m_42, m_43, m_44, m_45, m_46, m_47, m_48, m_49, m_50, m_51, m_52, m_53, m_54, m_55, m_56, m_57, m_58, m_59])), (w0, .inl (K 0, 5500, .inl fw)), (e0, .inl (K 2, 13, .inr (.inl (u_48.2.2.1 0)))), (q0, .inl (K 2, 400, .inr (.inl (u_48.2.2.1 1))))] H := hP
    have hD : va_D A [(u0, .inl (K 0, 558, .inl fu)), (s0, .inl (K 0, 16, .inl fs)), (m0, .inr (12, [m_0, m_1, m_2, .ref w0, m_4, m_5, .ref u0, .ref s0, .int nu, m_9, m_10, m_11, m_12, m_13, m_14, m_15, m_16, m_17, m_18, m_19, .int 0, m_21, m_22, m_23, m_24, m_25, m_26, m_27, m_28, m_29, m_30, m_31, m_32, m_33, .int (u_48.2.2.2.1 0), .ref e0, m_36, .ref q0, .int (u_48.2.2.2.1 1), .long (u_48.2.2.2.2.1 0), .long (u_48.2.2.2.2.1 1), m_41, m_42, m_43, m_44, m_45, m_46, m_47, m_48, m_49, m_50, m_51, m_52, m_53, m_54, m_55, m_56, m_57, m_58, m_59])), (w0, .inl (K 0, 5500, .inl fw)), (e0, .inl (K 2, 13, .inr (.inl (u_48.2.2.1 0)))), (q0, .inl (K 2, 400, .inr (.inl (u_48.2.2.1 1))))] := hD
    obtain ⟨h_50, k_49, -⟩ := hw
    refine lv_if_ne (tgt := 22) hx hb dX12_stokeNow_16 (by decide) (fun c_51 => ?_) (fun c_51 => ?_)
    · have c_51i := i_ne (x := r_47.toInt) (y := 0) rfl rfl c_51
      refine lv_aload_n hx hb dX12_stokeNow_22 rfl (lv_at hl 0 rfl) ?_
      refine lv_iconst (v := 0) hx hb dX12_stokeNow_23 (by decide) ?_
      refine kcv (S := Su) (wr := [(e0, .inl (K 2, 13, .inr (.inl (u_48.2.2.1 0)))), (q0, .inl (K 2, 400, .inr (.inl (u_48.2.2.1 1))))]) (va_runV (As := [.int 0]) (rest := []) ⟨hx, hb, hml, hown, hts⟩ (v_remember l D K m0 0 m_0 m_1 m_2 w0 m_4 m_5 u0 s0 nu m_9 m_10 m_11 m_12 m_13 m_14 m_15 m_16 m_17 m_18 m_19 (.int 0) m_21 m_22 m_23 m_24 m_25 m_26 m_27 m_28 m_29 m_30 m_31 m_32 m_33 (.int (u_48.2.2.2.1 0)) (.ref e0) m_36 (.ref q0) (.int (u_48.2.2.2.1 1)) (.long (u_48.2.2.2.2.1 0)) (.long (u_48.2.2.2.2.1 1)) m_41 m_42 m_43 m_44 m_45 m_46 m_47 m_48 m_49 m_50 m_51 m_52 m_53 m_54 m_55 m_56 m_57 m_58 m_59 fw fu fs H.size (by first | omega | decide) (by first | omega | decide) zfw zfu zfs) (cwV 1 hts gX12_stokeNow_X12_remember rfl rfl rfl (by decide +kernel) ⟨Nat.le_of_ble_eq_true rfl, Nat.le_of_ble_eq_true rfl⟩) (mkV hK hN (hP.sub [2, 3, 0, 1] rfl) (hD.sub [2, 3, 0, 1] (by decide) rfl) (ci := 12) (q0 := 0) rfl rfl) rfl rfl hl.1 rfl (lv_room (Nat.le_of_ble_eq_true rfl)) dX12_stokeNow_24 ⟨Nat.le_of_ble_eq_true rfl, Nat.le_of_ble_eq_true rfl⟩) hP hD hS hA [2, 3, 0, 1] [4, 5] rfl rfl (by decide) (by decide) (fun u_53 H locs hw hP hD hS => ?_)
      have hP : va_P D vwCl [(e0, .inl (K 2, 13, .inr (.inl (u_48.2.2.1 0)))), (q0, .inl (K 2, 400, .inr (.inl (u_48.2.2.1 1)))), (m0, .inr (12, [m_0, m_1, m_2, .ref w0, m_4, m_5, .ref u0, .ref s0, .int (u_53.2.2.2.1 0), m_9, m_10, m_11, m_12, m_13, m_14, m_15, m_16, m_17, m_18, m_19, .int 0, m_21, m_22, m_23, m_24, m_25, m_26, m_27, m_28, m_29, m_30, m_31, m_32, m_33, .int (u_48.2.2.2.1 0), .ref e0, m_36, .ref q0, .int (u_48.2.2.2.1 1), .long (u_48.2.2.2.2.1 0), .long (u_48.2.2.2.2.1 1), m_41, m_42, m_43, m_44, m_45, m_46, m_47, m_48, m_49, m_50, m_51, m_52, m_53, m_54, m_55, m_56, m_57, m_58, m_59])), (w0, .inl (K 0, 5500, .inl fw)), (u0, .inl (K 0, 558, .inl (u_53.2.1 0))), (s0, .inl (K 0, 16, .inl (u_53.2.1 1)))] H := hP
      have hD : va_D A [(e0, .inl (K 2, 13, .inr (.inl (u_48.2.2.1 0)))), (q0, .inl (K 2, 400, .inr (.inl (u_48.2.2.1 1)))), (m0, .inr (12, [m_0, m_1, m_2, .ref w0, m_4, m_5, .ref u0, .ref s0, .int (u_53.2.2.2.1 0), m_9, m_10, m_11, m_12, m_13, m_14, m_15, m_16, m_17, m_18, m_19, .int 0, m_21, m_22, m_23, m_24, m_25, m_26, m_27, m_28, m_29, m_30, m_31, m_32, m_33, .int (u_48.2.2.2.1 0), .ref e0, m_36, .ref q0, .int (u_48.2.2.2.1 1), .long (u_48.2.2.2.2.1 0), .long (u_48.2.2.2.2.1 1), m_41, m_42, m_43, m_44, m_45, m_46, m_47, m_48, m_49, m_50, m_51, m_52, m_53, m_54, m_55, m_56, m_57, m_58, m_59])), (w0, .inl (K 0, 5500, .inl fw)), (u0, .inl (K 0, 558, .inl (u_53.2.1 0))), (s0, .inl (K 0, 16, .inl (u_53.2.1 1)))] := hD
      obtain ⟨k_54, k_55, k_56, -⟩ := hw
      refine lv_aload_n hx hb dX12_stokeNow_27 rfl (lv_at hl 0 rfl) ?_
      refine lv_iload_n hx hb dX12_stokeNow_28 rfl (lv_at hl 1 rfl) ?_
      refine kcv (S := Su) (wr := [(u0, .inl (K 0, 558, .inl (u_53.2.1 0))), (s0, .inl (K 0, 16, .inl (u_53.2.1 1)))]) (va_runV (As := [.int x]) (rest := []) ⟨hx, hb, hml, hown, hts⟩ (v_stokeIt l D K m0 x m_0 m_1 m_2 w0 m_4 m_5 (.ref u0) (.ref s0) (.int (u_53.2.2.2.1 0)) m_9 m_10 m_11 m_12 m_13 m_14 m_15 m_16 m_17 m_18 m_19 m_21 m_22 m_23 m_24 m_25 m_26 m_27 m_28 m_29 m_30 m_31 m_32 m_33 (u_48.2.2.2.1 0) e0 m_36 q0 (u_48.2.2.2.1 1) (u_48.2.2.2.2.1 0) (u_48.2.2.2.2.1 1) m_41 m_42 m_43 m_44 m_45 m_46 m_47 m_48 m_49 m_50 m_51 m_52 m_53 m_54 m_55 m_56 m_57 m_58 m_59 fw (u_48.2.2.1 0) (u_48.2.2.1 1) H.size (by first | omega | decide) (by first | omega | decide) zfw) (cwV 1 hts gX12_stokeNow_X12_stokeIt rfl rfl rfl (by decide +kernel) ⟨Nat.le_of_ble_eq_true rfl, Nat.le_of_ble_eq_true rfl⟩) (mkV hK hN (hP.sub [2, 3, 0, 1] rfl) (hD.sub [2, 3, 0, 1] (by decide) rfl) (ci := 12) (q0 := 0) rfl rfl) rfl rfl hl.1 rfl (lv_room (Nat.le_of_ble_eq_true rfl)) dX12_stokeNow_29 ⟨Nat.le_of_ble_eq_true rfl, Nat.le_of_ble_eq_true rfl⟩) hP hD hS hA [2, 3, 0, 1] [4, 5] rfl rfl (by decide) (by decide) (fun u_58 H locs hw hP hD hS => ?_)
      have hP : va_P D vwCl [(u0, .inl (K 0, 558, .inl (u_53.2.1 0))), (s0, .inl (K 0, 16, .inl (u_53.2.1 1))), (m0, .inr (12, [m_0, m_1, m_2, .ref w0, m_4, m_5, .ref u0, .ref s0, .int (u_53.2.2.2.1 0), m_9, m_10, m_11, m_12, m_13, m_14, m_15, m_16, m_17, m_18, m_19, .int 0, m_21, m_22, m_23, m_24, m_25, m_26, m_27, m_28, m_29, m_30, m_31, m_32, m_33, .int (u_58.2.2.2.1 0), .ref e0, m_36, .ref q0, .int (u_58.2.2.2.1 1), .long (u_58.2.2.2.2.1 0), .long (u_58.2.2.2.2.1 1), m_41, m_42, m_43, m_44, m_45, m_46, m_47, m_48, m_49, m_50, m_51, m_52, m_53, m_54, m_55, m_56, m_57, m_58, m_59])), (w0, .inl (K 0, 5500, .inl (u_58.2.1 0))), (e0, .inl (K 2, 13, .inr (.inl (u_58.2.2.1 0)))), (q0, .inl (K 2, 400, .inr (.inl (u_58.2.2.1 1))))] H := hP
      have hD : va_D A [(u0, .inl (K 0, 558, .inl (u_53.2.1 0))), (s0, .inl (K 0, 16, .inl (u_53.2.1 1))), (m0, .inr (12, [m_0, m_1, m_2, .ref w0, m_4, m_5, .ref u0, .ref s0, .int (u_53.2.2.2.1 0), m_9, m_10, m_11, m_12, m_13, m_14, m_15, m_16, m_17, m_18, m_19, .int 0, m_21, m_22, m_23, m_24, m_25, m_26, m_27, m_28, m_29, m_30, m_31, m_32, m_33, .int (u_58.2.2.2.1 0), .ref e0, m_36, .ref q0, .int (u_58.2.2.2.1 1), .long (u_58.2.2.2.2.1 0), .long (u_58.2.2.2.2.1 1), m_41, m_42, m_43, m_44, m_45, m_46, m_47, m_48, m_49, m_50, m_51, m_52, m_53, m_54, m_55, m_56, m_57, m_58, m_59])), (w0, .inl (K 0, 5500, .inl (u_58.2.1 0))), (e0, .inl (K 2, 13, .inr (.inl (u_58.2.2.1 0)))), (q0, .inl (K 2, 400, .inr (.inl (u_58.2.2.1 1))))] := hD
      obtain ⟨k_59, k_60, -⟩ := hw
      refine lv_aload_n hx hb dX12_stokeNow_32 rfl (lv_at hl 0 rfl) ?_
      refine va_get (ci := 12) (v := .ref w0) (C := RX12) (T := TX12) (N := 60) hx hb hts hw12 hown hK hP 2 rfl rfl 3 (by decide) (hts (.fieldLink RX12 13 "SmokeTuneModel" "row" "[I") (List.mem_cons_of_mem _ (List.mem_append_left _ (List.mem_append_left _ (List.mem_of_getElem? (i := 0) rfl))))) (fun _ h9 => h9) rfl dX12_stokeNow_33 ?_
      refine lv_bipush (v := 11) hx hb dX12_stokeNow_36 (by decide) ?_
      refine lv_iload_n hx hb dX12_stokeNow_38 rfl (lv_at hl 1 rfl) ?_
      refine lv_iadd hx hb dX12_stokeNow_39 ?_
      refine lv_topi (fun x_61 ex_61 => ?_)
      have hx_61 : x_61.toInt = (11 + x.toInt) := by rw [ex_61]; exact i_add (show (11 : Int32).toInt = 11 from rfl) rfl (by omega)
      refine va_iald hx hb hK hP 3 0 rfl rfl (i_in hx_61 (by omega)) dX12_stokeNow_40 ?_
      refine lv_topi (fun x_62 ex_62 => ?_)
      have px_62 := RowOK.at k_60 hx_61 (show 0 ≤ (11 + x.toInt) ∧ (11 + x.toInt) < 100 by omega)
      rw [← ex_62] at px_62
      have hx_62 := PR.r_11 px_62 (by omega)
      subst hQ
      have hP9 := hP.sub (ws' := [(m0, .inr (12, [m_0, m_1, m_2, .ref w0, m_4, m_5, .ref u0, .ref s0, .int (u_53.2.2.2.1 0), m_9, m_10, m_11, m_12, m_13, m_14, m_15, m_16, m_17, m_18, m_19, .int 0, m_21, m_22, m_23, m_24, m_25, m_26, m_27, m_28, m_29, m_30, m_31, m_32, m_33, .int (u_58.2.2.2.1 0), .ref e0, m_36, .ref q0, .int (u_58.2.2.2.1 1), .long (u_58.2.2.2.2.1 0), .long (u_58.2.2.2.2.1 1), m_41, m_42, m_43, m_44, m_45, m_46, m_47, m_48, m_49, m_50, m_51, m_52, m_53, m_54, m_55, m_56, m_57, m_58, m_59])), (w0, .inl (K 0, 5500, .inl (u_58.2.1 0))), (e0, .inl (K 2, 13, .inr (.inl (u_58.2.2.1 0)))), (q0, .inl (K 2, 400, .inr (.inl (u_58.2.2.1 1)))), (u0, .inl (K 0, 558, .inl (u_53.2.1 0))), (s0, .inl (K 0, 16, .inl (u_53.2.1 1)))]) [2, 3, 4, 5, 0, 1] rfl
      have hD9 := hD.sub (ws' := [(m0, .inr (12, [m_0, m_1, m_2, .ref w0, m_4, m_5, .ref u0, .ref s0, .int (u_53.2.2.2.1 0), m_9, m_10, m_11, m_12, m_13, m_14, m_15, m_16, m_17, m_18, m_19, .int 0, m_21, m_22, m_23, m_24, m_25, m_26, m_27, m_28, m_29, m_30, m_31, m_32, m_33, .int (u_58.2.2.2.1 0), .ref e0, m_36, .ref q0, .int (u_58.2.2.2.1 1), .long (u_58.2.2.2.2.1 0), .long (u_58.2.2.2.2.1 1), m_41, m_42, m_43, m_44, m_45, m_46, m_47, m_48, m_49, m_50, m_51, m_52, m_53, m_54, m_55, m_56, m_57, m_58, m_59])), (w0, .inl (K 0, 5500, .inl (u_58.2.1 0))), (e0, .inl (K 2, 13, .inr (.inl (u_58.2.2.1 0)))), (q0, .inl (K 2, 400, .inr (.inl (u_58.2.2.1 1)))), (u0, .inl (K 0, 558, .inl (u_53.2.1 0))), (s0, .inl (K 0, 16, .inl (u_53.2.1 1)))]) [2, 3, 4, 5, 0, 1] (by decide) rfl
      exact W.iret (v := x_62) hx hb hr (fun t ht hW => ⟨⟨x_62, ((fun _ => 0, fun i => match i with | 0 => (u_58.2.1 0) | 1 => (u_53.2.1 0) | _ => (u_53.2.1 1), fun i => match i with | 0 => (u_58.2.2.1 0) | _ => (u_58.2.2.1 1), fun i => match i with | 0 => (u_53.2.2.2.1 0) | 1 => (u_58.2.2.2.1 0) | _ => (u_58.2.2.2.1 1), fun i => match i with | 0 => (u_58.2.2.2.2.1 0) | _ => (u_58.2.2.2.2.1 1), fun _ => fun _ => none) : Su), rfl, ⟨(show (-3) ≤ x_62.toInt ∧ x_62.toInt ≤ 20 by omega), (show 0 ≤ ((u_53.2.2.2.1 0) : Int32).toInt ∧ ((u_53.2.2.2.1 0) : Int32).toInt ≤ 16 by omega), (show 0 ≤ ((u_58.2.2.2.1 1) : Int32).toInt ∧ ((u_58.2.2.2.1 1) : Int32).toInt ≤ 1 by omega), k_60, k_55, k_56, trivial⟩, (⟨by rw [ht]; exact hP9, hD9⟩ : Wd D A _ t)⟩, hS.F ht⟩) hS.2.2 dX12_stokeNow_41
    · have c_51i := i_eq (x := r_47.toInt) (y := 0) rfl rfl c_51
      refine lv_bipush (v := (-3)) hx hb dX12_stokeNow_19 (by decide) ?_
      subst hQ
      have hP9 := hP.sub (ws' := [(m0, .inr (12, [m_0, m_1, m_2, .ref w0, m_4, m_5, .ref u0, .ref s0, .int nu, m_9, m_10, m_11, m_12, m_13, m_14, m_15, m_16, m_17, m_18, m_19, .int 0, m_21, m_22, m_23, m_24, m_25, m_26, m_27, m_28, m_29, m_30, m_31, m_32, m_33, .int (u_48.2.2.2.1 0), .ref e0, m_36, .ref q0, .int (u_48.2.2.2.1 1), .long (u_48.2.2.2.2.1 0), .long (u_48.2.2.2.2.1 1), m_41, m_42, m_43, m_44, m_45, m_46, m_47, m_48, m_49, m_50, m_51, m_52, m_53, m_54, m_55, m_56, m_57, m_58, m_59])), (w0, .inl (K 0, 5500, .inl fw)), (e0, .inl (K 2, 13, .inr (.inl (u_48.2.2.1 0)))), (q0, .inl (K 2, 400, .inr (.inl (u_48.2.2.1 1)))), (u0, .inl (K 0, 558, .inl fu)), (s0, .inl (K 0, 16, .inl fs))]) [2, 3, 4, 5, 0, 1] rfl
      have hD9 := hD.sub (ws' := [(m0, .inr (12, [m_0, m_1, m_2, .ref w0, m_4, m_5, .ref u0, .ref s0, .int nu, m_9, m_10, m_11, m_12, m_13, m_14, m_15, m_16, m_17, m_18, m_19, .int 0, m_21, m_22, m_23, m_24, m_25, m_26, m_27, m_28, m_29, m_30, m_31, m_32, m_33, .int (u_48.2.2.2.1 0), .ref e0, m_36, .ref q0, .int (u_48.2.2.2.1 1), .long (u_48.2.2.2.2.1 0), .long (u_48.2.2.2.2.1 1), m_41, m_42, m_43, m_44, m_45, m_46, m_47, m_48, m_49, m_50, m_51, m_52, m_53, m_54, m_55, m_56, m_57, m_58, m_59])), (w0, .inl (K 0, 5500, .inl fw)), (e0, .inl (K 2, 13, .inr (.inl (u_48.2.2.1 0)))), (q0, .inl (K 2, 400, .inr (.inl (u_48.2.2.1 1)))), (u0, .inl (K 0, 558, .inl fu)), (s0, .inl (K 0, 16, .inl fs))]) [2, 3, 4, 5, 0, 1] (by decide) rfl
      exact W.iret (v := (-3)) hx hb hr (fun t ht hW => ⟨⟨(-3), ((fun _ => 0, fun i => match i with | 0 => fw | 1 => fu | _ => fs, fun i => match i with | 0 => (u_48.2.2.1 0) | _ => (u_48.2.2.1 1), fun i => match i with | 0 => nu | 1 => (u_48.2.2.2.1 0) | _ => (u_48.2.2.2.1 1), fun i => match i with | 0 => (u_48.2.2.2.2.1 0) | _ => (u_48.2.2.2.2.1 1), fun _ => fun _ => none) : Su), rfl, ⟨(show (-3) ≤ ((-3) : Int32).toInt ∧ ((-3) : Int32).toInt ≤ 20 by decide), (show 0 ≤ (nu : Int32).toInt ∧ (nu : Int32).toInt ≤ 16 by omega), (show 0 ≤ ((u_48.2.2.2.1 1) : Int32).toInt ∧ ((u_48.2.2.2.1 1) : Int32).toInt ≤ 1 by omega), zfw, zfu, zfs, trivial⟩, (⟨by rw [ht]; exact hP9, hD9⟩ : Wd D A _ t)⟩, hS.F ht⟩) hS.2.2 dX12_stokeNow_21
  · refine lv_if_ne (tgt := 11) hx hb dX12_stokeNow_5 (by decide) (fun c_63 => absurd (by decide) c_63) (fun c_63 => ?_)
    refine lv_bipush (v := (-2)) hx hb dX12_stokeNow_8 (by decide) ?_
    subst hQ
    have hP9 := hP.sub (ws' := [(m0, .inr (12, [m_0, m_1, m_2, .ref w0, m_4, m_5, .ref u0, .ref s0, .int nu, m_9, m_10, m_11, m_12, m_13, m_14, m_15, m_16, m_17, m_18, m_19, .int 0, m_21, m_22, m_23, m_24, m_25, m_26, m_27, m_28, m_29, m_30, m_31, m_32, m_33, .int lw, .ref e0, m_36, .ref q0, .int bro, .long val, .long sm, m_41, m_42, m_43, m_44, m_45, m_46, m_47, m_48, m_49, m_50, m_51, m_52, m_53, m_54, m_55, m_56, m_57, m_58, m_59])), (w0, .inl (K 0, 5500, .inl fw)), (e0, .inl (K 2, 13, .inr (.inl fe))), (q0, .inl (K 2, 400, .inr (.inl fq))), (u0, .inl (K 0, 558, .inl fu)), (s0, .inl (K 0, 16, .inl fs))]) [0, 1, 2, 3, 4, 5] rfl
    have hD9 := hD.sub (ws' := [(m0, .inr (12, [m_0, m_1, m_2, .ref w0, m_4, m_5, .ref u0, .ref s0, .int nu, m_9, m_10, m_11, m_12, m_13, m_14, m_15, m_16, m_17, m_18, m_19, .int 0, m_21, m_22, m_23, m_24, m_25, m_26, m_27, m_28, m_29, m_30, m_31, m_32, m_33, .int lw, .ref e0, m_36, .ref q0, .int bro, .long val, .long sm, m_41, m_42, m_43, m_44, m_45, m_46, m_47, m_48, m_49, m_50, m_51, m_52, m_53, m_54, m_55, m_56, m_57, m_58, m_59])), (w0, .inl (K 0, 5500, .inl fw)), (e0, .inl (K 2, 13, .inr (.inl fe))), (q0, .inl (K 2, 400, .inr (.inl fq))), (u0, .inl (K 0, 558, .inl fu)), (s0, .inl (K 0, 16, .inl fs))]) [0, 1, 2, 3, 4, 5] (by decide) rfl
    exact W.iret (v := (-2)) hx hb hr (fun t ht hW => ⟨⟨(-2), ((fun _ => 0, fun i => match i with | 0 => fw | 1 => fu | _ => fs, fun i => match i with | 0 => fe | _ => fq, fun i => match i with | 0 => nu | 1 => lw | _ => bro, fun i => match i with | 0 => val | _ => sm, fun _ => fun _ => none) : Su), rfl, ⟨(show (-3) ≤ ((-2) : Int32).toInt ∧ ((-2) : Int32).toInt ≤ 20 by decide), (show 0 ≤ (nu : Int32).toInt ∧ (nu : Int32).toInt ≤ 16 by omega), (show 0 ≤ (bro : Int32).toInt ∧ (bro : Int32).toInt ≤ 1 by omega), zfw, zfu, zfs, trivial⟩, (⟨by rw [ht]; exact hP9, hD9⟩ : Wd D A _ t)⟩, hS.F ht⟩) hS.2.2 dX12_stokeNow_10
set_option maxHeartbeats 4000000 in
set_option maxRecDepth 100000 in
theorem v_dampNow (l : Launch) (D : va_G) (K : Nat → ClassId) (m0 : Nat) (x : Int32) (y : Int32) (m_0 : Value) (m_1 : Value) (m_2 : Value) (w0 : Nat) (m_4 : Value) (m_5 : Value) (u0 : Nat) (s0 : Nat) (nu : Int32) (m_9 : Value) (m_10 : Value) (m_11 : Value) (m_12 : Value) (m_13 : Value) (m_14 : Value) (m_15 : Value) (m_16 : Value) (m_17 : Value) (m_18 : Value) (m_19 : Value) (m_20 : Value) (m_21 : Value) (m_22 : Value) (m_23 : Value) (m_24 : Value) (m_25 : Value) (m_26 : Value) (m_27 : Value) (m_28 : Value) (m_29 : Value) (m_30 : Value) (m_31 : Value) (m_32 : Value) (m_33 : Value) (m_34 : Value) (m_35 : Value) (m_36 : Value) (m_37 : Value) (m_38 : Value) (m_39 : Value) (m_40 : Value) (m_41 : Value) (m_42 : Value) (m_43 : Value) (m_44 : Value) (m_45 : Value) (m_46 : Value) (m_47 : Value) (m_48 : Value) (m_49 : Value) (m_50 : Value) (m_51 : Value) (m_52 : Value) (m_53 : Value) (m_54 : Value) (m_55 : Value) (m_56 : Value) (m_57 : Value) (m_58 : Value) (m_59 : Value) (fw : Nat → Int32) (fu : Nat → Int32) (fs : Nat → Int32) (sz : Nat) (znu : 0 ≤ nu.toInt ∧ nu.toInt ≤ 16) (zfw : RowOK fw) (zfu : Pu 558 fu) (zfs : Rg 16 0 3 fs) : Met l yX12_dampNow wsX12_dampNow ({ frames := 2, cells := 0, slots := 0, locals := 46 }) (va_Pc [.ref m0, .int x, .int y] (Pre D K [(m0, .inr (12, [m_0, m_1, m_2, .ref w0, m_4, m_5, .ref u0, .ref s0, .int nu, m_9, m_10, m_11, m_12, m_13, m_14, m_15, m_16, m_17, m_18, m_19, m_20, m_21, m_22, m_23, m_24, m_25, m_26, m_27, m_28, m_29, m_30, m_31, m_32, m_33, m_34, m_35, m_36, m_37, m_38, m_39, m_40, m_41, m_42, m_43, m_44, m_45, m_46, m_47, m_48, m_49, m_50, m_51, m_52, m_53, m_54, m_55, m_56, m_57, m_58, m_59])), (w0, .inl (K 0, 5500, .inl fw)), (u0, .inl (K 0, 558, .inl fu)), (s0, .inl (K 0, 16, .inl fs))] sz)) (va_Qi (S := Su) (fun (r : Int32) (u : Su) => ((-2) ≤ r.toInt ∧ r.toInt ≤ 20) ∧ (0 ≤ (u.2.2.2.1 0).toInt ∧ (u.2.2.2.1 0).toInt ≤ 16) ∧ (RowOK (u.2.1 0)) ∧ (Pu 558 (u.2.1 1)) ∧ (Rg 16 0 3 (u.2.1 2)) ∧ True) (fun u t => Wd D (va_A [(m0, .inr (12, [m_0, m_1, m_2, .ref w0, m_4, m_5, .ref u0, .ref s0, .int nu, m_9, m_10, m_11, m_12, m_13, m_14, m_15, m_16, m_17, m_18, m_19, m_20, m_21, m_22, m_23, m_24, m_25, m_26, m_27, m_28, m_29, m_30, m_31, m_32, m_33, m_34, m_35, m_36, m_37, m_38, m_39, m_40, m_41, m_42, m_43, m_44, m_45, m_46, m_47, m_48, m_49, m_50, m_51, m_52, m_53, m_54, m_55, m_56, m_57, m_58, m_59])), (w0, .inl (K 0, 5500, .inl fw)), (u0, .inl (K 0, 558, .inl fu)), (s0, .inl (K 0, 16, .inl fs))] sz) ((fun u => [(m0, .inr (12, [m_0, m_1, m_2, .ref w0, m_4, m_5, .ref u0, .ref s0, .int (u.2.2.2.1 0), m_9, m_10, m_11, m_12, m_13, m_14, m_15, m_16, m_17, m_18, m_19, m_20, m_21, m_22, m_23, m_24, m_25, m_26, m_27, m_28, m_29, m_30, m_31, m_32, m_33, m_34, m_35, m_36, m_37, m_38, m_39, m_40, m_41, m_42, m_43, m_44, m_45, m_46, m_47, m_48, m_49, m_50, m_51, m_52, m_53, m_54, m_55, m_56, m_57, m_58, m_59])), (w0, .inl (K 0, 5500, .inl (u.2.1 0))), (u0, .inl (K 0, 558, .inl (u.2.1 1))), (s0, .inl (K 0, 16, .inl (u.2.1 2)))]) u) t) (va_A [(m0, .inr (12, [m_0, m_1, m_2, .ref w0, m_4, m_5, .ref u0, .ref s0, .int nu, m_9, m_10, m_11, m_12, m_13, m_14, m_15, m_16, m_17, m_18, m_19, m_20, m_21, m_22, m_23, m_24, m_25, m_26, m_27, m_28, m_29, m_30, m_31, m_32, m_33, m_34, m_35, m_36, m_37, m_38, m_39, m_40, m_41, m_42, m_43, m_44, m_45, m_46, m_47, m_48, m_49, m_50, m_51, m_52, m_53, m_54, m_55, m_56, m_57, m_58, m_59])), (w0, .inl (K 0, 5500, .inl fw)), (u0, .inl (K 0, 558, .inl fu)), (s0, .inl (K 0, 16, .inl fs))] sz)) 0 0 (va_A [(m0, .inr (12, [m_0, m_1, m_2, .ref w0, m_4, m_5, .ref u0, .ref s0, .int nu, m_9, m_10, m_11, m_12, m_13, m_14, m_15, m_16, m_17, m_18, m_19, m_20, m_21, m_22, m_23, m_24, m_25, m_26, m_27, m_28, m_29, m_30, m_31, m_32, m_33, m_34, m_35, m_36, m_37, m_38, m_39, m_40, m_41, m_42, m_43, m_44, m_45, m_46, m_47, m_48, m_49, m_50, m_51, m_52, m_53, m_54, m_55, m_56, m_57, m_58, m_59])), (w0, .inl (K 0, 5500, .inl fw)), (u0, .inl (K 0, 558, .inl fu)), (s0, .inl (K 0, 16, .inl fs))] sz) := by
  refine Met.ofW (cc := cX12_dampNow) (maxL := 3) (ret := (some .int)) (by decide) rfl ?_
  intro p e s m args below meth c s₁ B hml hv
  obtain ⟨rfl, hsz, hP, hK, hD0, hN⟩ := hv
  have hx := B.exec
  have hb := B.bytes
  have hr := B.returns
  have hts := atoms_spec (ws := wsX12_dampNow) B.pre
  have hown : s.vm.findClass RX12 = some m.cls := findClass_of_methodNamed B.named
  have hlocks := B.notSynchronized
  subst hsz
  have hD := hD0.self (sz := s.heap.size)
  generalize hAe : va_A [(m0, .inr (12, [m_0, m_1, m_2, .ref w0, m_4, m_5, .ref u0, .ref s0, .int nu, m_9, m_10, m_11, m_12, m_13, m_14, m_15, m_16, m_17, m_18, m_19, m_20, m_21, m_22, m_23, m_24, m_25, m_26, m_27, m_28, m_29, m_30, m_31, m_32, m_33, m_34, m_35, m_36, m_37, m_38, m_39, m_40, m_41, m_42, m_43, m_44, m_45, m_46, m_47, m_48, m_49, m_50, m_51, m_52, m_53, m_54, m_55, m_56, m_57, m_58, m_59])), (w0, .inl (K 0, 5500, .inl fw)), (u0, .inl (K 0, 558, .inl fu)), (s0, .inl (K 0, 16, .inl fs))] s.heap.size = A at hD ⊢
  have hA : ∀ q : Nat, s.heap.size ≤ q → A q := fun q h => by rw [← hAe]; exact Or.inr h
  have hS : va_S A s.heap s.heap [] := va_S.rf
  have hP : va_P D vwCl [(m0, .inr (12, [m_0, m_1, m_2, .ref w0, m_4, m_5, .ref u0, .ref s0, .int nu, m_9, m_10, m_11, m_12, m_13, m_14, m_15, m_16, m_17, m_18, m_19, m_20, m_21, m_22, m_23, m_24, m_25, m_26, m_27, m_28, m_29, m_30, m_31, m_32, m_33, m_34, m_35, m_36, m_37, m_38, m_39, m_40, m_41, m_42, m_43, m_44, m_45, m_46, m_47, m_48, m_49, m_50, m_51, m_52, m_53, m_54, m_55, m_56, m_57, m_58, m_59])), (w0, .inl (K 0, 5500, .inl fw)), (u0, .inl (K 0, 558, .inl fu)), (s0, .inl (K 0, 16, .inl fs))] s.heap := hP
  have hl := lv_entry [.ref m0, .int x, .int y] (n := 3) (Nat.le_of_ble_eq_true rfl)
  rw [lg_entry_eq]
  generalize (lg_sl [.ref m0, .int x, .int y] ++ List.replicate (3 - (lg_sl [.ref m0, .int x, .int y]).length) Slot.unset).toArray = ls at hl ⊢
  have hl : lv_has ls 3 [(0, .ref m0), (1, .int x), (2, .int y)] := hl
  have hw12 : ∀ w ∈ wsX120, w ∈ wsX12_dampNow := fun w h => (List.mem_cons_of_mem _ (List.mem_append_right _ h))
  generalize hQ : MQ below _ _ s _ _ _ = Q
  refine lv_iload_n hx hb dX12_dampNow_0 rfl (lv_at hl 2 rfl) ?_
  refine lv_i2l hx hb dX12_dampNow_1 rfl ?_
  refine lv_topl (fun x_55 ex_55 => ?_)
  have hx_55 : x_55.toInt = y.toInt := by rw [ex_55]; exact i_wide rfl
  have hbx_55 := i_rng (a := y) rfl
  refine lv_lconst (v := 1) hx hb dX12_dampNow_2 (by decide) ?_
  refine lv_ldc2 (v := 20) hx hb hown (hts (.constantLong RX12 217 (20)) (List.mem_cons_of_mem _ (List.mem_append_left _ (List.mem_of_getElem? (i := 0) rfl)))) dX12_dampNow_3 ?_
  refine pci (va_runS (As := [.long x_55, .long 1, .long 20]) (rest := []) ⟨hx, hb, hml, hown, hts⟩ (v_in l D K y.toInt 1 20 x_55 1 20 s.heap.size hx_55 (show (1 : Int64).toInt = 1 from rfl) (show (20 : Int64).toInt = 20 from rfl)) (va_cwS 3 hts gX12_dampNow_X12_in rfl rfl rfl (by decide +kernel) ⟨Nat.le_of_ble_eq_true rfl, Nat.le_of_ble_eq_true rfl⟩) (mkS hK hN (va_P.nil) (va_D.nil (A := fun _ => True))) rfl rfl hl.1 rfl (lv_room (Nat.le_of_ble_eq_true rfl)) dX12_dampNow_6 ⟨Nat.le_of_ble_eq_true rfl, Nat.le_of_ble_eq_true rfl⟩) (fun r_56 hw => ?_)
  obtain ⟨hw, -⟩ := hw
  rcases hw with ⟨rfl, h_57, h_58⟩ | ⟨rfl, h_59⟩
  · refine lv_if_ne (tgt := 14) hx hb dX12_dampNow_9 (by decide) (fun c_60 => ?_) (fun c_60 => absurd c_60 (by decide))
    refine lv_aload_n hx hb dX12_dampNow_14 rfl (lv_at hl 0 rfl) ?_
    refine lv_iload_n hx hb dX12_dampNow_15 rfl (lv_at hl 1 rfl) ?_
    refine pci (va_runV (As := [.int x]) (rest := []) ⟨hx, hb, hml, hown, hts⟩ (v_isHouse l D K x.toInt m0 x m_0 m_1 m_2 w0 m_4 m_5 (.ref u0) (.ref s0) (.int nu) m_9 m_10 m_11 m_12 m_13 m_14 m_15 m_16 m_17 m_18 m_19 m_20 m_21 m_22 m_23 m_24 m_25 m_26 m_27 m_28 m_29 m_30 m_31 m_32 m_33 m_34 m_35 m_36 m_37 m_38 m_39 m_40 m_41 m_42 m_43 m_44 m_45 m_46 m_47 m_48 m_49 m_50 m_51 m_52 m_53 m_54 m_55 m_56 m_57 m_58 m_59 fw s.heap.size rfl zfw) (cwV 1 hts gX12_dampNow_X12_isHouse rfl rfl rfl (by decide +kernel) ⟨Nat.le_of_ble_eq_true rfl, Nat.le_of_ble_eq_true rfl⟩) (mkV hK hN (hP.sub [0, 1] rfl) (hD.sub [0, 1] (by decide) rfl) (ci := 12) (q0 := 0) rfl rfl) rfl rfl hl.1 rfl (lv_room (Nat.le_of_ble_eq_true rfl)) dX12_dampNow_16 ⟨Nat.le_of_ble_eq_true rfl, Nat.le_of_ble_eq_true rfl⟩) (fun r_61 hw => ?_)
    obtain ⟨hw, -⟩ := hw
    rcases hw with ⟨rfl, h_62, h_63⟩ | rfl
    · refine lv_if_ne (tgt := 25) hx hb dX12_dampNow_19 (by decide) (fun c_64 => ?_) (fun c_64 => absurd c_64 (by decide))
      refine lv_aload_n hx hb dX12_dampNow_25 rfl (lv_at hl 0 rfl) ?_
      refine lv_iconst (v := 1) hx hb dX12_dampNow_26 (by decide) ?_
      refine kcv (S := Su) (wr := []) (va_runV (As := [.int 1]) (rest := []) ⟨hx, hb, hml, hown, hts⟩ (v_remember l D K m0 1 m_0 m_1 m_2 w0 m_4 m_5 u0 s0 nu m_9 m_10 m_11 m_12 m_13 m_14 m_15 m_16 m_17 m_18 m_19 m_20 m_21 m_22 m_23 m_24 m_25 m_26 m_27 m_28 m_29 m_30 m_31 m_32 m_33 m_34 m_35 m_36 m_37 m_38 m_39 m_40 m_41 m_42 m_43 m_44 m_45 m_46 m_47 m_48 m_49 m_50 m_51 m_52 m_53 m_54 m_55 m_56 m_57 m_58 m_59 fw fu fs s.heap.size (by first | omega | decide) (by first | omega | decide) zfw zfu zfs) (cwV 1 hts gX12_dampNow_X12_remember rfl rfl rfl (by decide +kernel) ⟨Nat.le_of_ble_eq_true rfl, Nat.le_of_ble_eq_true rfl⟩) (mkV hK hN (hP.sub [0, 1, 2, 3] rfl) (hD.sub [0, 1, 2, 3] (by decide) rfl) (ci := 12) (q0 := 0) rfl rfl) rfl rfl hl.1 rfl (lv_room (Nat.le_of_ble_eq_true rfl)) dX12_dampNow_27 ⟨Nat.le_of_ble_eq_true rfl, Nat.le_of_ble_eq_true rfl⟩) hP hD hS hA [0, 1, 2, 3] [] rfl rfl (by decide) (by decide) (fun u_66 H locs hw hP hD hS => ?_)
      have hP : va_P D vwCl [(m0, .inr (12, [m_0, m_1, m_2, .ref w0, m_4, m_5, .ref u0, .ref s0, .int (u_66.2.2.2.1 0), m_9, m_10, m_11, m_12, m_13, m_14, m_15, m_16, m_17, m_18, m_19, m_20, m_21, m_22, m_23, m_24, m_25, m_26, m_27, m_28, m_29, m_30, m_31, m_32, m_33, m_34, m_35, m_36, m_37, m_38, m_39, m_40, m_41, m_42, m_43, m_44, m_45, m_46, m_47, m_48, m_49, m_50, m_51, m_52, m_53, m_54, m_55, m_56, m_57, m_58, m_59])), (w0, .inl (K 0, 5500, .inl fw)), (u0, .inl (K 0, 558, .inl (u_66.2.1 0))), (s0, .inl (K 0, 16, .inl (u_66.2.1 1)))] H := hP
      have hD : va_D A [(m0, .inr (12, [m_0, m_1, m_2, .ref w0, m_4, m_5, .ref u0, .ref s0, .int (u_66.2.2.2.1 0), m_9, m_10, m_11, m_12, m_13, m_14, m_15, m_16, m_17, m_18, m_19, m_20, m_21, m_22, m_23, m_24, m_25, m_26, m_27, m_28, m_29, m_30, m_31, m_32, m_33, m_34, m_35, m_36, m_37, m_38, m_39, m_40, m_41, m_42, m_43, m_44, m_45, m_46, m_47, m_48, m_49, m_50, m_51, m_52, m_53, m_54, m_55, m_56, m_57, m_58, m_59])), (w0, .inl (K 0, 5500, .inl fw)), (u0, .inl (K 0, 558, .inl (u_66.2.1 0))), (s0, .inl (K 0, 16, .inl (u_66.2.1 1)))] := hD
      obtain ⟨k_67, k_68, k_69, -⟩ := hw
      refine lv_aload_n hx hb dX12_dampNow_30 rfl (lv_at hl 0 rfl) ?_
      refine va_get (ci := 12) (v := .ref w0) (C := RX12) (T := TX12) (N := 60) hx hb hts hw12 hown hK hP 0 rfl rfl 3 (by decide) (hts (.fieldLink RX12 13 "SmokeTuneModel" "row" "[I") (List.mem_cons_of_mem _ (List.mem_append_left _ (List.mem_of_getElem? (i := 1) rfl)))) (fun _ h9 => h9) rfl dX12_dampNow_31 ?_
      refine lv_bipush (v := 11) hx hb dX12_dampNow_34 (by decide) ?_
      refine lv_iload_n hx hb dX12_dampNow_36 rfl (lv_at hl 1 rfl) ?_
      refine lv_iadd hx hb dX12_dampNow_37 ?_
      refine lv_topi (fun x_70 ex_70 => ?_)
      have hx_70 : x_70.toInt = (11 + x.toInt) := by rw [ex_70]; exact i_add (show (11 : Int32).toInt = 11 from rfl) rfl (by omega)
      refine lv_aload_n hx hb dX12_dampNow_38 rfl (lv_at hl 0 rfl) ?_
      refine va_get (ci := 12) (v := .ref w0) (C := RX12) (T := TX12) (N := 60) hx hb hts hw12 hown hK hP 0 rfl rfl 3 (by decide) (hts (.fieldLink RX12 13 "SmokeTuneModel" "row" "[I") (List.mem_cons_of_mem _ (List.mem_append_left _ (List.mem_of_getElem? (i := 1) rfl)))) (fun _ h9 => h9) rfl dX12_dampNow_39 ?_
      refine lv_bipush (v := 11) hx hb dX12_dampNow_42 (by decide) ?_
      refine lv_iload_n hx hb dX12_dampNow_44 rfl (lv_at hl 1 rfl) ?_
      refine lv_iadd hx hb dX12_dampNow_45 ?_
      refine lv_topi (fun x_71 ex_71 => ?_)
      have hx_71 : x_71.toInt = (11 + x.toInt) := by rw [ex_71]; exact i_add (show (11 : Int32).toInt = 11 from rfl) rfl (by omega)
      refine va_iald hx hb hK hP 1 0 rfl rfl (i_in hx_71 (by omega)) dX12_dampNow_46 ?_
      refine lv_topi (fun x_72 ex_72 => ?_)
      have px_72 := RowOK.at zfw hx_71 (show 0 ≤ (11 + x.toInt) ∧ (11 + x.toInt) < 100 by omega)
      rw [← ex_72] at px_72
      have hx_72 := PR.r_11 px_72 (by omega)
      refine lv_iload_n hx hb dX12_dampNow_47 rfl (lv_at hl 2 rfl) ?_
      refine lv_isub hx hb dX12_dampNow_48 ?_
      refine lv_topi (fun x_73 ex_73 => ?_)
      have hx_73 : x_73.toInt = (x_72.toInt - y.toInt) := by rw [ex_73]; exact i_sub rfl rfl (by omega)
      refine lv_i2l hx hb dX12_dampNow_49 rfl ?_
      refine lv_topl (fun x_74 ex_74 => ?_)
      have hx_74 : x_74.toInt = (x_72.toInt - y.toInt) := by rw [ex_74]; exact i_wide hx_73
      refine lv_iconst (v := 0) hx hb dX12_dampNow_50 (by decide) ?_
      refine lv_bipush (v := 20) hx hb dX12_dampNow_51 (by decide) ?_
      refine pci (va_runS (As := [.long x_74, .int 0, .int 20]) (rest := [.int x_70, .ref w0]) ⟨hx, hb, hml, hown, hts⟩ (v_within_20 l D K x_74 H.size) (va_cwS 3 hts gX12_dampNow_X12_within rfl rfl rfl (by decide +kernel) ⟨Nat.le_of_ble_eq_true rfl, Nat.le_of_ble_eq_true rfl⟩) (mkS hK hN (va_P.nil) (va_D.nil (A := fun _ => True))) rfl rfl hl.1 rfl (lv_room (Nat.le_of_ble_eq_true rfl)) dX12_dampNow_53 ⟨Nat.le_of_ble_eq_true rfl, Nat.le_of_ble_eq_true rfl⟩) (fun r_75 hw => ?_)
      obtain ⟨h_76, -⟩ := hw
      refine va_iast hx hb hK hP hD hS 1 0 rfl rfl (i_in hx_70 (by omega)) dX12_dampNow_56 (fun H locs hP hD hS => ?_)
      generalize hf_77 : (upd fw (x_70 : Int32).toNatClampNeg r_75) = f_77 at hP hD
      have hf_77_0 : RowOK f_77 := by rw [← hf_77]; exact RowOK.upd zfw hx_70 (by omega) rfl (PR.w_11 (by omega) (by omega))
      have kf_77 : f_77 ((11 + x.toInt)).toNat = r_75 := by rw [← hf_77, i_clamp hx_70]; exact pk_us
      have hP : va_P D vwCl [(m0, .inr (12, [m_0, m_1, m_2, .ref w0, m_4, m_5, .ref u0, .ref s0, .int (u_66.2.2.2.1 0), m_9, m_10, m_11, m_12, m_13, m_14, m_15, m_16, m_17, m_18, m_19, m_20, m_21, m_22, m_23, m_24, m_25, m_26, m_27, m_28, m_29, m_30, m_31, m_32, m_33, m_34, m_35, m_36, m_37, m_38, m_39, m_40, m_41, m_42, m_43, m_44, m_45, m_46, m_47, m_48, m_49, m_50, m_51, m_52, m_53, m_54, m_55, m_56, m_57, m_58, m_59])), (w0, .inl (K 0, 5500, .inl f_77)), (u0, .inl (K 0, 558, .inl (u_66.2.1 0))), (s0, .inl (K 0, 16, .inl (u_66.2.1 1)))] H := hP
      have hD : va_D A [(m0, .inr (12, [m_0, m_1, m_2, .ref w0, m_4, m_5, .ref u0, .ref s0, .int (u_66.2.2.2.1 0), m_9, m_10, m_11, m_12, m_13, m_14, m_15, m_16, m_17, m_18, m_19, m_20, m_21, m_22, m_23, m_24, m_25, m_26, m_27, m_28, m_29, m_30, m_31, m_32, m_33, m_34, m_35, m_36, m_37, m_38, m_39, m_40, m_41, m_42, m_43, m_44, m_45, m_46, m_47, m_48, m_49, m_50, m_51, m_52, m_53, m_54, m_55, m_56, m_57, m_58, m_59])), (w0, .inl (K 0, 5500, .inl f_77)), (u0, .inl (K 0, 558, .inl (u_66.2.1 0))), (s0, .inl (K 0, 16, .inl (u_66.2.1 1)))] := hD
      refine lv_aload_n hx hb dX12_dampNow_57 rfl (lv_at hl 0 rfl) ?_
      refine va_get (ci := 12) (v := .ref w0) (C := RX12) (T := TX12) (N := 60) hx hb hts hw12 hown hK hP 0 rfl rfl 3 (by decide) (hts (.fieldLink RX12 13 "SmokeTuneModel" "row" "[I") (List.mem_cons_of_mem _ (List.mem_append_left _ (List.mem_of_getElem? (i := 1) rfl)))) (fun _ h9 => h9) rfl dX12_dampNow_58 ?_
      refine lv_bipush (v := 11) hx hb dX12_dampNow_61 (by decide) ?_
      refine lv_iload_n hx hb dX12_dampNow_63 rfl (lv_at hl 1 rfl) ?_
      refine lv_iadd hx hb dX12_dampNow_64 ?_
      refine lv_topi (fun x_78 ex_78 => ?_)
      have hx_78 : x_78.toInt = (11 + x.toInt) := by rw [ex_78]; exact i_add (show (11 : Int32).toInt = 11 from rfl) rfl (by omega)
      refine va_iald hx hb hK hP 1 0 rfl rfl (i_in hx_78 (by omega)) dX12_dampNow_65 ?_
      refine lv_topi (fun x_79 ex_79 => ?_)
      obtain rfl : x_79 = r_75 := ex_79.trans (by rw [i_clamp hx_78]; exact kf_77)
      subst hQ
      have hP9 := hP.sub (ws' := [(m0, .inr (12, [m_0, m_1, m_2, .ref w0, m_4, m_5, .ref u0, .ref s0, .int (u_66.2.2.2.1 0), m_9, m_10, m_11, m_12, m_13, m_14, m_15, m_16, m_17, m_18, m_19, m_20, m_21, m_22, m_23, m_24, m_25, m_26, m_27, m_28, m_29, m_30, m_31, m_32, m_33, m_34, m_35, m_36, m_37, m_38, m_39, m_40, m_41, m_42, m_43, m_44, m_45, m_46, m_47, m_48, m_49, m_50, m_51, m_52, m_53, m_54, m_55, m_56, m_57, m_58, m_59])), (w0, .inl (K 0, 5500, .inl f_77)), (u0, .inl (K 0, 558, .inl (u_66.2.1 0))), (s0, .inl (K 0, 16, .inl (u_66.2.1 1)))]) [0, 1, 2, 3] rfl
      have hD9 := hD.sub (ws' := [(m0, .inr (12, [m_0, m_1, m_2, .ref w0, m_4, m_5, .ref u0, .ref s0, .int (u_66.2.2.2.1 0), m_9, m_10, m_11, m_12, m_13, m_14, m_15, m_16, m_17, m_18, m_19, m_20, m_21, m_22, m_23, m_24, m_25, m_26, m_27, m_28, m_29, m_30, m_31, m_32, m_33, m_34, m_35, m_36, m_37, m_38, m_39, m_40, m_41, m_42, m_43, m_44, m_45, m_46, m_47, m_48, m_49, m_50, m_51, m_52, m_53, m_54, m_55, m_56, m_57, m_58, m_59])), (w0, .inl (K 0, 5500, .inl f_77)), (u0, .inl (K 0, 558, .inl (u_66.2.1 0))), (s0, .inl (K 0, 16, .inl (u_66.2.1 1)))]) [0, 1, 2, 3] (by decide) rfl
      exact W.iret (v := r_75) hx hb hr (fun t ht hW => ⟨⟨r_75, ((fun _ => 0, fun i => match i with | 0 => f_77 | 1 => (u_66.2.1 0) | _ => (u_66.2.1 1), fun _ => fun _ => 0, fun i => match i with | _ => (u_66.2.2.2.1 0), fun _ => 0, fun _ => fun _ => none) : Su), rfl, ⟨(show (-2) ≤ r_75.toInt ∧ r_75.toInt ≤ 20 by omega), (show 0 ≤ ((u_66.2.2.2.1 0) : Int32).toInt ∧ ((u_66.2.2.2.1 0) : Int32).toInt ≤ 16 by omega), hf_77_0, k_68, k_69, trivial⟩, (⟨by rw [ht]; exact hP9, hD9⟩ : Wd D A _ t)⟩, hS.F ht⟩) hS.2.2 dX12_dampNow_66
    · refine lv_if_ne (tgt := 25) hx hb dX12_dampNow_19 (by decide) (fun c_80 => absurd (by decide) c_80) (fun c_80 => ?_)
      refine lv_bipush (v := (-2)) hx hb dX12_dampNow_22 (by decide) ?_
      subst hQ
      have hP9 := hP.sub (ws' := [(m0, .inr (12, [m_0, m_1, m_2, .ref w0, m_4, m_5, .ref u0, .ref s0, .int nu, m_9, m_10, m_11, m_12, m_13, m_14, m_15, m_16, m_17, m_18, m_19, m_20, m_21, m_22, m_23, m_24, m_25, m_26, m_27, m_28, m_29, m_30, m_31, m_32, m_33, m_34, m_35, m_36, m_37, m_38, m_39, m_40, m_41, m_42, m_43, m_44, m_45, m_46, m_47, m_48, m_49, m_50, m_51, m_52, m_53, m_54, m_55, m_56, m_57, m_58, m_59])), (w0, .inl (K 0, 5500, .inl fw)), (u0, .inl (K 0, 558, .inl fu)), (s0, .inl (K 0, 16, .inl fs))]) [0, 1, 2, 3] rfl
      have hD9 := hD.sub (ws' := [(m0, .inr (12, [m_0, m_1, m_2, .ref w0, m_4, m_5, .ref u0, .ref s0, .int nu, m_9, m_10, m_11, m_12, m_13, m_14, m_15, m_16, m_17, m_18, m_19, m_20, m_21, m_22, m_23, m_24, m_25, m_26, m_27, m_28, m_29, m_30, m_31, m_32, m_33, m_34, m_35, m_36, m_37, m_38, m_39, m_40, m_41, m_42, m_43, m_44, m_45, m_46, m_47, m_48, m_49, m_50, m_51, m_52, m_53, m_54, m_55, m_56, m_57, m_58, m_59])), (w0, .inl (K 0, 5500, .inl fw)), (u0, .inl (K 0, 558, .inl fu)), (s0, .inl (K 0, 16, .inl fs))]) [0, 1, 2, 3] (by decide) rfl
      exact W.iret (v := (-2)) hx hb hr (fun t ht hW => ⟨⟨(-2), ((fun _ => 0, fun i => match i with | 0 => fw | 1 => fu | _ => fs, fun _ => fun _ => 0, fun i => match i with | _ => nu, fun _ => 0, fun _ => fun _ => none) : Su), rfl, ⟨(show (-2) ≤ ((-2) : Int32).toInt ∧ ((-2) : Int32).toInt ≤ 20 by decide), (show 0 ≤ (nu : Int32).toInt ∧ (nu : Int32).toInt ≤ 16 by omega), zfw, zfu, zfs, trivial⟩, (⟨by rw [ht]; exact hP9, hD9⟩ : Wd D A _ t)⟩, hS.F ht⟩) hS.2.2 dX12_dampNow_24
  · refine lv_if_ne (tgt := 14) hx hb dX12_dampNow_9 (by decide) (fun c_81 => absurd (by decide) c_81) (fun c_81 => ?_)
    refine lv_iconst (v := (-1)) hx hb dX12_dampNow_12 (by decide) ?_
    subst hQ
    have hP9 := hP.sub (ws' := [(m0, .inr (12, [m_0, m_1, m_2, .ref w0, m_4, m_5, .ref u0, .ref s0, .int nu, m_9, m_10, m_11, m_12, m_13, m_14, m_15, m_16, m_17, m_18, m_19, m_20, m_21, m_22, m_23, m_24, m_25, m_26, m_27, m_28, m_29, m_30, m_31, m_32, m_33, m_34, m_35, m_36, m_37, m_38, m_39, m_40, m_41, m_42, m_43, m_44, m_45, m_46, m_47, m_48, m_49, m_50, m_51, m_52, m_53, m_54, m_55, m_56, m_57, m_58, m_59])), (w0, .inl (K 0, 5500, .inl fw)), (u0, .inl (K 0, 558, .inl fu)), (s0, .inl (K 0, 16, .inl fs))]) [0, 1, 2, 3] rfl
    have hD9 := hD.sub (ws' := [(m0, .inr (12, [m_0, m_1, m_2, .ref w0, m_4, m_5, .ref u0, .ref s0, .int nu, m_9, m_10, m_11, m_12, m_13, m_14, m_15, m_16, m_17, m_18, m_19, m_20, m_21, m_22, m_23, m_24, m_25, m_26, m_27, m_28, m_29, m_30, m_31, m_32, m_33, m_34, m_35, m_36, m_37, m_38, m_39, m_40, m_41, m_42, m_43, m_44, m_45, m_46, m_47, m_48, m_49, m_50, m_51, m_52, m_53, m_54, m_55, m_56, m_57, m_58, m_59])), (w0, .inl (K 0, 5500, .inl fw)), (u0, .inl (K 0, 558, .inl fu)), (s0, .inl (K 0, 16, .inl fs))]) [0, 1, 2, 3] (by decide) rfl
    exact W.iret (v := (-1)) hx hb hr (fun t ht hW => ⟨⟨(-1), ((fun _ => 0, fun i => match i with | 0 => fw | 1 => fu | _ => fs, fun _ => fun _ => 0, fun i => match i with | _ => nu, fun _ => 0, fun _ => fun _ => none) : Su), rfl, ⟨(show (-2) ≤ ((-1) : Int32).toInt ∧ ((-1) : Int32).toInt ≤ 20 by decide), (show 0 ≤ (nu : Int32).toInt ∧ (nu : Int32).toInt ≤ 16 by omega), zfw, zfu, zfs, trivial⟩, (⟨by rw [ht]; exact hP9, hD9⟩ : Wd D A _ t)⟩, hS.F ht⟩) hS.2.2 dX12_dampNow_13
set_option maxHeartbeats 4000000 in
set_option maxRecDepth 100000 in
theorem v_buyNow (l : Launch) (D : va_G) (K : Nat → ClassId) (m0 : Nat) (x : Int32) (y : Int32) (m_0 : Value) (m_1 : Value) (m_2 : Value) (w0 : Nat) (m_4 : Value) (m_5 : Value) (u0 : Nat) (s0 : Nat) (nu : Int32) (m_9 : Value) (m_10 : Value) (m_11 : Value) (m_12 : Value) (m_13 : Value) (m_14 : Value) (m_15 : Value) (m_16 : Value) (m_17 : Value) (m_18 : Value) (m_19 : Value) (m_20 : Value) (m_21 : Value) (m_22 : Value) (m_23 : Value) (m_24 : Value) (m_25 : Value) (m_26 : Value) (m_27 : Value) (m_28 : Value) (m_29 : Value) (m_30 : Value) (m_31 : Value) (m_32 : Value) (m_33 : Value) (m_34 : Value) (m_35 : Value) (m_36 : Value) (m_37 : Value) (m_38 : Value) (m_39 : Value) (m_40 : Value) (m_41 : Value) (m_42 : Value) (m_43 : Value) (m_44 : Value) (m_45 : Value) (m_46 : Value) (m_47 : Value) (m_48 : Value) (m_49 : Value) (m_50 : Value) (m_51 : Value) (m_52 : Value) (m_53 : Value) (m_54 : Value) (m_55 : Value) (m_56 : Value) (m_57 : Value) (m_58 : Value) (m_59 : Value) (fw : Nat → Int32) (fu : Nat → Int32) (fs : Nat → Int32) (sz : Nat) (znu : 0 ≤ nu.toInt ∧ nu.toInt ≤ 16) (zfw : RowOK fw) (zfu : Pu 558 fu) (zfs : Rg 16 0 3 fs) : Met l yX12_buyNow wsX12_buyNow ({ frames := 2, cells := 0, slots := 0, locals := 46 }) (va_Pc [.ref m0, .int x, .int y] (Pre D K [(m0, .inr (12, [m_0, m_1, m_2, .ref w0, m_4, m_5, .ref u0, .ref s0, .int nu, m_9, m_10, m_11, m_12, m_13, m_14, m_15, m_16, m_17, m_18, m_19, m_20, m_21, m_22, m_23, m_24, m_25, m_26, m_27, m_28, m_29, m_30, m_31, m_32, m_33, m_34, m_35, m_36, m_37, m_38, m_39, m_40, m_41, m_42, m_43, m_44, m_45, m_46, m_47, m_48, m_49, m_50, m_51, m_52, m_53, m_54, m_55, m_56, m_57, m_58, m_59])), (w0, .inl (K 0, 5500, .inl fw)), (u0, .inl (K 0, 558, .inl fu)), (s0, .inl (K 0, 16, .inl fs))] sz)) (va_Qi (S := Su) (fun (r : Int32) (u : Su) => ((-2) ≤ r.toInt ∧ r.toInt ≤ 999) ∧ (0 ≤ (u.2.2.2.1 0).toInt ∧ (u.2.2.2.1 0).toInt ≤ 16) ∧ (RowOK (u.2.1 0)) ∧ (Pu 558 (u.2.1 1)) ∧ (Rg 16 0 3 (u.2.1 2)) ∧ True) (fun u t => Wd D (va_A [(m0, .inr (12, [m_0, m_1, m_2, .ref w0, m_4, m_5, .ref u0, .ref s0, .int nu, m_9, m_10, m_11, m_12, m_13, m_14, m_15, m_16, m_17, m_18, m_19, m_20, m_21, m_22, m_23, m_24, m_25, m_26, m_27, m_28, m_29, m_30, m_31, m_32, m_33, m_34, m_35, m_36, m_37, m_38, m_39, m_40, m_41, m_42, m_43, m_44, m_45, m_46, m_47, m_48, m_49, m_50, m_51, m_52, m_53, m_54, m_55, m_56, m_57, m_58, m_59])), (w0, .inl (K 0, 5500, .inl fw)), (u0, .inl (K 0, 558, .inl fu)), (s0, .inl (K 0, 16, .inl fs))] sz) ((fun u => [(m0, .inr (12, [m_0, m_1, m_2, .ref w0, m_4, m_5, .ref u0, .ref s0, .int (u.2.2.2.1 0), m_9, m_10, m_11, m_12, m_13, m_14, m_15, m_16, m_17, m_18, m_19, m_20, m_21, m_22, m_23, m_24, m_25, m_26, m_27, m_28, m_29, m_30, m_31, m_32, m_33, m_34, m_35, m_36, m_37, m_38, m_39, m_40, m_41, m_42, m_43, m_44, m_45, m_46, m_47, m_48, m_49, m_50, m_51, m_52, m_53, m_54, m_55, m_56, m_57, m_58, m_59])), (w0, .inl (K 0, 5500, .inl (u.2.1 0))), (u0, .inl (K 0, 558, .inl (u.2.1 1))), (s0, .inl (K 0, 16, .inl (u.2.1 2)))]) u) t) (va_A [(m0, .inr (12, [m_0, m_1, m_2, .ref w0, m_4, m_5, .ref u0, .ref s0, .int nu, m_9, m_10, m_11, m_12, m_13, m_14, m_15, m_16, m_17, m_18, m_19, m_20, m_21, m_22, m_23, m_24, m_25, m_26, m_27, m_28, m_29, m_30, m_31, m_32, m_33, m_34, m_35, m_36, m_37, m_38, m_39, m_40, m_41, m_42, m_43, m_44, m_45, m_46, m_47, m_48, m_49, m_50, m_51, m_52, m_53, m_54, m_55, m_56, m_57, m_58, m_59])), (w0, .inl (K 0, 5500, .inl fw)), (u0, .inl (K 0, 558, .inl fu)), (s0, .inl (K 0, 16, .inl fs))] sz)) 0 0 (va_A [(m0, .inr (12, [m_0, m_1, m_2, .ref w0, m_4, m_5, .ref u0, .ref s0, .int nu, m_9, m_10, m_11, m_12, m_13, m_14, m_15, m_16, m_17, m_18, m_19, m_20, m_21, m_22, m_23, m_24, m_25, m_26, m_27, m_28, m_29, m_30, m_31, m_32, m_33, m_34, m_35, m_36, m_37, m_38, m_39, m_40, m_41, m_42, m_43, m_44, m_45, m_46, m_47, m_48, m_49, m_50, m_51, m_52, m_53, m_54, m_55, m_56, m_57, m_58, m_59])), (w0, .inl (K 0, 5500, .inl fw)), (u0, .inl (K 0, 558, .inl fu)), (s0, .inl (K 0, 16, .inl fs))] sz) := by
  refine Met.ofW (cc := cX12_buyNow) (maxL := 3) (ret := (some .int)) (by decide) rfl ?_
  intro p e s m args below meth c s₁ B hml hv
  obtain ⟨rfl, hsz, hP, hK, hD0, hN⟩ := hv
  have hx := B.exec
  have hb := B.bytes
  have hr := B.returns
  have hts := atoms_spec (ws := wsX12_buyNow) B.pre
  have hown : s.vm.findClass RX12 = some m.cls := findClass_of_methodNamed B.named
  have hlocks := B.notSynchronized
  subst hsz
  have hD := hD0.self (sz := s.heap.size)
  generalize hAe : va_A [(m0, .inr (12, [m_0, m_1, m_2, .ref w0, m_4, m_5, .ref u0, .ref s0, .int nu, m_9, m_10, m_11, m_12, m_13, m_14, m_15, m_16, m_17, m_18, m_19, m_20, m_21, m_22, m_23, m_24, m_25, m_26, m_27, m_28, m_29, m_30, m_31, m_32, m_33, m_34, m_35, m_36, m_37, m_38, m_39, m_40, m_41, m_42, m_43, m_44, m_45, m_46, m_47, m_48, m_49, m_50, m_51, m_52, m_53, m_54, m_55, m_56, m_57, m_58, m_59])), (w0, .inl (K 0, 5500, .inl fw)), (u0, .inl (K 0, 558, .inl fu)), (s0, .inl (K 0, 16, .inl fs))] s.heap.size = A at hD ⊢
  have hA : ∀ q : Nat, s.heap.size ≤ q → A q := fun q h => by rw [← hAe]; exact Or.inr h
  have hS : va_S A s.heap s.heap [] := va_S.rf
  have hP : va_P D vwCl [(m0, .inr (12, [m_0, m_1, m_2, .ref w0, m_4, m_5, .ref u0, .ref s0, .int nu, m_9, m_10, m_11, m_12, m_13, m_14, m_15, m_16, m_17, m_18, m_19, m_20, m_21, m_22, m_23, m_24, m_25, m_26, m_27, m_28, m_29, m_30, m_31, m_32, m_33, m_34, m_35, m_36, m_37, m_38, m_39, m_40, m_41, m_42, m_43, m_44, m_45, m_46, m_47, m_48, m_49, m_50, m_51, m_52, m_53, m_54, m_55, m_56, m_57, m_58, m_59])), (w0, .inl (K 0, 5500, .inl fw)), (u0, .inl (K 0, 558, .inl fu)), (s0, .inl (K 0, 16, .inl fs))] s.heap := hP
  have hl := lv_entry [.ref m0, .int x, .int y] (n := 3) (Nat.le_of_ble_eq_true rfl)
  rw [lg_entry_eq]
  generalize (lg_sl [.ref m0, .int x, .int y] ++ List.replicate (3 - (lg_sl [.ref m0, .int x, .int y]).length) Slot.unset).toArray = ls at hl ⊢
  have hl : lv_has ls 3 [(0, .ref m0), (1, .int x), (2, .int y)] := hl
  have hw12 : ∀ w ∈ wsX120, w ∈ wsX12_buyNow := fun w h => (List.mem_cons_of_mem _ (List.mem_append_right _ h))
  generalize hQ : MQ below _ _ s _ _ _ = Q
  refine lv_iload_n hx hb dX12_buyNow_0 rfl (lv_at hl 2 rfl) ?_
  refine lv_i2l hx hb dX12_buyNow_1 rfl ?_
  refine lv_topl (fun x_55 ex_55 => ?_)
  have hx_55 : x_55.toInt = y.toInt := by rw [ex_55]; exact i_wide rfl
  have hbx_55 := i_rng (a := y) rfl
  refine lv_lconst (v := 1) hx hb dX12_buyNow_2 (by decide) ?_
  refine lv_ldc2 (v := 999) hx hb hown (hts (.constantLong RX12 193 (999)) (List.mem_cons_of_mem _ (List.mem_append_left _ (List.mem_of_getElem? (i := 0) rfl)))) dX12_buyNow_3 ?_
  refine pci (va_runS (As := [.long x_55, .long 1, .long 999]) (rest := []) ⟨hx, hb, hml, hown, hts⟩ (v_in l D K y.toInt 1 999 x_55 1 999 s.heap.size hx_55 (show (1 : Int64).toInt = 1 from rfl) (show (999 : Int64).toInt = 999 from rfl)) (va_cwS 3 hts gX12_buyNow_X12_in rfl rfl rfl (by decide +kernel) ⟨Nat.le_of_ble_eq_true rfl, Nat.le_of_ble_eq_true rfl⟩) (mkS hK hN (va_P.nil) (va_D.nil (A := fun _ => True))) rfl rfl hl.1 rfl (lv_room (Nat.le_of_ble_eq_true rfl)) dX12_buyNow_6 ⟨Nat.le_of_ble_eq_true rfl, Nat.le_of_ble_eq_true rfl⟩) (fun r_56 hw => ?_)
  obtain ⟨hw, -⟩ := hw
  rcases hw with ⟨rfl, h_57, h_58⟩ | ⟨rfl, h_59⟩
  · refine lv_if_ne (tgt := 14) hx hb dX12_buyNow_9 (by decide) (fun c_60 => ?_) (fun c_60 => absurd c_60 (by decide))
    refine lv_aload_n hx hb dX12_buyNow_14 rfl (lv_at hl 0 rfl) ?_
    refine lv_iload_n hx hb dX12_buyNow_15 rfl (lv_at hl 1 rfl) ?_
    refine pci (va_runV (As := [.int x]) (rest := []) ⟨hx, hb, hml, hown, hts⟩ (v_isHouse l D K x.toInt m0 x m_0 m_1 m_2 w0 m_4 m_5 (.ref u0) (.ref s0) (.int nu) m_9 m_10 m_11 m_12 m_13 m_14 m_15 m_16 m_17 m_18 m_19 m_20 m_21 m_22 m_23 m_24 m_25 m_26 m_27 m_28 m_29 m_30 m_31 m_32 m_33 m_34 m_35 m_36 m_37 m_38 m_39 m_40 m_41 m_42 m_43 m_44 m_45 m_46 m_47 m_48 m_49 m_50 m_51 m_52 m_53 m_54 m_55 m_56 m_57 m_58 m_59 fw s.heap.size rfl zfw) (cwV 1 hts gX12_buyNow_X12_isHouse rfl rfl rfl (by decide +kernel) ⟨Nat.le_of_ble_eq_true rfl, Nat.le_of_ble_eq_true rfl⟩) (mkV hK hN (hP.sub [0, 1] rfl) (hD.sub [0, 1] (by decide) rfl) (ci := 12) (q0 := 0) rfl rfl) rfl rfl hl.1 rfl (lv_room (Nat.le_of_ble_eq_true rfl)) dX12_buyNow_16 ⟨Nat.le_of_ble_eq_true rfl, Nat.le_of_ble_eq_true rfl⟩) (fun r_61 hw => ?_)
    obtain ⟨hw, -⟩ := hw
    rcases hw with ⟨rfl, h_62, h_63⟩ | rfl
    · refine lv_if_ne (tgt := 25) hx hb dX12_buyNow_19 (by decide) (fun c_64 => ?_) (fun c_64 => absurd c_64 (by decide))
      refine lv_aload_n hx hb dX12_buyNow_25 rfl (lv_at hl 0 rfl) ?_
      refine lv_iconst (v := 2) hx hb dX12_buyNow_26 (by decide) ?_
      refine kcv (S := Su) (wr := []) (va_runV (As := [.int 2]) (rest := []) ⟨hx, hb, hml, hown, hts⟩ (v_remember l D K m0 2 m_0 m_1 m_2 w0 m_4 m_5 u0 s0 nu m_9 m_10 m_11 m_12 m_13 m_14 m_15 m_16 m_17 m_18 m_19 m_20 m_21 m_22 m_23 m_24 m_25 m_26 m_27 m_28 m_29 m_30 m_31 m_32 m_33 m_34 m_35 m_36 m_37 m_38 m_39 m_40 m_41 m_42 m_43 m_44 m_45 m_46 m_47 m_48 m_49 m_50 m_51 m_52 m_53 m_54 m_55 m_56 m_57 m_58 m_59 fw fu fs s.heap.size (by first | omega | decide) (by first | omega | decide) zfw zfu zfs) (cwV 1 hts gX12_buyNow_X12_remember rfl rfl rfl (by decide +kernel) ⟨Nat.le_of_ble_eq_true rfl, Nat.le_of_ble_eq_true rfl⟩) (mkV hK hN (hP.sub [0, 1, 2, 3] rfl) (hD.sub [0, 1, 2, 3] (by decide) rfl) (ci := 12) (q0 := 0) rfl rfl) rfl rfl hl.1 rfl (lv_room (Nat.le_of_ble_eq_true rfl)) dX12_buyNow_27 ⟨Nat.le_of_ble_eq_true rfl, Nat.le_of_ble_eq_true rfl⟩) hP hD hS hA [0, 1, 2, 3] [] rfl rfl (by decide) (by decide) (fun u_66 H locs hw hP hD hS => ?_)
      have hP : va_P D vwCl [(m0, .inr (12, [m_0, m_1, m_2, .ref w0, m_4, m_5, .ref u0, .ref s0, .int (u_66.2.2.2.1 0), m_9, m_10, m_11, m_12, m_13, m_14, m_15, m_16, m_17, m_18, m_19, m_20, m_21, m_22, m_23, m_24, m_25, m_26, m_27, m_28, m_29, m_30, m_31, m_32, m_33, m_34, m_35, m_36, m_37, m_38, m_39, m_40, m_41, m_42, m_43, m_44, m_45, m_46, m_47, m_48, m_49, m_50, m_51, m_52, m_53, m_54, m_55, m_56, m_57, m_58, m_59])), (w0, .inl (K 0, 5500, .inl fw)), (u0, .inl (K 0, 558, .inl (u_66.2.1 0))), (s0, .inl (K 0, 16, .inl (u_66.2.1 1)))] H := hP
      have hD : va_D A [(m0, .inr (12, [m_0, m_1, m_2, .ref w0, m_4, m_5, .ref u0, .ref s0, .int (u_66.2.2.2.1 0), m_9, m_10, m_11, m_12, m_13, m_14, m_15, m_16, m_17, m_18, m_19, m_20, m_21, m_22, m_23, m_24, m_25, m_26, m_27, m_28, m_29, m_30, m_31, m_32, m_33, m_34, m_35, m_36, m_37, m_38, m_39, m_40, m_41, m_42, m_43, m_44, m_45, m_46, m_47, m_48, m_49, m_50, m_51, m_52, m_53, m_54, m_55, m_56, m_57, m_58, m_59])), (w0, .inl (K 0, 5500, .inl fw)), (u0, .inl (K 0, 558, .inl (u_66.2.1 0))), (s0, .inl (K 0, 16, .inl (u_66.2.1 1)))] := hD
      obtain ⟨k_67, k_68, k_69, -⟩ := hw
      refine lv_aload_n hx hb dX12_buyNow_30 rfl (lv_at hl 0 rfl) ?_
      refine va_get (ci := 12) (v := .ref w0) (C := RX12) (T := TX12) (N := 60) hx hb hts hw12 hown hK hP 0 rfl rfl 3 (by decide) (hts (.fieldLink RX12 13 "SmokeTuneModel" "row" "[I") (List.mem_cons_of_mem _ (List.mem_append_left _ (List.mem_of_getElem? (i := 1) rfl)))) (fun _ h9 => h9) rfl dX12_buyNow_31 ?_
      refine lv_bipush (v := 19) hx hb dX12_buyNow_34 (by decide) ?_
      refine lv_iload_n hx hb dX12_buyNow_36 rfl (lv_at hl 1 rfl) ?_
      refine lv_iadd hx hb dX12_buyNow_37 ?_
      refine lv_topi (fun x_70 ex_70 => ?_)
      have hx_70 : x_70.toInt = (19 + x.toInt) := by rw [ex_70]; exact i_add (show (19 : Int32).toInt = 19 from rfl) rfl (by omega)
      refine lv_aload_n hx hb dX12_buyNow_38 rfl (lv_at hl 0 rfl) ?_
      refine va_get (ci := 12) (v := .ref w0) (C := RX12) (T := TX12) (N := 60) hx hb hts hw12 hown hK hP 0 rfl rfl 3 (by decide) (hts (.fieldLink RX12 13 "SmokeTuneModel" "row" "[I") (List.mem_cons_of_mem _ (List.mem_append_left _ (List.mem_of_getElem? (i := 1) rfl)))) (fun _ h9 => h9) rfl dX12_buyNow_39 ?_
      refine lv_bipush (v := 19) hx hb dX12_buyNow_42 (by decide) ?_
      refine lv_iload_n hx hb dX12_buyNow_44 rfl (lv_at hl 1 rfl) ?_
      refine lv_iadd hx hb dX12_buyNow_45 ?_
      refine lv_topi (fun x_71 ex_71 => ?_)
      have hx_71 : x_71.toInt = (19 + x.toInt) := by rw [ex_71]; exact i_add (show (19 : Int32).toInt = 19 from rfl) rfl (by omega)
      refine va_iald hx hb hK hP 1 0 rfl rfl (i_in hx_71 (by omega)) dX12_buyNow_46 ?_
      refine lv_topi (fun x_72 ex_72 => ?_)
      have px_72 := RowOK.at zfw hx_71 (show 0 ≤ (19 + x.toInt) ∧ (19 + x.toInt) < 100 by omega)
      rw [← ex_72] at px_72
      refine lv_iload_n hx hb dX12_buyNow_47 rfl (lv_at hl 2 rfl) ?_
      refine lv_iadd hx hb dX12_buyNow_48 ?_
      refine lv_topi (fun x_73 ex_73 => ?_)
      refine lv_i2l hx hb dX12_buyNow_49 rfl ?_
      refine lv_topl (fun x_74 ex_74 => ?_)
      have hx_74 : x_74.toInt = x_73.toInt := by rw [ex_74]; exact i_wide rfl
      have hbx_74 := i_rng (a := x_73) rfl
      refine lv_iconst (v := 0) hx hb dX12_buyNow_50 (by decide) ?_
      refine lv_sipush (v := 999) hx hb dX12_buyNow_51 (by decide) ?_
      refine pci (va_runS (As := [.long x_74, .int 0, .int 999]) (rest := [.int x_70, .ref w0]) ⟨hx, hb, hml, hown, hts⟩ (v_within_999 l D K x_74 H.size) (va_cwS 3 hts gX12_buyNow_X12_within rfl rfl rfl (by decide +kernel) ⟨Nat.le_of_ble_eq_true rfl, Nat.le_of_ble_eq_true rfl⟩) (mkS hK hN (va_P.nil) (va_D.nil (A := fun _ => True))) rfl rfl hl.1 rfl (lv_room (Nat.le_of_ble_eq_true rfl)) dX12_buyNow_54 ⟨Nat.le_of_ble_eq_true rfl, Nat.le_of_ble_eq_true rfl⟩) (fun r_75 hw => ?_)
      obtain ⟨h_76, -⟩ := hw
      refine va_iast hx hb hK hP hD hS 1 0 rfl rfl (i_in hx_70 (by omega)) dX12_buyNow_57 (fun H locs hP hD hS => ?_)
      generalize hf_77 : (upd fw (x_70 : Int32).toNatClampNeg r_75) = f_77 at hP hD
      have hf_77_0 : RowOK f_77 := by rw [← hf_77]; exact RowOK.upd zfw hx_70 (by omega) rfl (PR.free (by omega))
      have kf_77 : f_77 ((19 + x.toInt)).toNat = r_75 := by rw [← hf_77, i_clamp hx_70]; exact pk_us
      have hP : va_P D vwCl [(m0, .inr (12, [m_0, m_1, m_2, .ref w0, m_4, m_5, .ref u0, .ref s0, .int (u_66.2.2.2.1 0), m_9, m_10, m_11, m_12, m_13, m_14, m_15, m_16, m_17, m_18, m_19, m_20, m_21, m_22, m_23, m_24, m_25, m_26, m_27, m_28, m_29, m_30, m_31, m_32, m_33, m_34, m_35, m_36, m_37, m_38, m_39, m_40, m_41, m_42, m_43, m_44, m_45, m_46, m_47, m_48, m_49, m_50, m_51, m_52, m_53, m_54, m_55, m_56, m_57, m_58, m_59])), (w0, .inl (K 0, 5500, .inl f_77)), (u0, .inl (K 0, 558, .inl (u_66.2.1 0))), (s0, .inl (K 0, 16, .inl (u_66.2.1 1)))] H := hP
      have hD : va_D A [(m0, .inr (12, [m_0, m_1, m_2, .ref w0, m_4, m_5, .ref u0, .ref s0, .int (u_66.2.2.2.1 0), m_9, m_10, m_11, m_12, m_13, m_14, m_15, m_16, m_17, m_18, m_19, m_20, m_21, m_22, m_23, m_24, m_25, m_26, m_27, m_28, m_29, m_30, m_31, m_32, m_33, m_34, m_35, m_36, m_37, m_38, m_39, m_40, m_41, m_42, m_43, m_44, m_45, m_46, m_47, m_48, m_49, m_50, m_51, m_52, m_53, m_54, m_55, m_56, m_57, m_58, m_59])), (w0, .inl (K 0, 5500, .inl f_77)), (u0, .inl (K 0, 558, .inl (u_66.2.1 0))), (s0, .inl (K 0, 16, .inl (u_66.2.1 1)))] := hD
      refine lv_aload_n hx hb dX12_buyNow_58 rfl (lv_at hl 0 rfl) ?_
      refine va_get (ci := 12) (v := .ref w0) (C := RX12) (T := TX12) (N := 60) hx hb hts hw12 hown hK hP 0 rfl rfl 3 (by decide) (hts (.fieldLink RX12 13 "SmokeTuneModel" "row" "[I") (List.mem_cons_of_mem _ (List.mem_append_left _ (List.mem_of_getElem? (i := 1) rfl)))) (fun _ h9 => h9) rfl dX12_buyNow_59 ?_
      refine lv_bipush (v := 19) hx hb dX12_buyNow_62 (by decide) ?_
      refine lv_iload_n hx hb dX12_buyNow_64 rfl (lv_at hl 1 rfl) ?_
      refine lv_iadd hx hb dX12_buyNow_65 ?_
      refine lv_topi (fun x_78 ex_78 => ?_)
      have hx_78 : x_78.toInt = (19 + x.toInt) := by rw [ex_78]; exact i_add (show (19 : Int32).toInt = 19 from rfl) rfl (by omega)
      refine va_iald hx hb hK hP 1 0 rfl rfl (i_in hx_78 (by omega)) dX12_buyNow_66 ?_
      refine lv_topi (fun x_79 ex_79 => ?_)
      obtain rfl : x_79 = r_75 := ex_79.trans (by rw [i_clamp hx_78]; exact kf_77)
      subst hQ
      have hP9 := hP.sub (ws' := [(m0, .inr (12, [m_0, m_1, m_2, .ref w0, m_4, m_5, .ref u0, .ref s0, .int (u_66.2.2.2.1 0), m_9, m_10, m_11, m_12, m_13, m_14, m_15, m_16, m_17, m_18, m_19, m_20, m_21, m_22, m_23, m_24, m_25, m_26, m_27, m_28, m_29, m_30, m_31, m_32, m_33, m_34, m_35, m_36, m_37, m_38, m_39, m_40, m_41, m_42, m_43, m_44, m_45, m_46, m_47, m_48, m_49, m_50, m_51, m_52, m_53, m_54, m_55, m_56, m_57, m_58, m_59])), (w0, .inl (K 0, 5500, .inl f_77)), (u0, .inl (K 0, 558, .inl (u_66.2.1 0))), (s0, .inl (K 0, 16, .inl (u_66.2.1 1)))]) [0, 1, 2, 3] rfl
      have hD9 := hD.sub (ws' := [(m0, .inr (12, [m_0, m_1, m_2, .ref w0, m_4, m_5, .ref u0, .ref s0, .int (u_66.2.2.2.1 0), m_9, m_10, m_11, m_12, m_13, m_14, m_15, m_16, m_17, m_18, m_19, m_20, m_21, m_22, m_23, m_24, m_25, m_26, m_27, m_28, m_29, m_30, m_31, m_32, m_33, m_34, m_35, m_36, m_37, m_38, m_39, m_40, m_41, m_42, m_43, m_44, m_45, m_46, m_47, m_48, m_49, m_50, m_51, m_52, m_53, m_54, m_55, m_56, m_57, m_58, m_59])), (w0, .inl (K 0, 5500, .inl f_77)), (u0, .inl (K 0, 558, .inl (u_66.2.1 0))), (s0, .inl (K 0, 16, .inl (u_66.2.1 1)))]) [0, 1, 2, 3] (by decide) rfl
      exact W.iret (v := r_75) hx hb hr (fun t ht hW => ⟨⟨r_75, ((fun _ => 0, fun i => match i with | 0 => f_77 | 1 => (u_66.2.1 0) | _ => (u_66.2.1 1), fun _ => fun _ => 0, fun i => match i with | _ => (u_66.2.2.2.1 0), fun _ => 0, fun _ => fun _ => none) : Su), rfl, ⟨(show (-2) ≤ r_75.toInt ∧ r_75.toInt ≤ 999 by omega), (show 0 ≤ ((u_66.2.2.2.1 0) : Int32).toInt ∧ ((u_66.2.2.2.1 0) : Int32).toInt ≤ 16 by omega), hf_77_0, k_68, k_69, trivial⟩, (⟨by rw [ht]; exact hP9, hD9⟩ : Wd D A _ t)⟩, hS.F ht⟩) hS.2.2 dX12_buyNow_67
    · refine lv_if_ne (tgt := 25) hx hb dX12_buyNow_19 (by decide) (fun c_80 => absurd (by decide) c_80) (fun c_80 => ?_)
      refine lv_bipush (v := (-2)) hx hb dX12_buyNow_22 (by decide) ?_
      subst hQ
      have hP9 := hP.sub (ws' := [(m0, .inr (12, [m_0, m_1, m_2, .ref w0, m_4, m_5, .ref u0, .ref s0, .int nu, m_9, m_10, m_11, m_12, m_13, m_14, m_15, m_16, m_17, m_18, m_19, m_20, m_21, m_22, m_23, m_24, m_25, m_26, m_27, m_28, m_29, m_30, m_31, m_32, m_33, m_34, m_35, m_36, m_37, m_38, m_39, m_40, m_41, m_42, m_43, m_44, m_45, m_46, m_47, m_48, m_49, m_50, m_51, m_52, m_53, m_54, m_55, m_56, m_57, m_58, m_59])), (w0, .inl (K 0, 5500, .inl fw)), (u0, .inl (K 0, 558, .inl fu)), (s0, .inl (K 0, 16, .inl fs))]) [0, 1, 2, 3] rfl
      have hD9 := hD.sub (ws' := [(m0, .inr (12, [m_0, m_1, m_2, .ref w0, m_4, m_5, .ref u0, .ref s0, .int nu, m_9, m_10, m_11, m_12, m_13, m_14, m_15, m_16, m_17, m_18, m_19, m_20, m_21, m_22, m_23, m_24, m_25, m_26, m_27, m_28, m_29, m_30, m_31, m_32, m_33, m_34, m_35, m_36, m_37, m_38, m_39, m_40, m_41, m_42, m_43, m_44, m_45, m_46, m_47, m_48, m_49, m_50, m_51, m_52, m_53, m_54, m_55, m_56, m_57, m_58, m_59])), (w0, .inl (K 0, 5500, .inl fw)), (u0, .inl (K 0, 558, .inl fu)), (s0, .inl (K 0, 16, .inl fs))]) [0, 1, 2, 3] (by decide) rfl
      exact W.iret (v := (-2)) hx hb hr (fun t ht hW => ⟨⟨(-2), ((fun _ => 0, fun i => match i with | 0 => fw | 1 => fu | _ => fs, fun _ => fun _ => 0, fun i => match i with | _ => nu, fun _ => 0, fun _ => fun _ => none) : Su), rfl, ⟨(show (-2) ≤ ((-2) : Int32).toInt ∧ ((-2) : Int32).toInt ≤ 999 by decide), (show 0 ≤ (nu : Int32).toInt ∧ (nu : Int32).toInt ≤ 16 by omega), zfw, zfu, zfs, trivial⟩, (⟨by rw [ht]; exact hP9, hD9⟩ : Wd D A _ t)⟩, hS.F ht⟩) hS.2.2 dX12_buyNow_24
  · refine lv_if_ne (tgt := 14) hx hb dX12_buyNow_9 (by decide) (fun c_81 => absurd (by decide) c_81) (fun c_81 => ?_)
    refine lv_iconst (v := (-1)) hx hb dX12_buyNow_12 (by decide) ?_
    subst hQ
    have hP9 := hP.sub (ws' := [(m0, .inr (12, [m_0, m_1, m_2, .ref w0, m_4, m_5, .ref u0, .ref s0, .int nu, m_9, m_10, m_11, m_12, m_13, m_14, m_15, m_16, m_17, m_18, m_19, m_20, m_21, m_22, m_23, m_24, m_25, m_26, m_27, m_28, m_29, m_30, m_31, m_32, m_33, m_34, m_35, m_36, m_37, m_38, m_39, m_40, m_41, m_42, m_43, m_44, m_45, m_46, m_47, m_48, m_49, m_50, m_51, m_52, m_53, m_54, m_55, m_56, m_57, m_58, m_59])), (w0, .inl (K 0, 5500, .inl fw)), (u0, .inl (K 0, 558, .inl fu)), (s0, .inl (K 0, 16, .inl fs))]) [0, 1, 2, 3] rfl
    have hD9 := hD.sub (ws' := [(m0, .inr (12, [m_0, m_1, m_2, .ref w0, m_4, m_5, .ref u0, .ref s0, .int nu, m_9, m_10, m_11, m_12, m_13, m_14, m_15, m_16, m_17, m_18, m_19, m_20, m_21, m_22, m_23, m_24, m_25, m_26, m_27, m_28, m_29, m_30, m_31, m_32, m_33, m_34, m_35, m_36, m_37, m_38, m_39, m_40, m_41, m_42, m_43, m_44, m_45, m_46, m_47, m_48, m_49, m_50, m_51, m_52, m_53, m_54, m_55, m_56, m_57, m_58, m_59])), (w0, .inl (K 0, 5500, .inl fw)), (u0, .inl (K 0, 558, .inl fu)), (s0, .inl (K 0, 16, .inl fs))]) [0, 1, 2, 3] (by decide) rfl
    exact W.iret (v := (-1)) hx hb hr (fun t ht hW => ⟨⟨(-1), ((fun _ => 0, fun i => match i with | 0 => fw | 1 => fu | _ => fs, fun _ => fun _ => 0, fun i => match i with | _ => nu, fun _ => 0, fun _ => fun _ => none) : Su), rfl, ⟨(show (-2) ≤ ((-1) : Int32).toInt ∧ ((-1) : Int32).toInt ≤ 999 by decide), (show 0 ≤ (nu : Int32).toInt ∧ (nu : Int32).toInt ≤ 16 by omega), zfw, zfu, zfs, trivial⟩, (⟨by rw [ht]; exact hP9, hD9⟩ : Wd D A _ t)⟩, hS.F ht⟩) hS.2.2 dX12_buyNow_13
set_option maxHeartbeats 4000000 in
set_option maxRecDepth 100000 in
theorem v_stoke (l : Launch) (D : va_G) (K : Nat → ClassId) (m0 : Nat) (x : Int32) (thr : Int32) (sta : Int32) (r0 : Nat) (w0 : Nat) (m_4 : Value) (m_5 : Value) (u0 : Nat) (s0 : Nat) (nu : Int32) (m_9 : Value) (m_10 : Value) (m_11 : Value) (m_12 : Value) (m_13 : Value) (m_14 : Value) (m_15 : Value) (m_16 : Value) (m_17 : Value) (m_18 : Value) (m_19 : Value) (m_21 : Value) (m_22 : Value) (m_23 : Value) (m_24 : Value) (m_25 : Value) (m_26 : Value) (m_27 : Value) (m_28 : Value) (m_29 : Value) (m_30 : Value) (m_31 : Value) (m_32 : Value) (m_33 : Value) (lw : Int32) (e0 : Nat) (m_36 : Value) (q0 : Nat) (bro : Int32) (val : Int64) (sm : Int64) (m_41 : Value) (m_42 : Value) (m_43 : Value) (m_44 : Value) (m_45 : Value) (m_46 : Value) (m_47 : Value) (m_48 : Value) (m_49 : Value) (m_50 : Value) (m_51 : Value) (m_52 : Value) (m_53 : Value) (m_54 : Value) (m_55 : Value) (m_56 : Value) (m_57 : Value) (m_58 : Value) (m_59 : Value) (fw : Nat → Int32) (fe : Nat → Int64) (fq : Nat → Int64) (fu : Nat → Int32) (fs : Nat → Int32) (fr : Nat → Int32) (sz : Nat) (zbro : 0 ≤ bro.toInt ∧ bro.toInt ≤ 1) (znu : 0 ≤ nu.toInt ∧ nu.toInt ≤ 16) (zfw : RowOK fw) (zfu : Pu 558 fu) (zfs : Rg 16 0 3 fs) : Met l yX12_stoke wsX12_stoke ({ frames := 8, cells := 0, slots := 0, locals := 188 }) (va_Pc [.ref m0, .int x] (Pre D K [(m0, .inr (12, [.int thr, .int sta, .ref r0, .ref w0, m_4, m_5, .ref u0, .ref s0, .int nu, m_9, m_10, m_11, m_12, m_13, m_14, m_15, m_16, m_17, m_18, m_19, .int 0, m_21, m_22, m_23, m_24, m_25, m_26, m_27, m_28, m_29, m_30, m_31, m_32, m_33, .int lw, .ref e0, m_36, .ref q0, .int bro, .long val, .long sm, m_41, m_42, m_43, m_44, m_45, m_46, m_47, m_48, m_49, m_50, m_51, m_52, m_53, m_54, m_55, m_56, m_57, m_58, m_59])), (w0, .inl (K 0, 5500, .inl fw)), (e0, .inl (K 2, 13, .inr (.inl fe))), (q0, .inl (K 2, 400, .inr (.inl fq))), (u0, .inl (K 0, 558, .inl fu)), (s0, .inl (K 0, 16, .inl fs)), (r0, .inl (K 0, 7, .inl fr))] sz)) (va_Qi (S := Su) (fun (r : Int32) (u : Su) => ((-6) ≤ r.toInt) ∧ ((-6) ≤ (u.2.2.2.1 0).toInt ∧ (u.2.2.2.1 0).toInt ≤ 0) ∧ (0 ≤ (u.2.2.2.1 1).toInt ∧ (u.2.2.2.1 1).toInt ≤ 16) ∧ (0 ≤ (u.2.2.2.1 3).toInt ∧ (u.2.2.2.1 3).toInt ≤ 1) ∧ (RowOK (u.2.1 0)) ∧ (Pu 558 (u.2.1 1)) ∧ (Rg 16 0 3 (u.2.1 2)) ∧ True) (fun u t => Wd D (va_A [(m0, .inr (12, [.int thr, .int sta, .ref r0, .ref w0, m_4, m_5, .ref u0, .ref s0, .int nu, m_9, m_10, m_11, m_12, m_13, m_14, m_15, m_16, m_17, m_18, m_19, .int 0, m_21, m_22, m_23, m_24, m_25, m_26, m_27, m_28, m_29, m_30, m_31, m_32, m_33, .int lw, .ref e0, m_36, .ref q0, .int bro, .long val, .long sm, m_41, m_42, m_43, m_44, m_45, m_46, m_47, m_48, m_49, m_50, m_51, m_52, m_53, m_54, m_55, m_56, m_57, m_58, m_59])), (w0, .inl (K 0, 5500, .inl fw)), (e0, .inl (K 2, 13, .inr (.inl fe))), (q0, .inl (K 2, 400, .inr (.inl fq))), (u0, .inl (K 0, 558, .inl fu)), (s0, .inl (K 0, 16, .inl fs)), (r0, .inl (K 0, 7, .inl fr))] sz) ((fun u => [(m0, .inr (12, [.int 0, .int (u.2.2.2.1 0), .ref r0, .ref w0, m_4, m_5, .ref u0, .ref s0, .int (u.2.2.2.1 1), m_9, m_10, m_11, m_12, m_13, m_14, m_15, m_16, m_17, m_18, m_19, .int 0, m_21, m_22, m_23, m_24, m_25, m_26, m_27, m_28, m_29, m_30, m_31, m_32, m_33, .int (u.2.2.2.1 2), .ref e0, m_36, .ref q0, .int (u.2.2.2.1 3), .long (u.2.2.2.2.1 0), .long (u.2.2.2.2.1 1), m_41, m_42, m_43, m_44, m_45, m_46, m_47, m_48, m_49, m_50, m_51, m_52, m_53, m_54, m_55, m_56, m_57, m_58, m_59])), (w0, .inl (K 0, 5500, .inl (u.2.1 0))), (e0, .inl (K 2, 13, .inr (.inl (u.2.2.1 0)))), (q0, .inl (K 2, 400, .inr (.inl (u.2.2.1 1)))), (u0, .inl (K 0, 558, .inl (u.2.1 1))), (s0, .inl (K 0, 16, .inl (u.2.1 2))), (r0, .inl (K 0, 7, .inl (u.2.1 3)))]) u) t) (va_A [(m0, .inr (12, [.int thr, .int sta, .ref r0, .ref w0, m_4, m_5, .ref u0, .ref s0, .int nu, m_9, m_10, m_11, m_12, m_13, m_14, m_15, m_16, m_17, m_18, m_19, .int 0, m_21, m_22, m_23, m_24, m_25, m_26, m_27, m_28, m_29, m_30, m_31, m_32, m_33, .int lw, .ref e0, m_36, .ref q0, .int bro, .long val, .long sm, m_41, m_42, m_43, m_44, m_45, m_46, m_47, m_48, m_49, m_50, m_51, m_52, m_53, m_54, m_55, m_56, m_57, m_58, m_59])), (w0, .inl (K 0, 5500, .inl fw)), (e0, .inl (K 2, 13, .inr (.inl fe))), (q0, .inl (K 2, 400, .inr (.inl fq))), (u0, .inl (K 0, 558, .inl fu)), (s0, .inl (K 0, 16, .inl fs)), (r0, .inl (K 0, 7, .inl fr))] sz)) 0 0 (va_A [(m0, .inr (12, [.int thr, .int sta, .ref r0, .ref w0, m_4, m_5, .ref u0, .ref s0, .int nu, m_9, m_10, m_11, m_12, m_13, m_14, m_15, m_16, m_17, m_18, m_19, .int 0, m_21, m_22, m_23, m_24, m_25, m_26, m_27, m_28, m_29, m_30, m_31, m_32, m_33, .int lw, .ref e0, m_36, .ref q0, .int bro, .long val, .long sm, m_41, m_42, m_43, m_44, m_45, m_46, m_47, m_48, m_49, m_50, m_51, m_52, m_53, m_54, m_55, m_56, m_57, m_58, m_59])), (w0, .inl (K 0, 5500, .inl fw)), (e0, .inl (K 2, 13, .inr (.inl fe))), (q0, .inl (K 2, 400, .inr (.inl fq))), (u0, .inl (K 0, 558, .inl fu)), (s0, .inl (K 0, 16, .inl fs)), (r0, .inl (K 0, 7, .inl fr))] sz) := by
  refine Met.ofW (cc := cX12_stoke) (maxL := 2) (ret := (some .int)) (by decide) rfl ?_
  intro p e s m args below meth c s₁ B hml hv
  obtain ⟨rfl, hsz, hP, hK, hD0, hN⟩ := hv
  have hx := B.exec
  have hb := B.bytes
  have hr := B.returns
  have hts := atoms_spec (ws := wsX12_stoke) B.pre
  have hown : s.vm.findClass RX12 = some m.cls := findClass_of_methodNamed B.named
  have hlocks := B.notSynchronized
  subst hsz
  have hD := hD0.self (sz := s.heap.size)
  generalize hAe : va_A [(m0, .inr (12, [.int thr, .int sta, .ref r0, .ref w0, m_4, m_5, .ref u0, .ref s0, .int nu, m_9, m_10, m_11, m_12, m_13, m_14, m_15, m_16, m_17, m_18, m_19, .int 0, m_21, m_22, m_23, m_24, m_25, m_26, m_27, m_28, m_29, m_30, m_31, m_32, m_33, .int lw, .ref e0, m_36, .ref q0, .int bro, .long val, .long sm, m_41, m_42, m_43, m_44, m_45, m_46, m_47, m_48, m_49, m_50, m_51, m_52, m_53, m_54, m_55, m_56, m_57, m_58, m_59])), (w0, .inl (K 0, 5500, .inl fw)), (e0, .inl (K 2, 13, .inr (.inl fe))), (q0, .inl (K 2, 400, .inr (.inl fq))), (u0, .inl (K 0, 558, .inl fu)), (s0, .inl (K 0, 16, .inl fs)), (r0, .inl (K 0, 7, .inl fr))] s.heap.size = A at hD ⊢
  have hA : ∀ q : Nat, s.heap.size ≤ q → A q := fun q h => by rw [← hAe]; exact Or.inr h
  have hS : va_S A s.heap s.heap [] := va_S.rf
  have hP : va_P D vwCl [(m0, .inr (12, [.int thr, .int sta, .ref r0, .ref w0, m_4, m_5, .ref u0, .ref s0, .int nu, m_9, m_10, m_11, m_12, m_13, m_14, m_15, m_16, m_17, m_18, m_19, .int 0, m_21, m_22, m_23, m_24, m_25, m_26, m_27, m_28, m_29, m_30, m_31, m_32, m_33, .int lw, .ref e0, m_36, .ref q0, .int bro, .long val, .long sm, m_41, m_42, m_43, m_44, m_45, m_46, m_47, m_48, m_49, m_50, m_51, m_52, m_53, m_54, m_55, m_56, m_57, m_58, m_59])), (w0, .inl (K 0, 5500, .inl fw)), (e0, .inl (K 2, 13, .inr (.inl fe))), (q0, .inl (K 2, 400, .inr (.inl fq))), (u0, .inl (K 0, 558, .inl fu)), (s0, .inl (K 0, 16, .inl fs)), (r0, .inl (K 0, 7, .inl fr))] s.heap := hP
  have hl := lv_entry [.ref m0, .int x] (n := 2) (Nat.le_of_ble_eq_true rfl)
  rw [lg_entry_eq]
  generalize (lg_sl [.ref m0, .int x] ++ List.replicate (2 - (lg_sl [.ref m0, .int x]).length) Slot.unset).toArray = ls at hl ⊢
  have hl : lv_has ls 2 [(0, .ref m0), (1, .int x)] := hl
  have hw12 : ∀ w ∈ wsX120, w ∈ wsX12_stoke := fun w h => (List.mem_cons_of_mem _ (List.mem_append_right _ h))
  generalize hQ : MQ below _ _ s _ _ _ = Q
  refine lv_aload_n hx hb dX12_stoke_0 rfl (lv_at hl 0 rfl) ?_
  refine lv_iconst (v := 0) hx hb dX12_stoke_1 (by decide) ?_
  refine va_put (ci := 12) (v := .int 0) (ty := .int) (C := RX12) (T := TX12) (N := 60) hx hb hts hw12 tyX12 tyX12_ok nmX12 hown hK hP hD hS 0 rfl rfl 0 (by decide) (hts (.fieldLink RX12 158 "SmokeTuneModel" "thrown" "I") (List.mem_cons_of_mem _ (List.mem_append_left _ (List.mem_append_left _ (List.mem_of_getElem? (i := 0) rfl))))) (fun _ h9 => h9) rfl (by decide +kernel) (by first | rfl | decide) (by first | rfl | decide) (Nat.le_of_ble_eq_true rfl) dX12_stoke_2 (fun H locs hP hD hS => ?_)
  have hP : va_P D vwCl [(m0, .inr (12, [.int 0, .int sta, .ref r0, .ref w0, m_4, m_5, .ref u0, .ref s0, .int nu, m_9, m_10, m_11, m_12, m_13, m_14, m_15, m_16, m_17, m_18, m_19, .int 0, m_21, m_22, m_23, m_24, m_25, m_26, m_27, m_28, m_29, m_30, m_31, m_32, m_33, .int lw, .ref e0, m_36, .ref q0, .int bro, .long val, .long sm, m_41, m_42, m_43, m_44, m_45, m_46, m_47, m_48, m_49, m_50, m_51, m_52, m_53, m_54, m_55, m_56, m_57, m_58, m_59])), (w0, .inl (K 0, 5500, .inl fw)), (e0, .inl (K 2, 13, .inr (.inl fe))), (q0, .inl (K 2, 400, .inr (.inl fq))), (u0, .inl (K 0, 558, .inl fu)), (s0, .inl (K 0, 16, .inl fs)), (r0, .inl (K 0, 7, .inl fr))] H := hP
  have hD : va_D A [(m0, .inr (12, [.int 0, .int sta, .ref r0, .ref w0, m_4, m_5, .ref u0, .ref s0, .int nu, m_9, m_10, m_11, m_12, m_13, m_14, m_15, m_16, m_17, m_18, m_19, .int 0, m_21, m_22, m_23, m_24, m_25, m_26, m_27, m_28, m_29, m_30, m_31, m_32, m_33, .int lw, .ref e0, m_36, .ref q0, .int bro, .long val, .long sm, m_41, m_42, m_43, m_44, m_45, m_46, m_47, m_48, m_49, m_50, m_51, m_52, m_53, m_54, m_55, m_56, m_57, m_58, m_59])), (w0, .inl (K 0, 5500, .inl fw)), (e0, .inl (K 2, 13, .inr (.inl fe))), (q0, .inl (K 2, 400, .inr (.inl fq))), (u0, .inl (K 0, 558, .inl fu)), (s0, .inl (K 0, 16, .inl fs)), (r0, .inl (K 0, 7, .inl fr))] := hD
  refine lv_aload_n hx hb dX12_stoke_5 rfl (lv_at hl 0 rfl) ?_
  refine lv_aload_n hx hb dX12_stoke_6 rfl (lv_at hl 0 rfl) ?_
  refine lv_iload_n hx hb dX12_stoke_7 rfl (lv_at hl 1 rfl) ?_
  refine kci (S := Su) (wr := [(r0, .inl (K 0, 7, .inl fr))]) (va_runV (As := [.int x]) (rest := [.ref m0]) ⟨hx, hb, hml, hown, hts⟩ (v_stokeNow l D K m0 x (.int 0) (.int sta) (.ref r0) w0 m_4 m_5 u0 s0 nu m_9 m_10 m_11 m_12 m_13 m_14 m_15 m_16 m_17 m_18 m_19 m_21 m_22 m_23 m_24 m_25 m_26 m_27 m_28 m_29 m_30 m_31 m_32 m_33 lw e0 m_36 q0 bro val sm m_41 m_42 m_43 m_44 m_45 m_46 m_47 m_48 m_49 m_50 m_51 m_52 m_53 m_54 m_55 m_56 m_57 m_58 m_59 fw fe fq fu fs H.size (by first | omega | decide) (by first | omega | decide) zfw zfu zfs) (cwV 1 hts gX12_stoke_X12_stokeNow rfl rfl rfl (by decide +kernel) ⟨Nat.le_of_ble_eq_true rfl, Nat.le_of_ble_eq_true rfl⟩) (mkV hK hN (hP.sub [0, 1, 2, 3, 4, 5] rfl) (hD.sub [0, 1, 2, 3, 4, 5] (by decide) rfl) (ci := 12) (q0 := 0) rfl rfl) rfl rfl hl.1 rfl (lv_room (Nat.le_of_ble_eq_true rfl)) dX12_stoke_8 ⟨Nat.le_of_ble_eq_true rfl, Nat.le_of_ble_eq_true rfl⟩) hP hD hS hA [0, 1, 2, 3, 4, 5] [6] rfl rfl (by decide) (by decide) (fun r_25 u_26 H locs hw hP hD hS => ?_)
  have hP : va_P D vwCl [(r0, .inl (K 0, 7, .inl fr)), (m0, .inr (12, [.int 0, .int sta, .ref r0, .ref w0, m_4, m_5, .ref u0, .ref s0, .int (u_26.2.2.2.1 0), m_9, m_10, m_11, m_12, m_13, m_14, m_15, m_16, m_17, m_18, m_19, .int 0, m_21, m_22, m_23, m_24, m_25, m_26, m_27, m_28, m_29, m_30, m_31, m_32, m_33, .int (u_26.2.2.2.1 1), .ref e0, m_36, .ref q0, .int (u_26.2.2.2.1 2), .long (u_26.2.2.2.2.1 0), .long (u_26.2.2.2.2.1 1), m_41, m_42, m_43, m_44, m_45, m_46, m_47, m_48, m_49, m_50, m_51, m_52, m_53, m_54, m_55, m_56, m_57, m_58, m_59])), (w0, .inl (K 0, 5500, .inl (u_26.2.1 0))), (e0, .inl (K 2, 13, .inr (.inl (u_26.2.2.1 0)))), (q0, .inl (K 2, 400, .inr (.inl (u_26.2.2.1 1)))), (u0, .inl (K 0, 558, .inl (u_26.2.1 1))), (s0, .inl (K 0, 16, .inl (u_26.2.1 2)))] H := hP
  have hD : va_D A [(r0, .inl (K 0, 7, .inl fr)), (m0, .inr (12, [.int 0, .int sta, .ref r0, .ref w0, m_4, m_5, .ref u0, .ref s0, .int (u_26.2.2.2.1 0), m_9, m_10, m_11, m_12, m_13, m_14, m_15, m_16, m_17, m_18, m_19, .int 0, m_21, m_22, m_23, m_24, m_25, m_26, m_27, m_28, m_29, m_30, m_31, m_32, m_33, .int (u_26.2.2.2.1 1), .ref e0, m_36, .ref q0, .int (u_26.2.2.2.1 2), .long (u_26.2.2.2.2.1 0), .long (u_26.2.2.2.2.1 1), m_41, m_42, m_43, m_44, m_45, m_46, m_47, m_48, m_49, m_50, m_51, m_52, m_53, m_54, m_55, m_56, m_57, m_58, m_59])), (w0, .inl (K 0, 5500, .inl (u_26.2.1 0))), (e0, .inl (K 2, 13, .inr (.inl (u_26.2.2.1 0)))), (q0, .inl (K 2, 400, .inr (.inl (u_26.2.2.1 1)))), (u0, .inl (K 0, 558, .inl (u_26.2.1 1))), (s0, .inl (K 0, 16, .inl (u_26.2.1 2)))] := hD
  obtain ⟨h_32, k_27, k_28, k_29, k_30, k_31, -⟩ := hw
  refine kci (S := Su) (wr := [(w0, .inl (K 0, 5500, .inl (u_26.2.1 0))), (e0, .inl (K 2, 13, .inr (.inl (u_26.2.2.1 0)))), (q0, .inl (K 2, 400, .inr (.inl (u_26.2.2.1 1)))), (u0, .inl (K 0, 558, .inl (u_26.2.1 1))), (s0, .inl (K 0, 16, .inl (u_26.2.1 2)))]) (va_runV (As := [.int r_25]) (rest := []) ⟨hx, hb, hml, hown, hts⟩ (v_tell l D K m0 r_25 (.int 0) sta r0 (.ref w0) m_4 m_5 (.ref u0) (.ref s0) (.int (u_26.2.2.2.1 0)) m_9 m_10 m_11 m_12 m_13 m_14 m_15 m_16 m_17 m_18 m_19 (.int 0) m_21 m_22 m_23 m_24 m_25 m_26 m_27 m_28 m_29 m_30 m_31 m_32 m_33 (.int (u_26.2.2.2.1 1)) (.ref e0) m_36 (.ref q0) (.int (u_26.2.2.2.1 2)) (.long (u_26.2.2.2.2.1 0)) (.long (u_26.2.2.2.2.1 1)) m_41 m_42 m_43 m_44 m_45 m_46 m_47 m_48 m_49 m_50 m_51 m_52 m_53 m_54 m_55 m_56 m_57 m_58 m_59 fr H.size (by first | omega | decide)) (cwV 1 hts gX12_stoke_X12_tell rfl rfl rfl (by decide +kernel) ⟨Nat.le_of_ble_eq_true rfl, Nat.le_of_ble_eq_true rfl⟩) (mkV hK hN (hP.sub [1, 0] rfl) (hD.sub [1, 0] (by decide) rfl) (ci := 12) (q0 := 0) rfl rfl) rfl rfl hl.1 rfl (lv_room (Nat.le_of_ble_eq_true rfl)) dX12_stoke_11 ⟨Nat.le_of_ble_eq_true rfl, Nat.le_of_ble_eq_true rfl⟩) hP hD hS hA [1, 0] [2, 3, 4, 5, 6] rfl rfl (by decide) (by decide) (fun r_33 u_34 H locs hw hP hD hS => ?_)
  have hP : va_P D vwCl [(w0, .inl (K 0, 5500, .inl (u_26.2.1 0))), (e0, .inl (K 2, 13, .inr (.inl (u_26.2.2.1 0)))), (q0, .inl (K 2, 400, .inr (.inl (u_26.2.2.1 1)))), (u0, .inl (K 0, 558, .inl (u_26.2.1 1))), (s0, .inl (K 0, 16, .inl (u_26.2.1 2))), (m0, .inr (12, [.int 0, .int (u_34.2.2.2.1 0), .ref r0, .ref w0, m_4, m_5, .ref u0, .ref s0, .int (u_26.2.2.2.1 0), m_9, m_10, m_11, m_12, m_13, m_14, m_15, m_16, m_17, m_18, m_19, .int 0, m_21, m_22, m_23, m_24, m_25, m_26, m_27, m_28, m_29, m_30, m_31, m_32, m_33, .int (u_26.2.2.2.1 1), .ref e0, m_36, .ref q0, .int (u_26.2.2.2.1 2), .long (u_26.2.2.2.2.1 0), .long (u_26.2.2.2.2.1 1), m_41, m_42, m_43, m_44, m_45, m_46, m_47, m_48, m_49, m_50, m_51, m_52, m_53, m_54, m_55, m_56, m_57, m_58, m_59])), (r0, .inl (K 0, 7, .inl (u_34.2.1 0)))] H := hP
  have hD : va_D A [(w0, .inl (K 0, 5500, .inl (u_26.2.1 0))), (e0, .inl (K 2, 13, .inr (.inl (u_26.2.2.1 0)))), (q0, .inl (K 2, 400, .inr (.inl (u_26.2.2.1 1)))), (u0, .inl (K 0, 558, .inl (u_26.2.1 1))), (s0, .inl (K 0, 16, .inl (u_26.2.1 2))), (m0, .inr (12, [.int 0, .int (u_34.2.2.2.1 0), .ref r0, .ref w0, m_4, m_5, .ref u0, .ref s0, .int (u_26.2.2.2.1 0), m_9, m_10, m_11, m_12, m_13, m_14, m_15, m_16, m_17, m_18, m_19, .int 0, m_21, m_22, m_23, m_24, m_25, m_26, m_27, m_28, m_29, m_30, m_31, m_32, m_33, .int (u_26.2.2.2.1 1), .ref e0, m_36, .ref q0, .int (u_26.2.2.2.1 2), .long (u_26.2.2.2.2.1 0), .long (u_26.2.2.2.2.1 1), m_41, m_42, m_43, m_44, m_45, m_46, m_47, m_48, m_49, m_50, m_51, m_52, m_53, m_54, m_55, m_56, m_57, m_58, m_59])), (r0, .inl (K 0, 7, .inl (u_34.2.1 0)))] := hD
  obtain ⟨h_36, k_35, -⟩ := hw
  subst hQ
  have hP9 := hP.sub (ws' := [(m0, .inr (12, [.int 0, .int (u_34.2.2.2.1 0), .ref r0, .ref w0, m_4, m_5, .ref u0, .ref s0, .int (u_26.2.2.2.1 0), m_9, m_10, m_11, m_12, m_13, m_14, m_15, m_16, m_17, m_18, m_19, .int 0, m_21, m_22, m_23, m_24, m_25, m_26, m_27, m_28, m_29, m_30, m_31, m_32, m_33, .int (u_26.2.2.2.1 1), .ref e0, m_36, .ref q0, .int (u_26.2.2.2.1 2), .long (u_26.2.2.2.2.1 0), .long (u_26.2.2.2.2.1 1), m_41, m_42, m_43, m_44, m_45, m_46, m_47, m_48, m_49, m_50, m_51, m_52, m_53, m_54, m_55, m_56, m_57, m_58, m_59])), (w0, .inl (K 0, 5500, .inl (u_26.2.1 0))), (e0, .inl (K 2, 13, .inr (.inl (u_26.2.2.1 0)))), (q0, .inl (K 2, 400, .inr (.inl (u_26.2.2.1 1)))), (u0, .inl (K 0, 558, .inl (u_26.2.1 1))), (s0, .inl (K 0, 16, .inl (u_26.2.1 2))), (r0, .inl (K 0, 7, .inl (u_34.2.1 0)))]) [5, 0, 1, 2, 3, 4, 6] rfl
  have hD9 := hD.sub (ws' := [(m0, .inr (12, [.int 0, .int (u_34.2.2.2.1 0), .ref r0, .ref w0, m_4, m_5, .ref u0, .ref s0, .int (u_26.2.2.2.1 0), m_9, m_10, m_11, m_12, m_13, m_14, m_15, m_16, m_17, m_18, m_19, .int 0, m_21, m_22, m_23, m_24, m_25, m_26, m_27, m_28, m_29, m_30, m_31, m_32, m_33, .int (u_26.2.2.2.1 1), .ref e0, m_36, .ref q0, .int (u_26.2.2.2.1 2), .long (u_26.2.2.2.2.1 0), .long (u_26.2.2.2.2.1 1), m_41, m_42, m_43, m_44, m_45, m_46, m_47, m_48, m_49, m_50, m_51, m_52, m_53, m_54, m_55, m_56, m_57, m_58, m_59])), (w0, .inl (K 0, 5500, .inl (u_26.2.1 0))), (e0, .inl (K 2, 13, .inr (.inl (u_26.2.2.1 0)))), (q0, .inl (K 2, 400, .inr (.inl (u_26.2.2.1 1)))), (u0, .inl (K 0, 558, .inl (u_26.2.1 1))), (s0, .inl (K 0, 16, .inl (u_26.2.1 2))), (r0, .inl (K 0, 7, .inl (u_34.2.1 0)))]) [5, 0, 1, 2, 3, 4, 6] (by decide) rfl
  exact W.iret (v := r_33) hx hb hr (fun t ht hW => ⟨⟨r_33, ((fun _ => 0, fun i => match i with | 0 => (u_26.2.1 0) | 1 => (u_26.2.1 1) | 2 => (u_26.2.1 2) | _ => (u_34.2.1 0), fun i => match i with | 0 => (u_26.2.2.1 0) | _ => (u_26.2.2.1 1), fun i => match i with | 0 => (u_34.2.2.2.1 0) | 1 => (u_26.2.2.2.1 0) | 2 => (u_26.2.2.2.1 1) | _ => (u_26.2.2.2.1 2), fun i => match i with | 0 => (u_26.2.2.2.2.1 0) | _ => (u_26.2.2.2.2.1 1), fun _ => fun _ => none) : Su), rfl, ⟨(show (-6) ≤ r_33.toInt by omega), (show (-6) ≤ ((u_34.2.2.2.1 0) : Int32).toInt ∧ ((u_34.2.2.2.1 0) : Int32).toInt ≤ 0 by omega), (show 0 ≤ ((u_26.2.2.2.1 0) : Int32).toInt ∧ ((u_26.2.2.2.1 0) : Int32).toInt ≤ 16 by omega), (show 0 ≤ ((u_26.2.2.2.1 2) : Int32).toInt ∧ ((u_26.2.2.2.1 2) : Int32).toInt ≤ 1 by omega), k_29, k_30, k_31, trivial⟩, (⟨by rw [ht]; exact hP9, hD9⟩ : Wd D A _ t)⟩, hS.F ht⟩) hS.2.2 dX12_stoke_14
set_option maxHeartbeats 4000000 in
set_option maxRecDepth 100000 in
theorem v_damp (l : Launch) (D : va_G) (K : Nat → ClassId) (m0 : Nat) (x : Int32) (y : Int32) (thr : Int32) (sta : Int32) (r0 : Nat) (w0 : Nat) (m_4 : Value) (m_5 : Value) (u0 : Nat) (s0 : Nat) (nu : Int32) (m_9 : Value) (m_10 : Value) (m_11 : Value) (m_12 : Value) (m_13 : Value) (m_14 : Value) (m_15 : Value) (m_16 : Value) (m_17 : Value) (m_18 : Value) (m_19 : Value) (m_21 : Value) (m_22 : Value) (m_23 : Value) (m_24 : Value) (m_25 : Value) (m_26 : Value) (m_27 : Value) (m_28 : Value) (m_29 : Value) (m_30 : Value) (m_31 : Value) (m_32 : Value) (m_33 : Value) (lw : Int32) (e0 : Nat) (m_36 : Value) (q0 : Nat) (bro : Int32) (val : Int64) (sm : Int64) (m_41 : Value) (m_42 : Value) (m_43 : Value) (m_44 : Value) (m_45 : Value) (m_46 : Value) (m_47 : Value) (m_48 : Value) (m_49 : Value) (m_50 : Value) (m_51 : Value) (m_52 : Value) (m_53 : Value) (m_54 : Value) (m_55 : Value) (m_56 : Value) (m_57 : Value) (m_58 : Value) (m_59 : Value) (fw : Nat → Int32) (fe : Nat → Int64) (fq : Nat → Int64) (fu : Nat → Int32) (fs : Nat → Int32) (fr : Nat → Int32) (sz : Nat) (zbro : 0 ≤ bro.toInt ∧ bro.toInt ≤ 1) (znu : 0 ≤ nu.toInt ∧ nu.toInt ≤ 16) (zfw : RowOK fw) (zfu : Pu 558 fu) (zfs : Rg 16 0 3 fs) : Met l yX12_damp wsX12_damp ({ frames := 3, cells := 0, slots := 0, locals := 68 }) (va_Pc [.ref m0, .int x, .int y] (Pre D K [(m0, .inr (12, [.int thr, .int sta, .ref r0, .ref w0, m_4, m_5, .ref u0, .ref s0, .int nu, m_9, m_10, m_11, m_12, m_13, m_14, m_15, m_16, m_17, m_18, m_19, .int 0, m_21, m_22, m_23, m_24, m_25, m_26, m_27, m_28, m_29, m_30, m_31, m_32, m_33, .int lw, .ref e0, m_36, .ref q0, .int bro, .long val, .long sm, m_41, m_42, m_43, m_44, m_45, m_46, m_47, m_48, m_49, m_50, m_51, m_52, m_53, m_54, m_55, m_56, m_57, m_58, m_59])), (w0, .inl (K 0, 5500, .inl fw)), (e0, .inl (K 2, 13, .inr (.inl fe))), (q0, .inl (K 2, 400, .inr (.inl fq))), (u0, .inl (K 0, 558, .inl fu)), (s0, .inl (K 0, 16, .inl fs)), (r0, .inl (K 0, 7, .inl fr))] sz)) (va_Qi (S := Su) (fun (r : Int32) (u : Su) => ((-6) ≤ r.toInt) ∧ ((-6) ≤ (u.2.2.2.1 0).toInt ∧ (u.2.2.2.1 0).toInt ≤ 0) ∧ (0 ≤ (u.2.2.2.1 1).toInt ∧ (u.2.2.2.1 1).toInt ≤ 16) ∧ (RowOK (u.2.1 0)) ∧ (Pu 558 (u.2.1 1)) ∧ (Rg 16 0 3 (u.2.1 2)) ∧ True) (fun u t => Wd D (va_A [(m0, .inr (12, [.int thr, .int sta, .ref r0, .ref w0, m_4, m_5, .ref u0, .ref s0, .int nu, m_9, m_10, m_11, m_12, m_13, m_14, m_15, m_16, m_17, m_18, m_19, .int 0, m_21, m_22, m_23, m_24, m_25, m_26, m_27, m_28, m_29, m_30, m_31, m_32, m_33, .int lw, .ref e0, m_36, .ref q0, .int bro, .long val, .long sm, m_41, m_42, m_43, m_44, m_45, m_46, m_47, m_48, m_49, m_50, m_51, m_52, m_53, m_54, m_55, m_56, m_57, m_58, m_59])), (w0, .inl (K 0, 5500, .inl fw)), (e0, .inl (K 2, 13, .inr (.inl fe))), (q0, .inl (K 2, 400, .inr (.inl fq))), (u0, .inl (K 0, 558, .inl fu)), (s0, .inl (K 0, 16, .inl fs)), (r0, .inl (K 0, 7, .inl fr))] sz) ((fun u => [(m0, .inr (12, [.int 0, .int (u.2.2.2.1 0), .ref r0, .ref w0, m_4, m_5, .ref u0, .ref s0, .int (u.2.2.2.1 1), m_9, m_10, m_11, m_12, m_13, m_14, m_15, m_16, m_17, m_18, m_19, .int 0, m_21, m_22, m_23, m_24, m_25, m_26, m_27, m_28, m_29, m_30, m_31, m_32, m_33, .int lw, .ref e0, m_36, .ref q0, .int bro, .long val, .long sm, m_41, m_42, m_43, m_44, m_45, m_46, m_47, m_48, m_49, m_50, m_51, m_52, m_53, m_54, m_55, m_56, m_57, m_58, m_59])), (w0, .inl (K 0, 5500, .inl (u.2.1 0))), (e0, .inl (K 2, 13, .inr (.inl fe))), (q0, .inl (K 2, 400, .inr (.inl fq))), (u0, .inl (K 0, 558, .inl (u.2.1 1))), (s0, .inl (K 0, 16, .inl (u.2.1 2))), (r0, .inl (K 0, 7, .inl (u.2.1 3)))]) u) t) (va_A [(m0, .inr (12, [.int thr, .int sta, .ref r0, .ref w0, m_4, m_5, .ref u0, .ref s0, .int nu, m_9, m_10, m_11, m_12, m_13, m_14, m_15, m_16, m_17, m_18, m_19, .int 0, m_21, m_22, m_23, m_24, m_25, m_26, m_27, m_28, m_29, m_30, m_31, m_32, m_33, .int lw, .ref e0, m_36, .ref q0, .int bro, .long val, .long sm, m_41, m_42, m_43, m_44, m_45, m_46, m_47, m_48, m_49, m_50, m_51, m_52, m_53, m_54, m_55, m_56, m_57, m_58, m_59])), (w0, .inl (K 0, 5500, .inl fw)), (e0, .inl (K 2, 13, .inr (.inl fe))), (q0, .inl (K 2, 400, .inr (.inl fq))), (u0, .inl (K 0, 558, .inl fu)), (s0, .inl (K 0, 16, .inl fs)), (r0, .inl (K 0, 7, .inl fr))] sz)) 0 0 (va_A [(m0, .inr (12, [.int thr, .int sta, .ref r0, .ref w0, m_4, m_5, .ref u0, .ref s0, .int nu, m_9, m_10, m_11, m_12, m_13, m_14, m_15, m_16, m_17, m_18, m_19, .int 0, m_21, m_22, m_23, m_24, m_25, m_26, m_27, m_28, m_29, m_30, m_31, m_32, m_33, .int lw, .ref e0, m_36, .ref q0, .int bro, .long val, .long sm, m_41, m_42, m_43, m_44, m_45, m_46, m_47, m_48, m_49, m_50, m_51, m_52, m_53, m_54, m_55, m_56, m_57, m_58, m_59])), (w0, .inl (K 0, 5500, .inl fw)), (e0, .inl (K 2, 13, .inr (.inl fe))), (q0, .inl (K 2, 400, .inr (.inl fq))), (u0, .inl (K 0, 558, .inl fu)), (s0, .inl (K 0, 16, .inl fs)), (r0, .inl (K 0, 7, .inl fr))] sz) := by
  refine Met.ofW (cc := cX12_damp) (maxL := 3) (ret := (some .int)) (by decide) rfl ?_
  intro p e s m args below meth c s₁ B hml hv
  obtain ⟨rfl, hsz, hP, hK, hD0, hN⟩ := hv
  have hx := B.exec
  have hb := B.bytes
  have hr := B.returns
  have hts := atoms_spec (ws := wsX12_damp) B.pre
  have hown : s.vm.findClass RX12 = some m.cls := findClass_of_methodNamed B.named
  have hlocks := B.notSynchronized
  subst hsz
  have hD := hD0.self (sz := s.heap.size)
  generalize hAe : va_A [(m0, .inr (12, [.int thr, .int sta, .ref r0, .ref w0, m_4, m_5, .ref u0, .ref s0, .int nu, m_9, m_10, m_11, m_12, m_13, m_14, m_15, m_16, m_17, m_18, m_19, .int 0, m_21, m_22, m_23, m_24, m_25, m_26, m_27, m_28, m_29, m_30, m_31, m_32, m_33, .int lw, .ref e0, m_36, .ref q0, .int bro, .long val, .long sm, m_41, m_42, m_43, m_44, m_45, m_46, m_47, m_48, m_49, m_50, m_51, m_52, m_53, m_54, m_55, m_56, m_57, m_58, m_59])), (w0, .inl (K 0, 5500, .inl fw)), (e0, .inl (K 2, 13, .inr (.inl fe))), (q0, .inl (K 2, 400, .inr (.inl fq))), (u0, .inl (K 0, 558, .inl fu)), (s0, .inl (K 0, 16, .inl fs)), (r0, .inl (K 0, 7, .inl fr))] s.heap.size = A at hD ⊢
  have hA : ∀ q : Nat, s.heap.size ≤ q → A q := fun q h => by rw [← hAe]; exact Or.inr h
  have hS : va_S A s.heap s.heap [] := va_S.rf
  have hP : va_P D vwCl [(m0, .inr (12, [.int thr, .int sta, .ref r0, .ref w0, m_4, m_5, .ref u0, .ref s0, .int nu, m_9, m_10, m_11, m_12, m_13, m_14, m_15, m_16, m_17, m_18, m_19, .int 0, m_21, m_22, m_23, m_24, m_25, m_26, m_27, m_28, m_29, m_30, m_31, m_32, m_33, .int lw, .ref e0, m_36, .ref q0, .int bro, .long val, .long sm, m_41, m_42, m_43, m_44, m_45, m_46, m_47, m_48, m_49, m_50, m_51, m_52, m_53, m_54, m_55, m_56, m_57, m_58, m_59])), (w0, .inl (K 0, 5500, .inl fw)), (e0, .inl (K 2, 13, .inr (.inl fe))), (q0, .inl (K 2, 400, .inr (.inl fq))), (u0, .inl (K 0, 558, .inl fu)), (s0, .inl (K 0, 16, .inl fs)), (r0, .inl (K 0, 7, .inl fr))] s.heap := hP
  have hl := lv_entry [.ref m0, .int x, .int y] (n := 3) (Nat.le_of_ble_eq_true rfl)
  rw [lg_entry_eq]
  generalize (lg_sl [.ref m0, .int x, .int y] ++ List.replicate (3 - (lg_sl [.ref m0, .int x, .int y]).length) Slot.unset).toArray = ls at hl ⊢
  have hl : lv_has ls 3 [(0, .ref m0), (1, .int x), (2, .int y)] := hl
  have hw12 : ∀ w ∈ wsX120, w ∈ wsX12_damp := fun w h => (List.mem_cons_of_mem _ (List.mem_append_right _ h))
  generalize hQ : MQ below _ _ s _ _ _ = Q
  refine lv_aload_n hx hb dX12_damp_0 rfl (lv_at hl 0 rfl) ?_
  refine lv_iconst (v := 0) hx hb dX12_damp_1 (by decide) ?_
  refine va_put (ci := 12) (v := .int 0) (ty := .int) (C := RX12) (T := TX12) (N := 60) hx hb hts hw12 tyX12 tyX12_ok nmX12 hown hK hP hD hS 0 rfl rfl 0 (by decide) (hts (.fieldLink RX12 158 "SmokeTuneModel" "thrown" "I") (List.mem_cons_of_mem _ (List.mem_append_left _ (List.mem_append_left _ (List.mem_of_getElem? (i := 0) rfl))))) (fun _ h9 => h9) rfl (by decide +kernel) (by first | rfl | decide) (by first | rfl | decide) (Nat.le_of_ble_eq_true rfl) dX12_damp_2 (fun H locs hP hD hS => ?_)
  have hP : va_P D vwCl [(m0, .inr (12, [.int 0, .int sta, .ref r0, .ref w0, m_4, m_5, .ref u0, .ref s0, .int nu, m_9, m_10, m_11, m_12, m_13, m_14, m_15, m_16, m_17, m_18, m_19, .int 0, m_21, m_22, m_23, m_24, m_25, m_26, m_27, m_28, m_29, m_30, m_31, m_32, m_33, .int lw, .ref e0, m_36, .ref q0, .int bro, .long val, .long sm, m_41, m_42, m_43, m_44, m_45, m_46, m_47, m_48, m_49, m_50, m_51, m_52, m_53, m_54, m_55, m_56, m_57, m_58, m_59])), (w0, .inl (K 0, 5500, .inl fw)), (e0, .inl (K 2, 13, .inr (.inl fe))), (q0, .inl (K 2, 400, .inr (.inl fq))), (u0, .inl (K 0, 558, .inl fu)), (s0, .inl (K 0, 16, .inl fs)), (r0, .inl (K 0, 7, .inl fr))] H := hP
  have hD : va_D A [(m0, .inr (12, [.int 0, .int sta, .ref r0, .ref w0, m_4, m_5, .ref u0, .ref s0, .int nu, m_9, m_10, m_11, m_12, m_13, m_14, m_15, m_16, m_17, m_18, m_19, .int 0, m_21, m_22, m_23, m_24, m_25, m_26, m_27, m_28, m_29, m_30, m_31, m_32, m_33, .int lw, .ref e0, m_36, .ref q0, .int bro, .long val, .long sm, m_41, m_42, m_43, m_44, m_45, m_46, m_47, m_48, m_49, m_50, m_51, m_52, m_53, m_54, m_55, m_56, m_57, m_58, m_59])), (w0, .inl (K 0, 5500, .inl fw)), (e0, .inl (K 2, 13, .inr (.inl fe))), (q0, .inl (K 2, 400, .inr (.inl fq))), (u0, .inl (K 0, 558, .inl fu)), (s0, .inl (K 0, 16, .inl fs)), (r0, .inl (K 0, 7, .inl fr))] := hD
  refine lv_aload_n hx hb dX12_damp_5 rfl (lv_at hl 0 rfl) ?_
  refine lv_aload_n hx hb dX12_damp_6 rfl (lv_at hl 0 rfl) ?_
  refine lv_iload_n hx hb dX12_damp_7 rfl (lv_at hl 1 rfl) ?_
  refine lv_iload_n hx hb dX12_damp_8 rfl (lv_at hl 2 rfl) ?_
  refine kci (S := Su) (wr := [(e0, .inl (K 2, 13, .inr (.inl fe))), (q0, .inl (K 2, 400, .inr (.inl fq))), (r0, .inl (K 0, 7, .inl fr))]) (va_runV (As := [.int x, .int y]) (rest := [.ref m0]) ⟨hx, hb, hml, hown, hts⟩ (v_dampNow l D K m0 x y (.int 0) (.int sta) (.ref r0) w0 m_4 m_5 u0 s0 nu m_9 m_10 m_11 m_12 m_13 m_14 m_15 m_16 m_17 m_18 m_19 (.int 0) m_21 m_22 m_23 m_24 m_25 m_26 m_27 m_28 m_29 m_30 m_31 m_32 m_33 (.int lw) (.ref e0) m_36 (.ref q0) (.int bro) (.long val) (.long sm) m_41 m_42 m_43 m_44 m_45 m_46 m_47 m_48 m_49 m_50 m_51 m_52 m_53 m_54 m_55 m_56 m_57 m_58 m_59 fw fu fs H.size (by first | omega | decide) zfw zfu zfs) (cwV 2 hts gX12_damp_X12_dampNow rfl rfl rfl (by decide +kernel) ⟨Nat.le_of_ble_eq_true rfl, Nat.le_of_ble_eq_true rfl⟩) (mkV hK hN (hP.sub [0, 1, 4, 5] rfl) (hD.sub [0, 1, 4, 5] (by decide) rfl) (ci := 12) (q0 := 0) rfl rfl) rfl rfl hl.1 rfl (lv_room (Nat.le_of_ble_eq_true rfl)) dX12_damp_9 ⟨Nat.le_of_ble_eq_true rfl, Nat.le_of_ble_eq_true rfl⟩) hP hD hS hA [0, 1, 4, 5] [2, 3, 6] rfl rfl (by decide) (by decide) (fun r_23 u_24 H locs hw hP hD hS => ?_)
  have hP : va_P D vwCl [(e0, .inl (K 2, 13, .inr (.inl fe))), (q0, .inl (K 2, 400, .inr (.inl fq))), (r0, .inl (K 0, 7, .inl fr)), (m0, .inr (12, [.int 0, .int sta, .ref r0, .ref w0, m_4, m_5, .ref u0, .ref s0, .int (u_24.2.2.2.1 0), m_9, m_10, m_11, m_12, m_13, m_14, m_15, m_16, m_17, m_18, m_19, .int 0, m_21, m_22, m_23, m_24, m_25, m_26, m_27, m_28, m_29, m_30, m_31, m_32, m_33, .int lw, .ref e0, m_36, .ref q0, .int bro, .long val, .long sm, m_41, m_42, m_43, m_44, m_45, m_46, m_47, m_48, m_49, m_50, m_51, m_52, m_53, m_54, m_55, m_56, m_57, m_58, m_59])), (w0, .inl (K 0, 5500, .inl (u_24.2.1 0))), (u0, .inl (K 0, 558, .inl (u_24.2.1 1))), (s0, .inl (K 0, 16, .inl (u_24.2.1 2)))] H := hP
  have hD : va_D A [(e0, .inl (K 2, 13, .inr (.inl fe))), (q0, .inl (K 2, 400, .inr (.inl fq))), (r0, .inl (K 0, 7, .inl fr)), (m0, .inr (12, [.int 0, .int sta, .ref r0, .ref w0, m_4, m_5, .ref u0, .ref s0, .int (u_24.2.2.2.1 0), m_9, m_10, m_11, m_12, m_13, m_14, m_15, m_16, m_17, m_18, m_19, .int 0, m_21, m_22, m_23, m_24, m_25, m_26, m_27, m_28, m_29, m_30, m_31, m_32, m_33, .int lw, .ref e0, m_36, .ref q0, .int bro, .long val, .long sm, m_41, m_42, m_43, m_44, m_45, m_46, m_47, m_48, m_49, m_50, m_51, m_52, m_53, m_54, m_55, m_56, m_57, m_58, m_59])), (w0, .inl (K 0, 5500, .inl (u_24.2.1 0))), (u0, .inl (K 0, 558, .inl (u_24.2.1 1))), (s0, .inl (K 0, 16, .inl (u_24.2.1 2)))] := hD
  obtain ⟨h_29, k_25, k_26, k_27, k_28, -⟩ := hw
  refine kci (S := Su) (wr := [(e0, .inl (K 2, 13, .inr (.inl fe))), (q0, .inl (K 2, 400, .inr (.inl fq))), (w0, .inl (K 0, 5500, .inl (u_24.2.1 0))), (u0, .inl (K 0, 558, .inl (u_24.2.1 1))), (s0, .inl (K 0, 16, .inl (u_24.2.1 2)))]) (va_runV (As := [.int r_23]) (rest := []) ⟨hx, hb, hml, hown, hts⟩ (v_tell l D K m0 r_23 (.int 0) sta r0 (.ref w0) m_4 m_5 (.ref u0) (.ref s0) (.int (u_24.2.2.2.1 0)) m_9 m_10 m_11 m_12 m_13 m_14 m_15 m_16 m_17 m_18 m_19 (.int 0) m_21 m_22 m_23 m_24 m_25 m_26 m_27 m_28 m_29 m_30 m_31 m_32 m_33 (.int lw) (.ref e0) m_36 (.ref q0) (.int bro) (.long val) (.long sm) m_41 m_42 m_43 m_44 m_45 m_46 m_47 m_48 m_49 m_50 m_51 m_52 m_53 m_54 m_55 m_56 m_57 m_58 m_59 fr H.size (by first | omega | decide)) (cwV 1 hts gX12_damp_X12_tell rfl rfl rfl (by decide +kernel) ⟨Nat.le_of_ble_eq_true rfl, Nat.le_of_ble_eq_true rfl⟩) (mkV hK hN (hP.sub [3, 2] rfl) (hD.sub [3, 2] (by decide) rfl) (ci := 12) (q0 := 0) rfl rfl) rfl rfl hl.1 rfl (lv_room (Nat.le_of_ble_eq_true rfl)) dX12_damp_12 ⟨Nat.le_of_ble_eq_true rfl, Nat.le_of_ble_eq_true rfl⟩) hP hD hS hA [3, 2] [0, 1, 4, 5, 6] rfl rfl (by decide) (by decide) (fun r_30 u_31 H locs hw hP hD hS => ?_)
  have hP : va_P D vwCl [(e0, .inl (K 2, 13, .inr (.inl fe))), (q0, .inl (K 2, 400, .inr (.inl fq))), (w0, .inl (K 0, 5500, .inl (u_24.2.1 0))), (u0, .inl (K 0, 558, .inl (u_24.2.1 1))), (s0, .inl (K 0, 16, .inl (u_24.2.1 2))), (m0, .inr (12, [.int 0, .int (u_31.2.2.2.1 0), .ref r0, .ref w0, m_4, m_5, .ref u0, .ref s0, .int (u_24.2.2.2.1 0), m_9, m_10, m_11, m_12, m_13, m_14, m_15, m_16, m_17, m_18, m_19, .int 0, m_21, m_22, m_23, m_24, m_25, m_26, m_27, m_28, m_29, m_30, m_31, m_32, m_33, .int lw, .ref e0, m_36, .ref q0, .int bro, .long val, .long sm, m_41, m_42, m_43, m_44, m_45, m_46, m_47, m_48, m_49, m_50, m_51, m_52, m_53, m_54, m_55, m_56, m_57, m_58, m_59])), (r0, .inl (K 0, 7, .inl (u_31.2.1 0)))] H := hP
  have hD : va_D A [(e0, .inl (K 2, 13, .inr (.inl fe))), (q0, .inl (K 2, 400, .inr (.inl fq))), (w0, .inl (K 0, 5500, .inl (u_24.2.1 0))), (u0, .inl (K 0, 558, .inl (u_24.2.1 1))), (s0, .inl (K 0, 16, .inl (u_24.2.1 2))), (m0, .inr (12, [.int 0, .int (u_31.2.2.2.1 0), .ref r0, .ref w0, m_4, m_5, .ref u0, .ref s0, .int (u_24.2.2.2.1 0), m_9, m_10, m_11, m_12, m_13, m_14, m_15, m_16, m_17, m_18, m_19, .int 0, m_21, m_22, m_23, m_24, m_25, m_26, m_27, m_28, m_29, m_30, m_31, m_32, m_33, .int lw, .ref e0, m_36, .ref q0, .int bro, .long val, .long sm, m_41, m_42, m_43, m_44, m_45, m_46, m_47, m_48, m_49, m_50, m_51, m_52, m_53, m_54, m_55, m_56, m_57, m_58, m_59])), (r0, .inl (K 0, 7, .inl (u_31.2.1 0)))] := hD
  obtain ⟨h_33, k_32, -⟩ := hw
  subst hQ
  have hP9 := hP.sub (ws' := [(m0, .inr (12, [.int 0, .int (u_31.2.2.2.1 0), .ref r0, .ref w0, m_4, m_5, .ref u0, .ref s0, .int (u_24.2.2.2.1 0), m_9, m_10, m_11, m_12, m_13, m_14, m_15, m_16, m_17, m_18, m_19, .int 0, m_21, m_22, m_23, m_24, m_25, m_26, m_27, m_28, m_29, m_30, m_31, m_32, m_33, .int lw, .ref e0, m_36, .ref q0, .int bro, .long val, .long sm, m_41, m_42, m_43, m_44, m_45, m_46, m_47, m_48, m_49, m_50, m_51, m_52, m_53, m_54, m_55, m_56, m_57, m_58, m_59])), (w0, .inl (K 0, 5500, .inl (u_24.2.1 0))), (e0, .inl (K 2, 13, .inr (.inl fe))), (q0, .inl (K 2, 400, .inr (.inl fq))), (u0, .inl (K 0, 558, .inl (u_24.2.1 1))), (s0, .inl (K 0, 16, .inl (u_24.2.1 2))), (r0, .inl (K 0, 7, .inl (u_31.2.1 0)))]) [5, 2, 0, 1, 3, 4, 6] rfl
  have hD9 := hD.sub (ws' := [(m0, .inr (12, [.int 0, .int (u_31.2.2.2.1 0), .ref r0, .ref w0, m_4, m_5, .ref u0, .ref s0, .int (u_24.2.2.2.1 0), m_9, m_10, m_11, m_12, m_13, m_14, m_15, m_16, m_17, m_18, m_19, .int 0, m_21, m_22, m_23, m_24, m_25, m_26, m_27, m_28, m_29, m_30, m_31, m_32, m_33, .int lw, .ref e0, m_36, .ref q0, .int bro, .long val, .long sm, m_41, m_42, m_43, m_44, m_45, m_46, m_47, m_48, m_49, m_50, m_51, m_52, m_53, m_54, m_55, m_56, m_57, m_58, m_59])), (w0, .inl (K 0, 5500, .inl (u_24.2.1 0))), (e0, .inl (K 2, 13, .inr (.inl fe))), (q0, .inl (K 2, 400, .inr (.inl fq))), (u0, .inl (K 0, 558, .inl (u_24.2.1 1))), (s0, .inl (K 0, 16, .inl (u_24.2.1 2))), (r0, .inl (K 0, 7, .inl (u_31.2.1 0)))]) [5, 2, 0, 1, 3, 4, 6] (by decide) rfl
  exact W.iret (v := r_30) hx hb hr (fun t ht hW => ⟨⟨r_30, ((fun _ => 0, fun i => match i with | 0 => (u_24.2.1 0) | 1 => (u_24.2.1 1) | 2 => (u_24.2.1 2) | _ => (u_31.2.1 0), fun _ => fun _ => 0, fun i => match i with | 0 => (u_31.2.2.2.1 0) | _ => (u_24.2.2.2.1 0), fun _ => 0, fun _ => fun _ => none) : Su), rfl, ⟨(show (-6) ≤ r_30.toInt by omega), (show (-6) ≤ ((u_31.2.2.2.1 0) : Int32).toInt ∧ ((u_31.2.2.2.1 0) : Int32).toInt ≤ 0 by omega), (show 0 ≤ ((u_24.2.2.2.1 0) : Int32).toInt ∧ ((u_24.2.2.2.1 0) : Int32).toInt ≤ 16 by omega), k_26, k_27, k_28, trivial⟩, (⟨by rw [ht]; exact hP9, hD9⟩ : Wd D A _ t)⟩, hS.F ht⟩) hS.2.2 dX12_damp_15
set_option maxHeartbeats 4000000 in
set_option maxRecDepth 100000 in
theorem v_buy (l : Launch) (D : va_G) (K : Nat → ClassId) (m0 : Nat) (x : Int32) (y : Int32) (thr : Int32) (sta : Int32) (r0 : Nat) (w0 : Nat) (m_4 : Value) (m_5 : Value) (u0 : Nat) (s0 : Nat) (nu : Int32) (m_9 : Value) (m_10 : Value) (m_11 : Value) (m_12 : Value) (m_13 : Value) (m_14 : Value) (m_15 : Value) (m_16 : Value) (m_17 : Value) (m_18 : Value) (m_19 : Value) (m_21 : Value) (m_22 : Value) (m_23 : Value) (m_24 : Value) (m_25 : Value) (m_26 : Value) (m_27 : Value) (m_28 : Value) (m_29 : Value) (m_30 : Value) (m_31 : Value) (m_32 : Value) (m_33 : Value) (lw : Int32) (e0 : Nat) (m_36 : Value) (q0 : Nat) (bro : Int32) (val : Int64) (sm : Int64) (m_41 : Value) (m_42 : Value) (m_43 : Value) (m_44 : Value) (m_45 : Value) (m_46 : Value) (m_47 : Value) (m_48 : Value) (m_49 : Value) (m_50 : Value) (m_51 : Value) (m_52 : Value) (m_53 : Value) (m_54 : Value) (m_55 : Value) (m_56 : Value) (m_57 : Value) (m_58 : Value) (m_59 : Value) (fw : Nat → Int32) (fe : Nat → Int64) (fq : Nat → Int64) (fu : Nat → Int32) (fs : Nat → Int32) (fr : Nat → Int32) (sz : Nat) (zbro : 0 ≤ bro.toInt ∧ bro.toInt ≤ 1) (znu : 0 ≤ nu.toInt ∧ nu.toInt ≤ 16) (zfw : RowOK fw) (zfu : Pu 558 fu) (zfs : Rg 16 0 3 fs) : Met l yX12_buy wsX12_buy ({ frames := 3, cells := 0, slots := 0, locals := 68 }) (va_Pc [.ref m0, .int x, .int y] (Pre D K [(m0, .inr (12, [.int thr, .int sta, .ref r0, .ref w0, m_4, m_5, .ref u0, .ref s0, .int nu, m_9, m_10, m_11, m_12, m_13, m_14, m_15, m_16, m_17, m_18, m_19, .int 0, m_21, m_22, m_23, m_24, m_25, m_26, m_27, m_28, m_29, m_30, m_31, m_32, m_33, .int lw, .ref e0, m_36, .ref q0, .int bro, .long val, .long sm, m_41, m_42, m_43, m_44, m_45, m_46, m_47, m_48, m_49, m_50, m_51, m_52, m_53, m_54, m_55, m_56, m_57, m_58, m_59])), (w0, .inl (K 0, 5500, .inl fw)), (e0, .inl (K 2, 13, .inr (.inl fe))), (q0, .inl (K 2, 400, .inr (.inl fq))), (u0, .inl (K 0, 558, .inl fu)), (s0, .inl (K 0, 16, .inl fs)), (r0, .inl (K 0, 7, .inl fr))] sz)) (va_Qi (S := Su) (fun (r : Int32) (u : Su) => ((-6) ≤ r.toInt) ∧ ((-6) ≤ (u.2.2.2.1 0).toInt ∧ (u.2.2.2.1 0).toInt ≤ 0) ∧ (0 ≤ (u.2.2.2.1 1).toInt ∧ (u.2.2.2.1 1).toInt ≤ 16) ∧ (RowOK (u.2.1 0)) ∧ (Pu 558 (u.2.1 1)) ∧ (Rg 16 0 3 (u.2.1 2)) ∧ True) (fun u t => Wd D (va_A [(m0, .inr (12, [.int thr, .int sta, .ref r0, .ref w0, m_4, m_5, .ref u0, .ref s0, .int nu, m_9, m_10, m_11, m_12, m_13, m_14, m_15, m_16, m_17, m_18, m_19, .int 0, m_21, m_22, m_23, m_24, m_25, m_26, m_27, m_28, m_29, m_30, m_31, m_32, m_33, .int lw, .ref e0, m_36, .ref q0, .int bro, .long val, .long sm, m_41, m_42, m_43, m_44, m_45, m_46, m_47, m_48, m_49, m_50, m_51, m_52, m_53, m_54, m_55, m_56, m_57, m_58, m_59])), (w0, .inl (K 0, 5500, .inl fw)), (e0, .inl (K 2, 13, .inr (.inl fe))), (q0, .inl (K 2, 400, .inr (.inl fq))), (u0, .inl (K 0, 558, .inl fu)), (s0, .inl (K 0, 16, .inl fs)), (r0, .inl (K 0, 7, .inl fr))] sz) ((fun u => [(m0, .inr (12, [.int 0, .int (u.2.2.2.1 0), .ref r0, .ref w0, m_4, m_5, .ref u0, .ref s0, .int (u.2.2.2.1 1), m_9, m_10, m_11, m_12, m_13, m_14, m_15, m_16, m_17, m_18, m_19, .int 0, m_21, m_22, m_23, m_24, m_25, m_26, m_27, m_28, m_29, m_30, m_31, m_32, m_33, .int lw, .ref e0, m_36, .ref q0, .int bro, .long val, .long sm, m_41, m_42, m_43, m_44, m_45, m_46, m_47, m_48, m_49, m_50, m_51, m_52, m_53, m_54, m_55, m_56, m_57, m_58, m_59])), (w0, .inl (K 0, 5500, .inl (u.2.1 0))), (e0, .inl (K 2, 13, .inr (.inl fe))), (q0, .inl (K 2, 400, .inr (.inl fq))), (u0, .inl (K 0, 558, .inl (u.2.1 1))), (s0, .inl (K 0, 16, .inl (u.2.1 2))), (r0, .inl (K 0, 7, .inl (u.2.1 3)))]) u) t) (va_A [(m0, .inr (12, [.int thr, .int sta, .ref r0, .ref w0, m_4, m_5, .ref u0, .ref s0, .int nu, m_9, m_10, m_11, m_12, m_13, m_14, m_15, m_16, m_17, m_18, m_19, .int 0, m_21, m_22, m_23, m_24, m_25, m_26, m_27, m_28, m_29, m_30, m_31, m_32, m_33, .int lw, .ref e0, m_36, .ref q0, .int bro, .long val, .long sm, m_41, m_42, m_43, m_44, m_45, m_46, m_47, m_48, m_49, m_50, m_51, m_52, m_53, m_54, m_55, m_56, m_57, m_58, m_59])), (w0, .inl (K 0, 5500, .inl fw)), (e0, .inl (K 2, 13, .inr (.inl fe))), (q0, .inl (K 2, 400, .inr (.inl fq))), (u0, .inl (K 0, 558, .inl fu)), (s0, .inl (K 0, 16, .inl fs)), (r0, .inl (K 0, 7, .inl fr))] sz)) 0 0 (va_A [(m0, .inr (12, [.int thr, .int sta, .ref r0, .ref w0, m_4, m_5, .ref u0, .ref s0, .int nu, m_9, m_10, m_11, m_12, m_13, m_14, m_15, m_16, m_17, m_18, m_19, .int 0, m_21, m_22, m_23, m_24, m_25, m_26, m_27, m_28, m_29, m_30, m_31, m_32, m_33, .int lw, .ref e0, m_36, .ref q0, .int bro, .long val, .long sm, m_41, m_42, m_43, m_44, m_45, m_46, m_47, m_48, m_49, m_50, m_51, m_52, m_53, m_54, m_55, m_56, m_57, m_58, m_59])), (w0, .inl (K 0, 5500, .inl fw)), (e0, .inl (K 2, 13, .inr (.inl fe))), (q0, .inl (K 2, 400, .inr (.inl fq))), (u0, .inl (K 0, 558, .inl fu)), (s0, .inl (K 0, 16, .inl fs)), (r0, .inl (K 0, 7, .inl fr))] sz) := by
  refine Met.ofW (cc := cX12_buy) (maxL := 3) (ret := (some .int)) (by decide) rfl ?_
  intro p e s m args below meth c s₁ B hml hv
  obtain ⟨rfl, hsz, hP, hK, hD0, hN⟩ := hv
  have hx := B.exec
  have hb := B.bytes
  have hr := B.returns
  have hts := atoms_spec (ws := wsX12_buy) B.pre
  have hown : s.vm.findClass RX12 = some m.cls := findClass_of_methodNamed B.named
  have hlocks := B.notSynchronized
  subst hsz
  have hD := hD0.self (sz := s.heap.size)
  generalize hAe : va_A [(m0, .inr (12, [.int thr, .int sta, .ref r0, .ref w0, m_4, m_5, .ref u0, .ref s0, .int nu, m_9, m_10, m_11, m_12, m_13, m_14, m_15, m_16, m_17, m_18, m_19, .int 0, m_21, m_22, m_23, m_24, m_25, m_26, m_27, m_28, m_29, m_30, m_31, m_32, m_33, .int lw, .ref e0, m_36, .ref q0, .int bro, .long val, .long sm, m_41, m_42, m_43, m_44, m_45, m_46, m_47, m_48, m_49, m_50, m_51, m_52, m_53, m_54, m_55, m_56, m_57, m_58, m_59])), (w0, .inl (K 0, 5500, .inl fw)), (e0, .inl (K 2, 13, .inr (.inl fe))), (q0, .inl (K 2, 400, .inr (.inl fq))), (u0, .inl (K 0, 558, .inl fu)), (s0, .inl (K 0, 16, .inl fs)), (r0, .inl (K 0, 7, .inl fr))] s.heap.size = A at hD ⊢
  have hA : ∀ q : Nat, s.heap.size ≤ q → A q := fun q h => by rw [← hAe]; exact Or.inr h
  have hS : va_S A s.heap s.heap [] := va_S.rf
  have hP : va_P D vwCl [(m0, .inr (12, [.int thr, .int sta, .ref r0, .ref w0, m_4, m_5, .ref u0, .ref s0, .int nu, m_9, m_10, m_11, m_12, m_13, m_14, m_15, m_16, m_17, m_18, m_19, .int 0, m_21, m_22, m_23, m_24, m_25, m_26, m_27, m_28, m_29, m_30, m_31, m_32, m_33, .int lw, .ref e0, m_36, .ref q0, .int bro, .long val, .long sm, m_41, m_42, m_43, m_44, m_45, m_46, m_47, m_48, m_49, m_50, m_51, m_52, m_53, m_54, m_55, m_56, m_57, m_58, m_59])), (w0, .inl (K 0, 5500, .inl fw)), (e0, .inl (K 2, 13, .inr (.inl fe))), (q0, .inl (K 2, 400, .inr (.inl fq))), (u0, .inl (K 0, 558, .inl fu)), (s0, .inl (K 0, 16, .inl fs)), (r0, .inl (K 0, 7, .inl fr))] s.heap := hP
  have hl := lv_entry [.ref m0, .int x, .int y] (n := 3) (Nat.le_of_ble_eq_true rfl)
  rw [lg_entry_eq]
  generalize (lg_sl [.ref m0, .int x, .int y] ++ List.replicate (3 - (lg_sl [.ref m0, .int x, .int y]).length) Slot.unset).toArray = ls at hl ⊢
  have hl : lv_has ls 3 [(0, .ref m0), (1, .int x), (2, .int y)] := hl
  have hw12 : ∀ w ∈ wsX120, w ∈ wsX12_buy := fun w h => (List.mem_cons_of_mem _ (List.mem_append_right _ h))
  generalize hQ : MQ below _ _ s _ _ _ = Q
  refine lv_aload_n hx hb dX12_buy_0 rfl (lv_at hl 0 rfl) ?_
  refine lv_iconst (v := 0) hx hb dX12_buy_1 (by decide) ?_
  refine va_put (ci := 12) (v := .int 0) (ty := .int) (C := RX12) (T := TX12) (N := 60) hx hb hts hw12 tyX12 tyX12_ok nmX12 hown hK hP hD hS 0 rfl rfl 0 (by decide) (hts (.fieldLink RX12 158 "SmokeTuneModel" "thrown" "I") (List.mem_cons_of_mem _ (List.mem_append_left _ (List.mem_append_left _ (List.mem_of_getElem? (i := 0) rfl))))) (fun _ h9 => h9) rfl (by decide +kernel) (by first | rfl | decide) (by first | rfl | decide) (Nat.le_of_ble_eq_true rfl) dX12_buy_2 (fun H locs hP hD hS => ?_)
  have hP : va_P D vwCl [(m0, .inr (12, [.int 0, .int sta, .ref r0, .ref w0, m_4, m_5, .ref u0, .ref s0, .int nu, m_9, m_10, m_11, m_12, m_13, m_14, m_15, m_16, m_17, m_18, m_19, .int 0, m_21, m_22, m_23, m_24, m_25, m_26, m_27, m_28, m_29, m_30, m_31, m_32, m_33, .int lw, .ref e0, m_36, .ref q0, .int bro, .long val, .long sm, m_41, m_42, m_43, m_44, m_45, m_46, m_47, m_48, m_49, m_50, m_51, m_52, m_53, m_54, m_55, m_56, m_57, m_58, m_59])), (w0, .inl (K 0, 5500, .inl fw)), (e0, .inl (K 2, 13, .inr (.inl fe))), (q0, .inl (K 2, 400, .inr (.inl fq))), (u0, .inl (K 0, 558, .inl fu)), (s0, .inl (K 0, 16, .inl fs)), (r0, .inl (K 0, 7, .inl fr))] H := hP
  have hD : va_D A [(m0, .inr (12, [.int 0, .int sta, .ref r0, .ref w0, m_4, m_5, .ref u0, .ref s0, .int nu, m_9, m_10, m_11, m_12, m_13, m_14, m_15, m_16, m_17, m_18, m_19, .int 0, m_21, m_22, m_23, m_24, m_25, m_26, m_27, m_28, m_29, m_30, m_31, m_32, m_33, .int lw, .ref e0, m_36, .ref q0, .int bro, .long val, .long sm, m_41, m_42, m_43, m_44, m_45, m_46, m_47, m_48, m_49, m_50, m_51, m_52, m_53, m_54, m_55, m_56, m_57, m_58, m_59])), (w0, .inl (K 0, 5500, .inl fw)), (e0, .inl (K 2, 13, .inr (.inl fe))), (q0, .inl (K 2, 400, .inr (.inl fq))), (u0, .inl (K 0, 558, .inl fu)), (s0, .inl (K 0, 16, .inl fs)), (r0, .inl (K 0, 7, .inl fr))] := hD
  refine lv_aload_n hx hb dX12_buy_5 rfl (lv_at hl 0 rfl) ?_
  refine lv_aload_n hx hb dX12_buy_6 rfl (lv_at hl 0 rfl) ?_
  refine lv_iload_n hx hb dX12_buy_7 rfl (lv_at hl 1 rfl) ?_
  refine lv_iload_n hx hb dX12_buy_8 rfl (lv_at hl 2 rfl) ?_
  refine kci (S := Su) (wr := [(e0, .inl (K 2, 13, .inr (.inl fe))), (q0, .inl (K 2, 400, .inr (.inl fq))), (r0, .inl (K 0, 7, .inl fr))]) (va_runV (As := [.int x, .int y]) (rest := [.ref m0]) ⟨hx, hb, hml, hown, hts⟩ (v_buyNow l D K m0 x y (.int 0) (.int sta) (.ref r0) w0 m_4 m_5 u0 s0 nu m_9 m_10 m_11 m_12 m_13 m_14 m_15 m_16 m_17 m_18 m_19 (.int 0) m_21 m_22 m_23 m_24 m_25 m_26 m_27 m_28 m_29 m_30 m_31 m_32 m_33 (.int lw) (.ref e0) m_36 (.ref q0) (.int bro) (.long val) (.long sm) m_41 m_42 m_43 m_44 m_45 m_46 m_47 m_48 m_49 m_50 m_51 m_52 m_53 m_54 m_55 m_56 m_57 m_58 m_59 fw fu fs H.size (by first | omega | decide) zfw zfu zfs) (cwV 2 hts gX12_buy_X12_buyNow rfl rfl rfl (by decide +kernel) ⟨Nat.le_of_ble_eq_true rfl, Nat.le_of_ble_eq_true rfl⟩) (mkV hK hN (hP.sub [0, 1, 4, 5] rfl) (hD.sub [0, 1, 4, 5] (by decide) rfl) (ci := 12) (q0 := 0) rfl rfl) rfl rfl hl.1 rfl (lv_room (Nat.le_of_ble_eq_true rfl)) dX12_buy_9 ⟨Nat.le_of_ble_eq_true rfl, Nat.le_of_ble_eq_true rfl⟩) hP hD hS hA [0, 1, 4, 5] [2, 3, 6] rfl rfl (by decide) (by decide) (fun r_23 u_24 H locs hw hP hD hS => ?_)
  have hP : va_P D vwCl [(e0, .inl (K 2, 13, .inr (.inl fe))), (q0, .inl (K 2, 400, .inr (.inl fq))), (r0, .inl (K 0, 7, .inl fr)), (m0, .inr (12, [.int 0, .int sta, .ref r0, .ref w0, m_4, m_5, .ref u0, .ref s0, .int (u_24.2.2.2.1 0), m_9, m_10, m_11, m_12, m_13, m_14, m_15, m_16, m_17, m_18, m_19, .int 0, m_21, m_22, m_23, m_24, m_25, m_26, m_27, m_28, m_29, m_30, m_31, m_32, m_33, .int lw, .ref e0, m_36, .ref q0, .int bro, .long val, .long sm, m_41, m_42, m_43, m_44, m_45, m_46, m_47, m_48, m_49, m_50, m_51, m_52, m_53, m_54, m_55, m_56, m_57, m_58, m_59])), (w0, .inl (K 0, 5500, .inl (u_24.2.1 0))), (u0, .inl (K 0, 558, .inl (u_24.2.1 1))), (s0, .inl (K 0, 16, .inl (u_24.2.1 2)))] H := hP
  have hD : va_D A [(e0, .inl (K 2, 13, .inr (.inl fe))), (q0, .inl (K 2, 400, .inr (.inl fq))), (r0, .inl (K 0, 7, .inl fr)), (m0, .inr (12, [.int 0, .int sta, .ref r0, .ref w0, m_4, m_5, .ref u0, .ref s0, .int (u_24.2.2.2.1 0), m_9, m_10, m_11, m_12, m_13, m_14, m_15, m_16, m_17, m_18, m_19, .int 0, m_21, m_22, m_23, m_24, m_25, m_26, m_27, m_28, m_29, m_30, m_31, m_32, m_33, .int lw, .ref e0, m_36, .ref q0, .int bro, .long val, .long sm, m_41, m_42, m_43, m_44, m_45, m_46, m_47, m_48, m_49, m_50, m_51, m_52, m_53, m_54, m_55, m_56, m_57, m_58, m_59])), (w0, .inl (K 0, 5500, .inl (u_24.2.1 0))), (u0, .inl (K 0, 558, .inl (u_24.2.1 1))), (s0, .inl (K 0, 16, .inl (u_24.2.1 2)))] := hD
  obtain ⟨h_29, k_25, k_26, k_27, k_28, -⟩ := hw
  refine kci (S := Su) (wr := [(e0, .inl (K 2, 13, .inr (.inl fe))), (q0, .inl (K 2, 400, .inr (.inl fq))), (w0, .inl (K 0, 5500, .inl (u_24.2.1 0))), (u0, .inl (K 0, 558, .inl (u_24.2.1 1))), (s0, .inl (K 0, 16, .inl (u_24.2.1 2)))]) (va_runV (As := [.int r_23]) (rest := []) ⟨hx, hb, hml, hown, hts⟩ (v_tell l D K m0 r_23 (.int 0) sta r0 (.ref w0) m_4 m_5 (.ref u0) (.ref s0) (.int (u_24.2.2.2.1 0)) m_9 m_10 m_11 m_12 m_13 m_14 m_15 m_16 m_17 m_18 m_19 (.int 0) m_21 m_22 m_23 m_24 m_25 m_26 m_27 m_28 m_29 m_30 m_31 m_32 m_33 (.int lw) (.ref e0) m_36 (.ref q0) (.int bro) (.long val) (.long sm) m_41 m_42 m_43 m_44 m_45 m_46 m_47 m_48 m_49 m_50 m_51 m_52 m_53 m_54 m_55 m_56 m_57 m_58 m_59 fr H.size (by first | omega | decide)) (cwV 1 hts gX12_buy_X12_tell rfl rfl rfl (by decide +kernel) ⟨Nat.le_of_ble_eq_true rfl, Nat.le_of_ble_eq_true rfl⟩) (mkV hK hN (hP.sub [3, 2] rfl) (hD.sub [3, 2] (by decide) rfl) (ci := 12) (q0 := 0) rfl rfl) rfl rfl hl.1 rfl (lv_room (Nat.le_of_ble_eq_true rfl)) dX12_buy_12 ⟨Nat.le_of_ble_eq_true rfl, Nat.le_of_ble_eq_true rfl⟩) hP hD hS hA [3, 2] [0, 1, 4, 5, 6] rfl rfl (by decide) (by decide) (fun r_30 u_31 H locs hw hP hD hS => ?_)
  have hP : va_P D vwCl [(e0, .inl (K 2, 13, .inr (.inl fe))), (q0, .inl (K 2, 400, .inr (.inl fq))), (w0, .inl (K 0, 5500, .inl (u_24.2.1 0))), (u0, .inl (K 0, 558, .inl (u_24.2.1 1))), (s0, .inl (K 0, 16, .inl (u_24.2.1 2))), (m0, .inr (12, [.int 0, .int (u_31.2.2.2.1 0), .ref r0, .ref w0, m_4, m_5, .ref u0, .ref s0, .int (u_24.2.2.2.1 0), m_9, m_10, m_11, m_12, m_13, m_14, m_15, m_16, m_17, m_18, m_19, .int 0, m_21, m_22, m_23, m_24, m_25, m_26, m_27, m_28, m_29, m_30, m_31, m_32, m_33, .int lw, .ref e0, m_36, .ref q0, .int bro, .long val, .long sm, m_41, m_42, m_43, m_44, m_45, m_46, m_47, m_48, m_49, m_50, m_51, m_52, m_53, m_54, m_55, m_56, m_57, m_58, m_59])), (r0, .inl (K 0, 7, .inl (u_31.2.1 0)))] H := hP
  have hD : va_D A [(e0, .inl (K 2, 13, .inr (.inl fe))), (q0, .inl (K 2, 400, .inr (.inl fq))), (w0, .inl (K 0, 5500, .inl (u_24.2.1 0))), (u0, .inl (K 0, 558, .inl (u_24.2.1 1))), (s0, .inl (K 0, 16, .inl (u_24.2.1 2))), (m0, .inr (12, [.int 0, .int (u_31.2.2.2.1 0), .ref r0, .ref w0, m_4, m_5, .ref u0, .ref s0, .int (u_24.2.2.2.1 0), m_9, m_10, m_11, m_12, m_13, m_14, m_15, m_16, m_17, m_18, m_19, .int 0, m_21, m_22, m_23, m_24, m_25, m_26, m_27, m_28, m_29, m_30, m_31, m_32, m_33, .int lw, .ref e0, m_36, .ref q0, .int bro, .long val, .long sm, m_41, m_42, m_43, m_44, m_45, m_46, m_47, m_48, m_49, m_50, m_51, m_52, m_53, m_54, m_55, m_56, m_57, m_58, m_59])), (r0, .inl (K 0, 7, .inl (u_31.2.1 0)))] := hD
  obtain ⟨h_33, k_32, -⟩ := hw
  subst hQ
  have hP9 := hP.sub (ws' := [(m0, .inr (12, [.int 0, .int (u_31.2.2.2.1 0), .ref r0, .ref w0, m_4, m_5, .ref u0, .ref s0, .int (u_24.2.2.2.1 0), m_9, m_10, m_11, m_12, m_13, m_14, m_15, m_16, m_17, m_18, m_19, .int 0, m_21, m_22, m_23, m_24, m_25, m_26, m_27, m_28, m_29, m_30, m_31, m_32, m_33, .int lw, .ref e0, m_36, .ref q0, .int bro, .long val, .long sm, m_41, m_42, m_43, m_44, m_45, m_46, m_47, m_48, m_49, m_50, m_51, m_52, m_53, m_54, m_55, m_56, m_57, m_58, m_59])), (w0, .inl (K 0, 5500, .inl (u_24.2.1 0))), (e0, .inl (K 2, 13, .inr (.inl fe))), (q0, .inl (K 2, 400, .inr (.inl fq))), (u0, .inl (K 0, 558, .inl (u_24.2.1 1))), (s0, .inl (K 0, 16, .inl (u_24.2.1 2))), (r0, .inl (K 0, 7, .inl (u_31.2.1 0)))]) [5, 2, 0, 1, 3, 4, 6] rfl
  have hD9 := hD.sub (ws' := [(m0, .inr (12, [.int 0, .int (u_31.2.2.2.1 0), .ref r0, .ref w0, m_4, m_5, .ref u0, .ref s0, .int (u_24.2.2.2.1 0), m_9, m_10, m_11, m_12, m_13, m_14, m_15, m_16, m_17, m_18, m_19, .int 0, m_21, m_22, m_23, m_24, m_25, m_26, m_27, m_28, m_29, m_30, m_31, m_32, m_33, .int lw, .ref e0, m_36, .ref q0, .int bro, .long val, .long sm, m_41, m_42, m_43, m_44, m_45, m_46, m_47, m_48, m_49, m_50, m_51, m_52, m_53, m_54, m_55, m_56, m_57, m_58, m_59])), (w0, .inl (K 0, 5500, .inl (u_24.2.1 0))), (e0, .inl (K 2, 13, .inr (.inl fe))), (q0, .inl (K 2, 400, .inr (.inl fq))), (u0, .inl (K 0, 558, .inl (u_24.2.1 1))), (s0, .inl (K 0, 16, .inl (u_24.2.1 2))), (r0, .inl (K 0, 7, .inl (u_31.2.1 0)))]) [5, 2, 0, 1, 3, 4, 6] (by decide) rfl
  exact W.iret (v := r_30) hx hb hr (fun t ht hW => ⟨⟨r_30, ((fun _ => 0, fun i => match i with | 0 => (u_24.2.1 0) | 1 => (u_24.2.1 1) | 2 => (u_24.2.1 2) | _ => (u_31.2.1 0), fun _ => fun _ => 0, fun i => match i with | 0 => (u_31.2.2.2.1 0) | _ => (u_24.2.2.2.1 0), fun _ => 0, fun _ => fun _ => none) : Su), rfl, ⟨(show (-6) ≤ r_30.toInt by omega), (show (-6) ≤ ((u_31.2.2.2.1 0) : Int32).toInt ∧ ((u_31.2.2.2.1 0) : Int32).toInt ≤ 0 by omega), (show 0 ≤ ((u_24.2.2.2.1 0) : Int32).toInt ∧ ((u_24.2.2.2.1 0) : Int32).toInt ≤ 16 by omega), k_26, k_27, k_28, trivial⟩, (⟨by rw [ht]; exact hP9, hD9⟩ : Wd D A _ t)⟩, hS.F ht⟩) hS.2.2 dX12_buy_15
