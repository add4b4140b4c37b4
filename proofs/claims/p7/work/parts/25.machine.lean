theorem dX3_combine_0 : decode cX3_combine 0 = .ok (.lconst 0, 1) := by decide +kernel
theorem dX3_combine_1 : decode cX3_combine 1 = .ok (.lstore 6, 2) := by decide +kernel
theorem dX3_combine_3 : decode cX3_combine 3 = .ok (.iload_n 1, 1) := by decide +kernel
theorem dX3_combine_4 : decode cX3_combine 4 = .ok (.tableswitch 177 3 9 #[44, 53, 62, 71, 107, 143, 160], 44) := by decide +kernel
theorem dX3_combine_48 : decode cX3_combine 48 = .ok (.lload_n 2, 1) := by decide +kernel
theorem dX3_combine_49 : decode cX3_combine 49 = .ok (.lload 4, 2) := by decide +kernel
theorem dX3_combine_51 : decode cX3_combine 51 = .ok (.ladd, 1) := by decide +kernel
theorem dX3_combine_52 : decode cX3_combine 52 = .ok (.lstore 6, 2) := by decide +kernel
theorem dX3_combine_54 : decode cX3_combine 54 = .ok (.goto 141, 3) := by decide +kernel
theorem dX3_combine_57 : decode cX3_combine 57 = .ok (.lload_n 2, 1) := by decide +kernel
theorem dX3_combine_58 : decode cX3_combine 58 = .ok (.lload 4, 2) := by decide +kernel
theorem dX3_combine_60 : decode cX3_combine 60 = .ok (.lsub, 1) := by decide +kernel
theorem dX3_combine_61 : decode cX3_combine 61 = .ok (.lstore 6, 2) := by decide +kernel
theorem dX3_combine_63 : decode cX3_combine 63 = .ok (.goto 132, 3) := by decide +kernel
theorem dX3_combine_66 : decode cX3_combine 66 = .ok (.lload_n 2, 1) := by decide +kernel
theorem dX3_combine_67 : decode cX3_combine 67 = .ok (.lload 4, 2) := by decide +kernel
theorem dX3_combine_69 : decode cX3_combine 69 = .ok (.lmul, 1) := by decide +kernel
theorem dX3_combine_70 : decode cX3_combine 70 = .ok (.lstore 6, 2) := by decide +kernel
theorem dX3_combine_72 : decode cX3_combine 72 = .ok (.goto 123, 3) := by decide +kernel
theorem dX3_combine_75 : decode cX3_combine 75 = .ok (.aload_n 0, 1) := by decide +kernel
theorem dX3_combine_76 : decode cX3_combine 76 = .ok (.lload 4, 2) := by decide +kernel
theorem dX3_combine_78 : decode cX3_combine 78 = .ok (.lconst 0, 1) := by decide +kernel
theorem dX3_combine_79 : decode cX3_combine 79 = .ok (.lcmp, 1) := by decide +kernel
theorem dX3_combine_80 : decode cX3_combine 80 = .ok (.ifCond .ne 7, 3) := by decide +kernel
theorem dX3_combine_87 : decode cX3_combine 87 = .ok (.iconst 0, 1) := by decide +kernel
theorem dX3_combine_88 : decode cX3_combine 88 = .ok (.putfield 13, 3) := by decide +kernel
theorem dX3_combine_91 : decode cX3_combine 91 = .ok (.lload 4, 2) := by decide +kernel
theorem dX3_combine_93 : decode cX3_combine 93 = .ok (.lconst 0, 1) := by decide +kernel
theorem dX3_combine_94 : decode cX3_combine 94 = .ok (.lcmp, 1) := by decide +kernel
theorem dX3_combine_95 : decode cX3_combine 95 = .ok (.ifCond .ne 7, 3) := by decide +kernel
theorem dX3_combine_102 : decode cX3_combine 102 = .ok (.lload_n 2, 1) := by decide +kernel
theorem dX3_combine_103 : decode cX3_combine 103 = .ok (.lload 4, 2) := by decide +kernel
theorem dX3_combine_105 : decode cX3_combine 105 = .ok (.ldiv, 1) := by decide +kernel
theorem dX3_combine_106 : decode cX3_combine 106 = .ok (.lstore 6, 2) := by decide +kernel
theorem dX3_combine_108 : decode cX3_combine 108 = .ok (.goto 87, 3) := by decide +kernel
theorem dX3_combine_98 : decode cX3_combine 98 = .ok (.lconst 0, 1) := by decide +kernel
theorem dX3_combine_99 : decode cX3_combine 99 = .ok (.goto 7, 3) := by decide +kernel
theorem dX3_combine_83 : decode cX3_combine 83 = .ok (.iconst 1, 1) := by decide +kernel
theorem dX3_combine_84 : decode cX3_combine 84 = .ok (.goto 4, 3) := by decide +kernel
theorem dX3_combine_111 : decode cX3_combine 111 = .ok (.aload_n 0, 1) := by decide +kernel
theorem dX3_combine_112 : decode cX3_combine 112 = .ok (.lload 4, 2) := by decide +kernel
theorem dX3_combine_114 : decode cX3_combine 114 = .ok (.lconst 0, 1) := by decide +kernel
theorem dX3_combine_115 : decode cX3_combine 115 = .ok (.lcmp, 1) := by decide +kernel
theorem dX3_combine_116 : decode cX3_combine 116 = .ok (.ifCond .ne 7, 3) := by decide +kernel
theorem dX3_combine_123 : decode cX3_combine 123 = .ok (.iconst 0, 1) := by decide +kernel
theorem dX3_combine_124 : decode cX3_combine 124 = .ok (.putfield 13, 3) := by decide +kernel
theorem dX3_combine_127 : decode cX3_combine 127 = .ok (.lload 4, 2) := by decide +kernel
theorem dX3_combine_129 : decode cX3_combine 129 = .ok (.lconst 0, 1) := by decide +kernel
theorem dX3_combine_130 : decode cX3_combine 130 = .ok (.lcmp, 1) := by decide +kernel
theorem dX3_combine_131 : decode cX3_combine 131 = .ok (.ifCond .ne 7, 3) := by decide +kernel
theorem dX3_combine_138 : decode cX3_combine 138 = .ok (.lload_n 2, 1) := by decide +kernel
theorem dX3_combine_139 : decode cX3_combine 139 = .ok (.lload 4, 2) := by decide +kernel
theorem dX3_combine_141 : decode cX3_combine 141 = .ok (.lrem, 1) := by decide +kernel
theorem dX3_combine_142 : decode cX3_combine 142 = .ok (.lstore 6, 2) := by decide +kernel
theorem dX3_combine_144 : decode cX3_combine 144 = .ok (.goto 51, 3) := by decide +kernel
theorem dX3_combine_134 : decode cX3_combine 134 = .ok (.lconst 0, 1) := by decide +kernel
theorem dX3_combine_135 : decode cX3_combine 135 = .ok (.goto 7, 3) := by decide +kernel
theorem dX3_combine_119 : decode cX3_combine 119 = .ok (.iconst 1, 1) := by decide +kernel
theorem dX3_combine_120 : decode cX3_combine 120 = .ok (.goto 4, 3) := by decide +kernel
theorem dX3_combine_147 : decode cX3_combine 147 = .ok (.lload_n 2, 1) := by decide +kernel
theorem dX3_combine_148 : decode cX3_combine 148 = .ok (.lload 4, 2) := by decide +kernel
theorem dX3_combine_150 : decode cX3_combine 150 = .ok (.lcmp, 1) := by decide +kernel
theorem dX3_combine_151 : decode cX3_combine 151 = .ok (.ifCond .ge 7, 3) := by decide +kernel
theorem dX3_combine_158 : decode cX3_combine 158 = .ok (.lconst 0, 1) := by decide +kernel
theorem dX3_combine_159 : decode cX3_combine 159 = .ok (.lstore 6, 2) := by decide +kernel
theorem dX3_combine_161 : decode cX3_combine 161 = .ok (.goto 34, 3) := by decide +kernel
theorem dX3_combine_154 : decode cX3_combine 154 = .ok (.lconst 1, 1) := by decide +kernel
theorem dX3_combine_155 : decode cX3_combine 155 = .ok (.goto 4, 3) := by decide +kernel
theorem dX3_combine_164 : decode cX3_combine 164 = .ok (.lload_n 2, 1) := by decide +kernel
theorem dX3_combine_165 : decode cX3_combine 165 = .ok (.lload 4, 2) := by decide +kernel
theorem dX3_combine_167 : decode cX3_combine 167 = .ok (.lcmp, 1) := by decide +kernel
theorem dX3_combine_168 : decode cX3_combine 168 = .ok (.ifCond .le 7, 3) := by decide +kernel
theorem dX3_combine_175 : decode cX3_combine 175 = .ok (.lconst 0, 1) := by decide +kernel
theorem dX3_combine_176 : decode cX3_combine 176 = .ok (.lstore 6, 2) := by decide +kernel
theorem dX3_combine_178 : decode cX3_combine 178 = .ok (.goto 17, 3) := by decide +kernel
theorem dX3_combine_171 : decode cX3_combine 171 = .ok (.lconst 1, 1) := by decide +kernel
theorem dX3_combine_172 : decode cX3_combine 172 = .ok (.goto 4, 3) := by decide +kernel
theorem dX3_combine_181 : decode cX3_combine 181 = .ok (.lload_n 2, 1) := by decide +kernel
theorem dX3_combine_182 : decode cX3_combine 182 = .ok (.lload 4, 2) := by decide +kernel
theorem dX3_combine_184 : decode cX3_combine 184 = .ok (.lcmp, 1) := by decide +kernel
theorem dX3_combine_185 : decode cX3_combine 185 = .ok (.ifCond .ne 7, 3) := by decide +kernel
theorem dX3_combine_192 : decode cX3_combine 192 = .ok (.lconst 0, 1) := by decide +kernel
theorem dX3_combine_193 : decode cX3_combine 193 = .ok (.lstore 6, 2) := by decide +kernel
theorem dX3_combine_188 : decode cX3_combine 188 = .ok (.lconst 1, 1) := by decide +kernel
theorem dX3_combine_189 : decode cX3_combine 189 = .ok (.goto 4, 3) := by decide +kernel
theorem dX3_combine_195 : decode cX3_combine 195 = .ok (.aload_n 0, 1) := by decide +kernel
theorem dX3_combine_196 : decode cX3_combine 196 = .ok (.aload_n 0, 1) := by decide +kernel
theorem dX3_combine_197 : decode cX3_combine 197 = .ok (.getfield 13, 3) := by decide +kernel
theorem dX3_combine_200 : decode cX3_combine 200 = .ok (.ifCond .ne 21, 3) := by decide +kernel
theorem dX3_combine_221 : decode cX3_combine 221 = .ok (.iconst 1, 1) := by decide +kernel
theorem dX3_combine_222 : decode cX3_combine 222 = .ok (.goto 4, 3) := by decide +kernel
theorem dX3_combine_226 : decode cX3_combine 226 = .ok (.putfield 13, 3) := by decide +kernel
theorem dX3_combine_229 : decode cX3_combine 229 = .ok (.aload_n 0, 1) := by decide +kernel
theorem dX3_combine_230 : decode cX3_combine 230 = .ok (.getfield 13, 3) := by decide +kernel
theorem dX3_combine_233 : decode cX3_combine 233 = .ok (.ifCond .eq 7, 3) := by decide +kernel
theorem dX3_combine_236 : decode cX3_combine 236 = .ok (.iconst 0, 1) := by decide +kernel
theorem dX3_combine_237 : decode cX3_combine 237 = .ok (.goto 6, 3) := by decide +kernel
theorem dX3_combine_243 : decode cX3_combine 243 = .ok (.ireturn, 1) := by decide +kernel
theorem dX3_combine_203 : decode cX3_combine 203 = .ok (.lload 6, 2) := by decide +kernel
theorem dX3_combine_205 : decode cX3_combine 205 = .ok (.ldc2_w 29, 3) := by decide +kernel
theorem dX3_combine_208 : decode cX3_combine 208 = .ok (.lcmp, 1) := by decide +kernel
theorem dX3_combine_209 : decode cX3_combine 209 = .ok (.ifCond .gt 12, 3) := by decide +kernel
theorem dX3_combine_212 : decode cX3_combine 212 = .ok (.lload 6, 2) := by decide +kernel
theorem dX3_combine_214 : decode cX3_combine 214 = .ok (.ldc2_w 31, 3) := by decide +kernel
theorem dX3_combine_217 : decode cX3_combine 217 = .ok (.lcmp, 1) := by decide +kernel
theorem dX3_combine_218 : decode cX3_combine 218 = .ok (.ifCond .ge 7, 3) := by decide +kernel
theorem dX3_combine_225 : decode cX3_combine 225 = .ok (.iconst 0, 1) := by decide +kernel
theorem dX3_combine_240 : decode cX3_combine 240 = .ok (.lload 6, 2) := by decide +kernel
theorem dX3_combine_242 : decode cX3_combine 242 = .ok (.l2i, 1) := by decide +kernel
theorem dX3_run_0 : decode cX3_run 0 = .ok (.aload_n 0, 1) := by decide +kernel
theorem dX3_run_1 : decode cX3_run 1 = .ok (.iload_n 2, 1) := by decide +kernel
theorem dX3_run_2 : decode cX3_run 2 = .ok (.ifCond .ge 7, 3) := by decide +kernel
theorem dX3_run_9 : decode cX3_run 9 = .ok (.iconst 0, 1) := by decide +kernel
theorem dX3_run_10 : decode cX3_run 10 = .ok (.putfield 13, 3) := by decide +kernel
theorem dX3_run_13 : decode cX3_run 13 = .ok (.iconst 0, 1) := by decide +kernel
theorem dX3_run_14 : decode cX3_run 14 = .ok (.istore 4, 2) := by decide +kernel
theorem dX3_run_16 : decode cX3_run 16 = .ok (.iload_n 2, 1) := by decide +kernel
theorem dX3_run_17 : decode cX3_run 17 = .ok (.istore 5, 2) := by decide +kernel
theorem dX3_run_19 : decode cX3_run 19 = .ok (.iload_n 2, 1) := by decide +kernel
theorem dX3_run_20 : decode cX3_run 20 = .ok (.istore 6, 2) := by decide +kernel
theorem dX3_run_22 : decode cX3_run 22 = .ok (.aload_n 0, 1) := by decide +kernel
theorem dX3_run_23 : decode cX3_run 23 = .ok (.getfield 13, 3) := by decide +kernel
theorem dX3_run_26 : decode cX3_run 26 = .ok (.ifCond .ne 310, 3) := by decide +kernel
theorem dX3_run_29 : decode cX3_run 29 = .ok (.iload 6, 2) := by decide +kernel
theorem dX3_run_31 : decode cX3_run 31 = .ok (.ifCond .lt 305, 3) := by decide +kernel
theorem dX3_run_34 : decode cX3_run 34 = .ok (.iload 6, 2) := by decide +kernel
theorem dX3_run_36 : decode cX3_run 36 = .ok (.iconst 1, 1) := by decide +kernel
theorem dX3_run_37 : decode cX3_run 37 = .ok (.iadd, 1) := by decide +kernel
theorem dX3_run_38 : decode cX3_run 38 = .ok (.aload_n 1, 1) := by decide +kernel
theorem dX3_run_39 : decode cX3_run 39 = .ok (.arraylength, 1) := by decide +kernel
theorem dX3_run_40 : decode cX3_run 40 = .ok (.if_icmp .ge 296, 3) := by decide +kernel
theorem dX3_run_43 : decode cX3_run 43 = .ok (.aload_n 1, 1) := by decide +kernel
theorem dX3_run_44 : decode cX3_run 44 = .ok (.iload 6, 2) := by decide +kernel
theorem dX3_run_46 : decode cX3_run 46 = .ok (.iaload, 1) := by decide +kernel
theorem dX3_run_47 : decode cX3_run 47 = .ok (.istore 7, 2) := by decide +kernel
theorem dX3_run_49 : decode cX3_run 49 = .ok (.aload_n 1, 1) := by decide +kernel
theorem dX3_run_50 : decode cX3_run 50 = .ok (.iload 6, 2) := by decide +kernel
theorem dX3_run_52 : decode cX3_run 52 = .ok (.iconst 1, 1) := by decide +kernel
theorem dX3_run_53 : decode cX3_run 53 = .ok (.iadd, 1) := by decide +kernel
theorem dX3_run_54 : decode cX3_run 54 = .ok (.iaload, 1) := by decide +kernel
theorem dX3_run_55 : decode cX3_run 55 = .ok (.istore 8, 2) := by decide +kernel
theorem dX3_run_57 : decode cX3_run 57 = .ok (.iload 6, 2) := by decide +kernel
theorem dX3_run_59 : decode cX3_run 59 = .ok (.iconst 2, 1) := by decide +kernel
theorem dX3_run_60 : decode cX3_run 60 = .ok (.iadd, 1) := by decide +kernel
theorem dX3_run_61 : decode cX3_run 61 = .ok (.istore 5, 2) := by decide +kernel
theorem dX3_run_63 : decode cX3_run 63 = .ok (.iload 7, 2) := by decide +kernel
theorem dX3_run_65 : decode cX3_run 65 = .ok (.ifCond .ne 6, 3) := by decide +kernel
theorem dX3_run_71 : decode cX3_run 71 = .ok (.iload 7, 2) := by decide +kernel
theorem dX3_run_73 : decode cX3_run 73 = .ok (.iconst 1, 1) := by decide +kernel
theorem dX3_run_74 : decode cX3_run 74 = .ok (.if_icmp .eq 9, 3) := by decide +kernel
theorem dX3_run_77 : decode cX3_run 77 = .ok (.iload 7, 2) := by decide +kernel
theorem dX3_run_79 : decode cX3_run 79 = .ok (.iconst 2, 1) := by decide +kernel
theorem dX3_run_80 : decode cX3_run 80 = .ok (.if_icmp .ne 87, 3) := by decide +kernel
theorem dX3_run_167 : decode cX3_run 167 = .ok (.iload 4, 2) := by decide +kernel
theorem dX3_run_169 : decode cX3_run 169 = .ok (.iconst 1, 1) := by decide +kernel
theorem dX3_run_170 : decode cX3_run 170 = .ok (.if_icmp .ge 11, 3) := by decide +kernel
theorem dX3_run_173 : decode cX3_run 173 = .ok (.aload_n 0, 1) := by decide +kernel
theorem dX3_run_174 : decode cX3_run 174 = .ok (.iconst 1, 1) := by decide +kernel
theorem dX3_run_175 : decode cX3_run 175 = .ok (.putfield 13, 3) := by decide +kernel
theorem dX3_run_178 : decode cX3_run 178 = .ok (.goto 151, 3) := by decide +kernel
theorem dX3_run_83 : decode cX3_run 83 = .ok (.iload 7, 2) := by decide +kernel
theorem dX3_run_85 : decode cX3_run 85 = .ok (.iconst 1, 1) := by decide +kernel
theorem dX3_run_86 : decode cX3_run 86 = .ok (.if_icmp .eq 15, 3) := by decide +kernel
theorem dX3_run_101 : decode cX3_run 101 = .ok (.iconst 1, 1) := by decide +kernel
theorem dX3_run_102 : decode cX3_run 102 = .ok (.goto 4, 3) := by decide +kernel
theorem dX3_run_106 : decode cX3_run 106 = .ok (.istore 9, 2) := by decide +kernel
theorem dX3_run_108 : decode cX3_run 108 = .ok (.aload_n 0, 1) := by decide +kernel
theorem dX3_run_109 : decode cX3_run 109 = .ok (.iload 9, 2) := by decide +kernel
theorem dX3_run_111 : decode cX3_run 111 = .ok (.ifCond .eq 13, 3) := by decide +kernel
theorem dX3_run_114 : decode cX3_run 114 = .ok (.iload 4, 2) := by decide +kernel
theorem dX3_run_116 : decode cX3_run 116 = .ok (.aload_n 0, 1) := by decide +kernel
theorem dX3_run_117 : decode cX3_run 117 = .ok (.getfield 7, 3) := by decide +kernel
theorem dX3_run_120 : decode cX3_run 120 = .ok (.arraylength, 1) := by decide +kernel
theorem dX3_run_121 : decode cX3_run 121 = .ok (.if_icmp .lt 7, 3) := by decide +kernel
theorem dX3_run_128 : decode cX3_run 128 = .ok (.iconst 0, 1) := by decide +kernel
theorem dX3_run_129 : decode cX3_run 129 = .ok (.putfield 13, 3) := by decide +kernel
theorem dX3_run_132 : decode cX3_run 132 = .ok (.aload_n 0, 1) := by decide +kernel
theorem dX3_run_133 : decode cX3_run 133 = .ok (.getfield 13, 3) := by decide +kernel
theorem dX3_run_136 : decode cX3_run 136 = .ok (.ifCond .ne 28, 3) := by decide +kernel
theorem dX3_run_139 : decode cX3_run 139 = .ok (.aload_n 0, 1) := by decide +kernel
theorem dX3_run_140 : decode cX3_run 140 = .ok (.getfield 7, 3) := by decide +kernel
theorem dX3_run_143 : decode cX3_run 143 = .ok (.iload 4, 2) := by decide +kernel
theorem dX3_run_145 : decode cX3_run 145 = .ok (.iload 7, 2) := by decide +kernel
theorem dX3_run_147 : decode cX3_run 147 = .ok (.iconst 1, 1) := by decide +kernel
theorem dX3_run_148 : decode cX3_run 148 = .ok (.if_icmp .ne 8, 3) := by decide +kernel
theorem dX3_run_151 : decode cX3_run 151 = .ok (.iload 8, 2) := by decide +kernel
theorem dX3_run_153 : decode cX3_run 153 = .ok (.goto 7, 3) := by decide +kernel
theorem dX3_run_160 : decode cX3_run 160 = .ok (.iastore, 1) := by decide +kernel
theorem dX3_run_161 : decode cX3_run 161 = .ok (.iinc 4 1, 3) := by decide +kernel
theorem dX3_run_164 : decode cX3_run 164 = .ok (.goto 165, 3) := by decide +kernel
theorem dX3_run_89 : decode cX3_run 89 = .ok (.iload 8, 2) := by decide +kernel
theorem dX3_run_91 : decode cX3_run 91 = .ok (.ifCond .lt 14, 3) := by decide +kernel
theorem dX3_run_94 : decode cX3_run 94 = .ok (.iload 8, 2) := by decide +kernel
theorem dX3_run_96 : decode cX3_run 96 = .ok (.aload_n 3, 1) := by decide +kernel
theorem dX3_run_97 : decode cX3_run 97 = .ok (.arraylength, 1) := by decide +kernel
theorem dX3_run_98 : decode cX3_run 98 = .ok (.if_icmp .ge 7, 3) := by decide +kernel
theorem dX3_run_156 : decode cX3_run 156 = .ok (.aload_n 3, 1) := by decide +kernel
theorem dX3_run_157 : decode cX3_run 157 = .ok (.iload 8, 2) := by decide +kernel
theorem dX3_run_159 : decode cX3_run 159 = .ok (.iaload, 1) := by decide +kernel
theorem dX3_run_105 : decode cX3_run 105 = .ok (.iconst 0, 1) := by decide +kernel
theorem dX3_run_124 : decode cX3_run 124 = .ok (.iconst 1, 1) := by decide +kernel
theorem dX3_run_125 : decode cX3_run 125 = .ok (.goto 4, 3) := by decide +kernel
theorem dX3_run_329 : decode cX3_run 329 = .ok (.iload 5, 2) := by decide +kernel
theorem dX3_run_331 : decode cX3_run 331 = .ok (.istore 6, 2) := by decide +kernel
theorem dX3_run_333 : decode cX3_run 333 = .ok (.goto (-311), 3) := by decide +kernel
theorem dX3_run_181 : decode cX3_run 181 = .ok (.iload 7, 2) := by decide +kernel
theorem dX3_run_183 : decode cX3_run 183 = .ok (.bipush 11, 2) := by decide +kernel
theorem dX3_run_185 : decode cX3_run 185 = .ok (.if_icmp .ne 26, 3) := by decide +kernel
theorem dX3_run_211 : decode cX3_run 211 = .ok (.iload 7, 2) := by decide +kernel
theorem dX3_run_213 : decode cX3_run 213 = .ok (.bipush 12, 2) := by decide +kernel
theorem dX3_run_215 : decode cX3_run 215 = .ok (.if_icmp .eq 10, 3) := by decide +kernel
theorem dX3_run_218 : decode cX3_run 218 = .ok (.iload 7, 2) := by decide +kernel
theorem dX3_run_220 : decode cX3_run 220 = .ok (.bipush 13, 2) := by decide +kernel
theorem dX3_run_222 : decode cX3_run 222 = .ok (.if_icmp .ne 57, 3) := by decide +kernel
theorem dX3_run_279 : decode cX3_run 279 = .ok (.iload 4, 2) := by decide +kernel
theorem dX3_run_281 : decode cX3_run 281 = .ok (.iconst 2, 1) := by decide +kernel
theorem dX3_run_282 : decode cX3_run 282 = .ok (.if_icmp .ge 11, 3) := by decide +kernel
theorem dX3_run_285 : decode cX3_run 285 = .ok (.aload_n 0, 1) := by decide +kernel
theorem dX3_run_286 : decode cX3_run 286 = .ok (.iconst 1, 1) := by decide +kernel
theorem dX3_run_287 : decode cX3_run 287 = .ok (.putfield 13, 3) := by decide +kernel
theorem dX3_run_290 : decode cX3_run 290 = .ok (.goto 39, 3) := by decide +kernel
theorem dX3_run_225 : decode cX3_run 225 = .ok (.aload_n 0, 1) := by decide +kernel
theorem dX3_run_226 : decode cX3_run 226 = .ok (.getfield 7, 3) := by decide +kernel
theorem dX3_run_229 : decode cX3_run 229 = .ok (.iload 4, 2) := by decide +kernel
theorem dX3_run_231 : decode cX3_run 231 = .ok (.iconst 1, 1) := by decide +kernel
theorem dX3_run_232 : decode cX3_run 232 = .ok (.isub, 1) := by decide +kernel
theorem dX3_run_233 : decode cX3_run 233 = .ok (.iaload, 1) := by decide +kernel
theorem dX3_run_234 : decode cX3_run 234 = .ok (.ifCond .eq 7, 3) := by decide +kernel
theorem dX3_run_241 : decode cX3_run 241 = .ok (.iconst 0, 1) := by decide +kernel
theorem dX3_run_242 : decode cX3_run 242 = .ok (.istore 9, 2) := by decide +kernel
theorem dX3_run_244 : decode cX3_run 244 = .ok (.iload 9, 2) := by decide +kernel
theorem dX3_run_246 : decode cX3_run 246 = .ok (.iload 7, 2) := by decide +kernel
theorem dX3_run_248 : decode cX3_run 248 = .ok (.bipush 12, 2) := by decide +kernel
theorem dX3_run_250 : decode cX3_run 250 = .ok (.if_icmp .ne 7, 3) := by decide +kernel
theorem dX3_run_257 : decode cX3_run 257 = .ok (.iconst 0, 1) := by decide +kernel
theorem dX3_run_258 : decode cX3_run 258 = .ok (.if_icmp .ne 15, 3) := by decide +kernel
theorem dX3_run_261 : decode cX3_run 261 = .ok (.iload 5, 2) := by decide +kernel
theorem dX3_run_263 : decode cX3_run 263 = .ok (.iload 8, 2) := by decide +kernel
theorem dX3_run_265 : decode cX3_run 265 = .ok (.invokestatic 19, 3) := by decide +kernel
theorem dX3_run_268 : decode cX3_run 268 = .ok (.istore 5, 2) := by decide +kernel
theorem dX3_run_270 : decode cX3_run 270 = .ok (.goto 6, 3) := by decide +kernel
theorem dX3_run_276 : decode cX3_run 276 = .ok (.goto 53, 3) := by decide +kernel
theorem dX3_run_253 : decode cX3_run 253 = .ok (.iconst 1, 1) := by decide +kernel
theorem dX3_run_254 : decode cX3_run 254 = .ok (.goto 4, 3) := by decide +kernel
theorem dX3_run_273 : decode cX3_run 273 = .ok (.iinc 4 (-1), 3) := by decide +kernel
theorem dX3_run_237 : decode cX3_run 237 = .ok (.iconst 1, 1) := by decide +kernel
theorem dX3_run_238 : decode cX3_run 238 = .ok (.goto 4, 3) := by decide +kernel
theorem dX3_run_188 : decode cX3_run 188 = .ok (.aload_n 0, 1) := by decide +kernel
theorem dX3_run_189 : decode cX3_run 189 = .ok (.getfield 7, 3) := by decide +kernel
theorem dX3_run_192 : decode cX3_run 192 = .ok (.iload 4, 2) := by decide +kernel
theorem dX3_run_194 : decode cX3_run 194 = .ok (.iconst 1, 1) := by decide +kernel
theorem dX3_run_195 : decode cX3_run 195 = .ok (.isub, 1) := by decide +kernel
theorem dX3_run_196 : decode cX3_run 196 = .ok (.iconst 1, 1) := by decide +kernel
theorem dX3_run_197 : decode cX3_run 197 = .ok (.aload_n 0, 1) := by decide +kernel
theorem dX3_run_198 : decode cX3_run 198 = .ok (.getfield 7, 3) := by decide +kernel
theorem dX3_run_201 : decode cX3_run 201 = .ok (.iload 4, 2) := by decide +kernel
theorem dX3_run_203 : decode cX3_run 203 = .ok (.iconst 1, 1) := by decide +kernel
theorem dX3_run_204 : decode cX3_run 204 = .ok (.isub, 1) := by decide +kernel
theorem dX3_run_205 : decode cX3_run 205 = .ok (.iaload, 1) := by decide +kernel
theorem dX3_run_206 : decode cX3_run 206 = .ok (.isub, 1) := by decide +kernel
theorem dX3_run_207 : decode cX3_run 207 = .ok (.iastore, 1) := by decide +kernel
theorem dX3_run_208 : decode cX3_run 208 = .ok (.goto 121, 3) := by decide +kernel
theorem dX3_run_293 : decode cX3_run 293 = .ok (.iinc 4 (-1), 3) := by decide +kernel
theorem dX3_run_296 : decode cX3_run 296 = .ok (.aload_n 0, 1) := by decide +kernel
theorem dX3_run_297 : decode cX3_run 297 = .ok (.getfield 7, 3) := by decide +kernel
theorem dX3_run_300 : decode cX3_run 300 = .ok (.iload 4, 2) := by decide +kernel
theorem dX3_run_302 : decode cX3_run 302 = .ok (.iconst 1, 1) := by decide +kernel
theorem dX3_run_303 : decode cX3_run 303 = .ok (.isub, 1) := by decide +kernel
theorem dX3_run_304 : decode cX3_run 304 = .ok (.aload_n 0, 1) := by decide +kernel
theorem dX3_run_305 : decode cX3_run 305 = .ok (.iload 7, 2) := by decide +kernel
theorem dX3_run_307 : decode cX3_run 307 = .ok (.aload_n 0, 1) := by decide +kernel
theorem dX3_run_308 : decode cX3_run 308 = .ok (.getfield 7, 3) := by decide +kernel
theorem dX3_run_311 : decode cX3_run 311 = .ok (.iload 4, 2) := by decide +kernel
theorem dX3_run_313 : decode cX3_run 313 = .ok (.iconst 1, 1) := by decide +kernel
theorem dX3_run_314 : decode cX3_run 314 = .ok (.isub, 1) := by decide +kernel
theorem dX3_run_315 : decode cX3_run 315 = .ok (.iaload, 1) := by decide +kernel
theorem dX3_run_316 : decode cX3_run 316 = .ok (.i2l, 1) := by decide +kernel
theorem dX3_run_317 : decode cX3_run 317 = .ok (.aload_n 0, 1) := by decide +kernel
theorem dX3_run_318 : decode cX3_run 318 = .ok (.getfield 7, 3) := by decide +kernel
theorem dX3_run_321 : decode cX3_run 321 = .ok (.iload 4, 2) := by decide +kernel
theorem dX3_run_323 : decode cX3_run 323 = .ok (.iaload, 1) := by decide +kernel
theorem dX3_run_324 : decode cX3_run 324 = .ok (.i2l, 1) := by decide +kernel
theorem dX3_run_325 : decode cX3_run 325 = .ok (.invokevirtual 25, 3) := by decide +kernel
theorem dX3_run_328 : decode cX3_run 328 = .ok (.iastore, 1) := by decide +kernel
theorem dX3_run_68 : decode cX3_run 68 = .ok (.goto 268, 3) := by decide +kernel
theorem dX3_run_336 : decode cX3_run 336 = .ok (.aload_n 0, 1) := by decide +kernel
theorem dX3_run_337 : decode cX3_run 337 = .ok (.getfield 13, 3) := by decide +kernel
theorem dX3_run_340 : decode cX3_run 340 = .ok (.ifCond .ne 9, 3) := by decide +kernel
theorem dX3_run_343 : decode cX3_run 343 = .ok (.iload 4, 2) := by decide +kernel
theorem dX3_run_345 : decode cX3_run 345 = .ok (.iconst 1, 1) := by decide +kernel
theorem dX3_run_346 : decode cX3_run 346 = .ok (.if_icmp .ge 7, 3) := by decide +kernel
theorem dX3_run_353 : decode cX3_run 353 = .ok (.aload_n 0, 1) := by decide +kernel
theorem dX3_run_354 : decode cX3_run 354 = .ok (.getfield 7, 3) := by decide +kernel
theorem dX3_run_357 : decode cX3_run 357 = .ok (.iload 4, 2) := by decide +kernel
theorem dX3_run_359 : decode cX3_run 359 = .ok (.iconst 1, 1) := by decide +kernel
theorem dX3_run_360 : decode cX3_run 360 = .ok (.isub, 1) := by decide +kernel
theorem dX3_run_361 : decode cX3_run 361 = .ok (.iaload, 1) := by decide +kernel
theorem dX3_run_362 : decode cX3_run 362 = .ok (.ireturn, 1) := by decide +kernel
theorem dX3_run_349 : decode cX3_run 349 = .ok (.iconst 0, 1) := by decide +kernel
theorem dX3_run_350 : decode cX3_run 350 = .ok (.goto 12, 3) := by decide +kernel
theorem dX3_run_5 : decode cX3_run 5 = .ok (.iconst 1, 1) := by decide +kernel
theorem dX3_run_6 : decode cX3_run 6 = .ok (.goto 4, 3) := by decide +kernel
set_option maxRecDepth 20000 in
theorem ggX3_run_X3_combine : GoodIn wsX3_run wsX3_combine := goodIn_r _ [11, 1, 12, 13, 14, 15] (by decide +kernel) (by decide +kernel)
set_option maxRecDepth 20000 in
theorem gX3_run_X3_combine : GoodIn wsX3_run (wsV RX3 25 RX3 yX3_combine wsX3_combine) := goodIn_app (goodIn_of _ (by decide +kernel)) ggX3_run_X3_combine
set_option maxHeartbeats 4000000 in
set_option maxRecDepth 100000 in
theorem w_combine (l : Launch) (D : va_G) (K : Nat → ClassId) (a0 : Nat) (st_ : Int32) (x : Int64) (y : Int64) (m_0 : Value) (br : Int32) (sz : Nat) (zbr : 0 ≤ br.toInt ∧ br.toInt ≤ 1) (zx : -2147483648 ≤ x.toInt ∧ x.toInt ≤ 2147483647) (zy : -2147483648 ≤ y.toInt ∧ y.toInt ≤ 2147483647) : Met l yX3_combine wsX3_combine ({ frames := 0, cells := 0, slots := 0, locals := 0 }) (va_Pc [.ref a0, .int st_, .long x, .long y] (Pre D K [(a0, .inr (3, [m_0, .int br]))] sz)) (va_Qi (S := Su) (fun (r : Int32) (u : Su) => ((-1000000000) ≤ r.toInt ∧ r.toInt ≤ 1000000000) ∧ (0 ≤ (u.2.2.2.1 0).toInt ∧ (u.2.2.2.1 0).toInt ≤ 1) ∧ True) (fun u t => Wd D (va_A [(a0, .inr (3, [m_0, .int br]))] sz) ((fun u => [(a0, .inr (3, [m_0, .int (u.2.2.2.1 0)]))]) u) t) (va_A [(a0, .inr (3, [m_0, .int br]))] sz)) 0 0 (va_A [(a0, .inr (3, [m_0, .int br]))] sz) := by
  refine Met.ofW (cc := cX3_combine) (maxL := 8) (ret := (some .int)) (by decide) rfl ?_
  intro p e s m args below meth c s₁ B hml hv
  obtain ⟨rfl, hsz, hP, hK, hD0, hN⟩ := hv
  have hx := B.exec
  have hb := B.bytes
  have hr := B.returns
  have hts := atoms_spec (ws := wsX3_combine) B.pre
  have hown : s.vm.findClass RX3 = some m.cls := findClass_of_methodNamed B.named
  have hlocks := B.notSynchronized
  subst hsz
  have hD := hD0.self (sz := s.heap.size)
  generalize hAe : va_A [(a0, .inr (3, [m_0, .int br]))] s.heap.size = A at hD ⊢
  have hA : ∀ q : Nat, s.heap.size ≤ q → A q := fun q h => by rw [← hAe]; exact Or.inr h
  have hS : va_S A s.heap s.heap [] := va_S.rf
  have hP : va_P D vwCl [(a0, .inr (3, [m_0, .int br]))] s.heap := hP
  have hl := lv_entry [.ref a0, .int st_, .long x, .long y] (n := 8) (Nat.le_of_ble_eq_true rfl)
  rw [lg_entry_eq]
  generalize (lg_sl [.ref a0, .int st_, .long x, .long y] ++ List.replicate (8 - (lg_sl [.ref a0, .int st_, .long x, .long y]).length) Slot.unset).toArray = ls at hl ⊢
  have hl : lv_has ls 8 [(0, .ref a0), (1, .int st_), (2, .long x), (4, .long y)] := hl
  have hw3 : ∀ w ∈ wsX30, w ∈ wsX3_combine := fun w h => (List.mem_cons_of_mem _ (List.mem_append_right _ h))
  generalize hQ : MQ below _ _ s _ _ _ = Q
  refine lv_lconst (v := 0) hx hb dX3_combine_0 (by decide) ?_
  refine lv_lstore (lv' := [(6, .long 0), (0, .ref a0), (1, .int st_), (2, .long x), (4, .long y)]) hx hb dX3_combine_1 hl (by decide) rfl (fun ls hl => ?_)
  refine lv_iload_n hx hb dX3_combine_3 rfl (lv_at hl 2 rfl) ?_
  have j_124 : ∀ (v_114 : Int64) (v_115 : Int32) (hv_115 : 0 ≤ v_115.toInt ∧ v_115.toInt ≤ 1) (H : Heap) (locs : List Loc) (hP : va_P D vwCl [(a0, .inr (3, [m_0, .int v_115]))] H) (hD : va_D A [(a0, .inr (3, [m_0, .int v_115]))]) (hS : va_S A s.heap H locs) (ls : Array Slot) (hl : lv_has ls 8 [(6, .long v_114), (0, .ref a0)]), W p l e ({ frames := 0, cells := 0, slots := 0, locals := 0 }) s m (([.ref a0, .int st_, .long x, .long y] : List Value).toArray) below meth c H locs 0 0 Q (F0 m 195 ls []) := by
    intro v_114 v_115 hv_115 H locs hP hD hS ls hl
    refine lv_aload_n hx hb dX3_combine_195 rfl (lv_at hl 1 rfl) ?_
    refine lv_aload_n hx hb dX3_combine_196 rfl (lv_at hl 1 rfl) ?_
    refine va_get (ci := 3) (v := .int v_115) (C := RX3) (T := TX3) (N := 2) hx hb hts hw3 hown hK hP 0 rfl rfl 1 (by decide) (hts (.fieldLink RX3 13 "SmokeTune$Machine" "broken" "Z") (List.mem_cons_of_mem _ (List.mem_append_left _ (List.mem_of_getElem? (i := 0) rfl)))) (fun _ h9 => h9) rfl dX3_combine_197 ?_
    refine lv_if_ne (tgt := 221) hx hb dX3_combine_200 (by decide) (fun c_125 => ?_) (fun c_125 => ?_)
    · have c_125i := i_ne (x := v_115.toInt) (y := 0) rfl rfl c_125
      refine lv_iconst (v := 1) hx hb dX3_combine_221 (by decide) ?_
      refine lv_goto (tgt := 226) hx hb dX3_combine_222 (by decide) ?_
      refine va_put (ci := 3) (v := .int 1) (ty := .boolean) (C := RX3) (T := TX3) (N := 2) hx hb hts hw3 tyX3 tyX3_ok nmX3 hown hK hP hD hS 0 rfl rfl 1 (by decide) (hts (.fieldLink RX3 13 "SmokeTune$Machine" "broken" "Z") (List.mem_cons_of_mem _ (List.mem_append_left _ (List.mem_of_getElem? (i := 0) rfl)))) (fun _ h9 => h9) rfl (by decide +kernel) (by first | rfl | decide) (by first | rfl | decide) (Nat.le_of_ble_eq_true rfl) dX3_combine_226 (fun H locs hP hD hS => ?_)
      have hP : va_P D vwCl [(a0, .inr (3, [m_0, .int 1]))] H := hP
      have hD : va_D A [(a0, .inr (3, [m_0, .int 1]))] := hD
      refine lv_aload_n hx hb dX3_combine_229 rfl (lv_at hl 1 rfl) ?_
      refine va_get (ci := 3) (v := .int 1) (C := RX3) (T := TX3) (N := 2) hx hb hts hw3 hown hK hP 0 rfl rfl 1 (by decide) (hts (.fieldLink RX3 13 "SmokeTune$Machine" "broken" "Z") (List.mem_cons_of_mem _ (List.mem_append_left _ (List.mem_of_getElem? (i := 0) rfl)))) (fun _ h9 => h9) rfl dX3_combine_230 ?_
      refine lv_if_eq (tgt := 240) hx hb dX3_combine_233 (by decide) (fun c_126 => absurd c_126 (by decide)) (fun c_126 => ?_)
      refine lv_iconst (v := 0) hx hb dX3_combine_236 (by decide) ?_
      refine lv_goto (tgt := 243) hx hb dX3_combine_237 (by decide) ?_
      rw [← hQ]
      have hP9 := hP.sub (ws' := [(a0, .inr (3, [m_0, .int 1]))]) [0] rfl
      have hD9 := hD.sub (ws' := [(a0, .inr (3, [m_0, .int 1]))]) [0] (by decide) rfl
      exact W.iret (v := 0) hx hb hr (fun t ht hW => ⟨⟨0, ((fun _ => 0, fun _ => fun _ => 0, fun _ => fun _ => 0, fun i => match i with | _ => 1, fun _ => 0, fun _ => fun _ => none) : Su), rfl, ⟨(show (-1000000000) ≤ (0 : Int32).toInt ∧ (0 : Int32).toInt ≤ 1000000000 by decide), (show 0 ≤ (1 : Int32).toInt ∧ (1 : Int32).toInt ≤ 1 by decide), trivial⟩, (⟨by rw [ht]; exact hP9, hD9⟩ : Wd D A _ t)⟩, hS.F ht⟩) hS.2.2 dX3_combine_243
    · have c_125i := i_eq (x := v_115.toInt) (y := 0) rfl rfl c_125
      refine lv_lload hx hb dX3_combine_203 (lv_at hl 0 rfl) ?_
      refine lv_ldc2 (v := 1000000000) hx hb hown (hts (.constantLong RX3 29 (1000000000)) (List.mem_cons_of_mem _ (List.mem_append_left _ (List.mem_of_getElem? (i := 1) rfl)))) dX3_combine_205 ?_
      refine W.lcmp hx hb dX3_combine_208 ?_
      refine lv_if_gt (tgt := 221) hx hb dX3_combine_209 (by decide) (fun c_127 => ?_) (fun c_127 => ?_)
      · have c_127i := l_lt (x := 1000000000) (y := v_114.toInt) rfl rfl ((lg_cmp_gt v_114 1000000000).mp c_127)
        refine lv_iconst (v := 1) hx hb dX3_combine_221 (by decide) ?_
        refine lv_goto (tgt := 226) hx hb dX3_combine_222 (by decide) ?_
        refine va_put (ci := 3) (v := .int 1) (ty := .boolean) (C := RX3) (T := TX3) (N := 2) hx hb hts hw3 tyX3 tyX3_ok nmX3 hown hK hP hD hS 0 rfl rfl 1 (by decide) (hts (.fieldLink RX3 13 "SmokeTune$Machine" "broken" "Z") (List.mem_cons_of_mem _ (List.mem_append_left _ (List.mem_of_getElem? (i := 0) rfl)))) (fun _ h9 => h9) rfl (by decide +kernel) (by first | rfl | decide) (by first | rfl | decide) (Nat.le_of_ble_eq_true rfl) dX3_combine_226 (fun H locs hP hD hS => ?_)
        have hP : va_P D vwCl [(a0, .inr (3, [m_0, .int 1]))] H := hP
        have hD : va_D A [(a0, .inr (3, [m_0, .int 1]))] := hD
        refine lv_aload_n hx hb dX3_combine_229 rfl (lv_at hl 1 rfl) ?_
        refine va_get (ci := 3) (v := .int 1) (C := RX3) (T := TX3) (N := 2) hx hb hts hw3 hown hK hP 0 rfl rfl 1 (by decide) (hts (.fieldLink RX3 13 "SmokeTune$Machine" "broken" "Z") (List.mem_cons_of_mem _ (List.mem_append_left _ (List.mem_of_getElem? (i := 0) rfl)))) (fun _ h9 => h9) rfl dX3_combine_230 ?_
        refine lv_if_eq (tgt := 240) hx hb dX3_combine_233 (by decide) (fun c_128 => absurd c_128 (by decide)) (fun c_128 => ?_)
        refine lv_iconst (v := 0) hx hb dX3_combine_236 (by decide) ?_
        refine lv_goto (tgt := 243) hx hb dX3_combine_237 (by decide) ?_
        rw [← hQ]
        have hP9 := hP.sub (ws' := [(a0, .inr (3, [m_0, .int 1]))]) [0] rfl
        have hD9 := hD.sub (ws' := [(a0, .inr (3, [m_0, .int 1]))]) [0] (by decide) rfl
        exact W.iret (v := 0) hx hb hr (fun t ht hW => ⟨⟨0, ((fun _ => 0, fun _ => fun _ => 0, fun _ => fun _ => 0, fun i => match i with | _ => 1, fun _ => 0, fun _ => fun _ => none) : Su), rfl, ⟨(show (-1000000000) ≤ (0 : Int32).toInt ∧ (0 : Int32).toInt ≤ 1000000000 by decide), (show 0 ≤ (1 : Int32).toInt ∧ (1 : Int32).toInt ≤ 1 by decide), trivial⟩, (⟨by rw [ht]; exact hP9, hD9⟩ : Wd D A _ t)⟩, hS.F ht⟩) hS.2.2 dX3_combine_243
      · have c_127i := l_nlt (x := 1000000000) (y := v_114.toInt) rfl rfl (fun q => c_127 ((lg_cmp_gt v_114 1000000000).mpr q))
        refine lv_lload hx hb dX3_combine_212 (lv_at hl 0 rfl) ?_
        refine lv_ldc2 (v := (-1000000000)) hx hb hown (hts (.constantLong RX3 31 (-1000000000)) (List.mem_cons_of_mem _ (List.mem_append_left _ (List.mem_of_getElem? (i := 2) rfl)))) dX3_combine_214 ?_
        refine W.lcmp hx hb dX3_combine_217 ?_
        refine lv_if_ge (tgt := 225) hx hb dX3_combine_218 (by decide) (fun c_129 => ?_) (fun c_129 => ?_)
        · have c_129i := l_le (x := (-1000000000)) (y := v_114.toInt) rfl rfl ((lg_cmp_ge v_114 (-1000000000)).mp c_129)
          refine lv_iconst (v := 0) hx hb dX3_combine_225 (by decide) ?_
          refine va_put (ci := 3) (v := .int 0) (ty := .boolean) (C := RX3) (T := TX3) (N := 2) hx hb hts hw3 tyX3 tyX3_ok nmX3 hown hK hP hD hS 0 rfl rfl 1 (by decide) (hts (.fieldLink RX3 13 "SmokeTune$Machine" "broken" "Z") (List.mem_cons_of_mem _ (List.mem_append_left _ (List.mem_of_getElem? (i := 0) rfl)))) (fun _ h9 => h9) rfl (by decide +kernel) (by first | rfl | decide) (by first | rfl | decide) (Nat.le_of_ble_eq_true rfl) dX3_combine_226 (fun H locs hP hD hS => ?_)
          have hP : va_P D vwCl [(a0, .inr (3, [m_0, .int 0]))] H := hP
          have hD : va_D A [(a0, .inr (3, [m_0, .int 0]))] := hD
          refine lv_aload_n hx hb dX3_combine_229 rfl (lv_at hl 1 rfl) ?_
          refine va_get (ci := 3) (v := .int 0) (C := RX3) (T := TX3) (N := 2) hx hb hts hw3 hown hK hP 0 rfl rfl 1 (by decide) (hts (.fieldLink RX3 13 "SmokeTune$Machine" "broken" "Z") (List.mem_cons_of_mem _ (List.mem_append_left _ (List.mem_of_getElem? (i := 0) rfl)))) (fun _ h9 => h9) rfl dX3_combine_230 ?_
          refine lv_if_eq (tgt := 240) hx hb dX3_combine_233 (by decide) (fun c_130 => ?_) (fun c_130 => absurd (by decide) c_130)
          refine lv_lload hx hb dX3_combine_240 (lv_at hl 0 rfl) ?_
          refine lv_l2i hx hb dX3_combine_242 rfl ?_
          refine lv_topi (fun x_131 ex_131 => ?_)
          have hx_131 : x_131.toInt = v_114.toInt := by rw [ex_131]; exact l_nar rfl (by omega)
          rw [← hQ]
          have hP9 := hP.sub (ws' := [(a0, .inr (3, [m_0, .int 0]))]) [0] rfl
          have hD9 := hD.sub (ws' := [(a0, .inr (3, [m_0, .int 0]))]) [0] (by decide) rfl
          exact W.iret (v := x_131) hx hb hr (fun t ht hW => ⟨⟨x_131, ((fun _ => 0, fun _ => fun _ => 0, fun _ => fun _ => 0, fun i => match i with | _ => 0, fun _ => 0, fun _ => fun _ => none) : Su), rfl, ⟨(show (-1000000000) ≤ x_131.toInt ∧ x_131.toInt ≤ 1000000000 by rw [hx_131]; omega), (show 0 ≤ (0 : Int32).toInt ∧ (0 : Int32).toInt ≤ 1 by decide), trivial⟩, (⟨by rw [ht]; exact hP9, hD9⟩ : Wd D A _ t)⟩, hS.F ht⟩) hS.2.2 dX3_combine_243
        · have c_129i := l_nle (x := (-1000000000)) (y := v_114.toInt) rfl rfl (fun q => c_129 ((lg_cmp_ge v_114 (-1000000000)).mpr q))
          refine lv_iconst (v := 1) hx hb dX3_combine_221 (by decide) ?_
          refine lv_goto (tgt := 226) hx hb dX3_combine_222 (by decide) ?_
          refine va_put (ci := 3) (v := .int 1) (ty := .boolean) (C := RX3) (T := TX3) (N := 2) hx hb hts hw3 tyX3 tyX3_ok nmX3 hown hK hP hD hS 0 rfl rfl 1 (by decide) (hts (.fieldLink RX3 13 "SmokeTune$Machine" "broken" "Z") (List.mem_cons_of_mem _ (List.mem_append_left _ (List.mem_of_getElem? (i := 0) rfl)))) (fun _ h9 => h9) rfl (by decide +kernel) (by first | rfl | decide) (by first | rfl | decide) (Nat.le_of_ble_eq_true rfl) dX3_combine_226 (fun H locs hP hD hS => ?_)
          have hP : va_P D vwCl [(a0, .inr (3, [m_0, .int 1]))] H := hP
          have hD : va_D A [(a0, .inr (3, [m_0, .int 1]))] := hD
          refine lv_aload_n hx hb dX3_combine_229 rfl (lv_at hl 1 rfl) ?_
          refine va_get (ci := 3) (v := .int 1) (C := RX3) (T := TX3) (N := 2) hx hb hts hw3 hown hK hP 0 rfl rfl 1 (by decide) (hts (.fieldLink RX3 13 "SmokeTune$Machine" "broken" "Z") (List.mem_cons_of_mem _ (List.mem_append_left _ (List.mem_of_getElem? (i := 0) rfl)))) (fun _ h9 => h9) rfl dX3_combine_230 ?_
          refine lv_if_eq (tgt := 240) hx hb dX3_combine_233 (by decide) (fun c_132 => absurd c_132 (by decide)) (fun c_132 => ?_)
          refine lv_iconst (v := 0) hx hb dX3_combine_236 (by decide) ?_
          refine lv_goto (tgt := 243) hx hb dX3_combine_237 (by decide) ?_
          rw [← hQ]
          have hP9 := hP.sub (ws' := [(a0, .inr (3, [m_0, .int 1]))]) [0] rfl
          have hD9 := hD.sub (ws' := [(a0, .inr (3, [m_0, .int 1]))]) [0] (by decide) rfl
          exact W.iret (v := 0) hx hb hr (fun t ht hW => ⟨⟨0, ((fun _ => 0, fun _ => fun _ => 0, fun _ => fun _ => 0, fun i => match i with | _ => 1, fun _ => 0, fun _ => fun _ => none) : Su), rfl, ⟨(show (-1000000000) ≤ (0 : Int32).toInt ∧ (0 : Int32).toInt ≤ 1000000000 by decide), (show 0 ≤ (1 : Int32).toInt ∧ (1 : Int32).toInt ≤ 1 by decide), trivial⟩, (⟨by rw [ht]; exact hP9, hD9⟩ : Wd D A _ t)⟩, hS.F ht⟩) hS.2.2 dX3_combine_243
  have w_133 : st_.toInt = 3 ∨ st_.toInt = 4 ∨ st_.toInt = 5 ∨ st_.toInt = 6 ∨ st_.toInt = 7 ∨ st_.toInt = 8 ∨ st_.toInt = 9 ∨ (st_.toInt < 3 ∨ 9 < st_.toInt) := by omega
  rcases w_133 with w_133 | w_133 | w_133 | w_133 | w_133 | w_133 | w_133 | w_133
  · refine lv_tableIn (tgt := 48) hx hb dX3_combine_4 (by omega) (by omega) (by rw [w_133]; rfl) (by decide) ?_
    refine lv_lload_n hx hb dX3_combine_48 rfl (lv_at hl 3 rfl) ?_
    refine lv_lload hx hb dX3_combine_49 (lv_at hl 4 rfl) ?_
    refine lv_ladd hx hb dX3_combine_51 ?_
    refine lv_topl (fun x_134 ex_134 => ?_)
    have hx_134 : x_134.toInt = (x.toInt + y.toInt) := by rw [ex_134]; exact l_add rfl rfl (by omega)
    refine lv_lstore (lv' := [(6, .long x_134), (0, .ref a0), (1, .int st_), (2, .long x), (4, .long y)]) hx hb dX3_combine_52 hl (by decide) rfl (fun ls hl => ?_)
    refine lv_goto (tgt := 195) hx hb dX3_combine_54 (by decide) ?_
    exact j_124 x_134 br (by omega) _ _ hP hD hS ls (lv_sub hl [0, 1] rfl)
  · refine lv_tableIn (tgt := 57) hx hb dX3_combine_4 (by omega) (by omega) (by rw [w_133]; rfl) (by decide) ?_
    refine lv_lload_n hx hb dX3_combine_57 rfl (lv_at hl 3 rfl) ?_
    refine lv_lload hx hb dX3_combine_58 (lv_at hl 4 rfl) ?_
    refine lv_lsub hx hb dX3_combine_60 ?_
    refine lv_topl (fun x_135 ex_135 => ?_)
    have hx_135 : x_135.toInt = (x.toInt - y.toInt) := by rw [ex_135]; exact l_sub rfl rfl (by omega)
    refine lv_lstore (lv' := [(6, .long x_135), (0, .ref a0), (1, .int st_), (2, .long x), (4, .long y)]) hx hb dX3_combine_61 hl (by decide) rfl (fun ls hl => ?_)
    refine lv_goto (tgt := 195) hx hb dX3_combine_63 (by decide) ?_
    exact j_124 x_135 br (by omega) _ _ hP hD hS ls (lv_sub hl [0, 1] rfl)
  · refine lv_tableIn (tgt := 66) hx hb dX3_combine_4 (by omega) (by omega) (by rw [w_133]; rfl) (by decide) ?_
    refine lv_lload_n hx hb dX3_combine_66 rfl (lv_at hl 3 rfl) ?_
    refine lv_lload hx hb dX3_combine_67 (lv_at hl 4 rfl) ?_
    refine lv_lmul hx hb dX3_combine_69 ?_
    refine lv_topl (fun x_136 ex_136 => ?_)
    refine lv_lstore (lv' := [(6, .long x_136), (0, .ref a0), (1, .int st_), (2, .long x), (4, .long y)]) hx hb dX3_combine_70 hl (by decide) rfl (fun ls hl => ?_)
    refine lv_goto (tgt := 195) hx hb dX3_combine_72 (by decide) ?_
    exact j_124 x_136 br (by omega) _ _ hP hD hS ls (lv_sub hl [0, 1] rfl)
  · refine lv_tableIn (tgt := 75) hx hb dX3_combine_4 (by omega) (by omega) (by rw [w_133]; rfl) (by decide) ?_
    refine lv_aload_n hx hb dX3_combine_75 rfl (lv_at hl 1 rfl) ?_
    refine lv_lload hx hb dX3_combine_76 (lv_at hl 4 rfl) ?_
    refine lv_lconst (v := 0) hx hb dX3_combine_78 (by decide) ?_
    refine W.lcmp hx hb dX3_combine_79 ?_
    refine lv_if_ne (tgt := 87) hx hb dX3_combine_80 (by decide) (fun c_137 => ?_) (fun c_137 => ?_)
    · have c_137i := l_ne (x := y.toInt) (y := 0) rfl rfl (fun q => c_137 ((lg_cmp_eq y 0).mpr q))
      refine lv_iconst (v := 0) hx hb dX3_combine_87 (by decide) ?_
      refine va_put (ci := 3) (v := .int 0) (ty := .boolean) (C := RX3) (T := TX3) (N := 2) hx hb hts hw3 tyX3 tyX3_ok nmX3 hown hK hP hD hS 0 rfl rfl 1 (by decide) (hts (.fieldLink RX3 13 "SmokeTune$Machine" "broken" "Z") (List.mem_cons_of_mem _ (List.mem_append_left _ (List.mem_of_getElem? (i := 0) rfl)))) (fun _ h9 => h9) rfl (by decide +kernel) (by first | rfl | decide) (by first | rfl | decide) (Nat.le_of_ble_eq_true rfl) dX3_combine_88 (fun H locs hP hD hS => ?_)
      have hP : va_P D vwCl [(a0, .inr (3, [m_0, .int 0]))] H := hP
      have hD : va_D A [(a0, .inr (3, [m_0, .int 0]))] := hD
      refine lv_lload hx hb dX3_combine_91 (lv_at hl 4 rfl) ?_
      refine lv_lconst (v := 0) hx hb dX3_combine_93 (by decide) ?_
      refine W.lcmp hx hb dX3_combine_94 ?_
      refine lv_if_ne (tgt := 102) hx hb dX3_combine_95 (by decide) (fun c_138 => ?_) (fun c_138 => ?_)
      · have c_138i := l_ne (x := y.toInt) (y := 0) rfl rfl (fun q => c_138 ((lg_cmp_eq y 0).mpr q))
        refine lv_lload_n hx hb dX3_combine_102 rfl (lv_at hl 3 rfl) ?_
        refine lv_lload hx hb dX3_combine_103 (lv_at hl 4 rfl) ?_
        refine lv_ldiv hx hb dX3_combine_105 (fun h9 => by have h8 := l_eq (x := y.toInt) (y := 0) rfl rfl h9; omega) ?_
        refine lv_topl (fun x_139 ex_139 => ?_)
        refine lv_lstore (lv' := [(6, .long x_139), (0, .ref a0), (1, .int st_), (2, .long x), (4, .long y)]) hx hb dX3_combine_106 hl (by decide) rfl (fun ls hl => ?_)
        refine lv_goto (tgt := 195) hx hb dX3_combine_108 (by decide) ?_
        exact j_124 x_139 0 (by decide) _ _ hP hD hS ls (lv_sub hl [0, 1] rfl)
      · have c_138i := l_eq (x := y.toInt) (y := 0) rfl rfl ((lg_cmp_eq y 0).mp c_138)
        refine lv_lconst (v := 0) hx hb dX3_combine_98 (by decide) ?_
        refine lv_goto (tgt := 106) hx hb dX3_combine_99 (by decide) ?_
        refine lv_lstore (lv' := [(6, .long 0), (0, .ref a0), (1, .int st_), (2, .long x), (4, .long y)]) hx hb dX3_combine_106 hl (by decide) rfl (fun ls hl => ?_)
        refine lv_goto (tgt := 195) hx hb dX3_combine_108 (by decide) ?_
        exact j_124 0 0 (by decide) _ _ hP hD hS ls (lv_sub hl [0, 1] rfl)
    · have c_137i := l_eq (x := y.toInt) (y := 0) rfl rfl ((lg_cmp_eq y 0).mp c_137)
      refine lv_iconst (v := 1) hx hb dX3_combine_83 (by decide) ?_
      refine lv_goto (tgt := 88) hx hb dX3_combine_84 (by decide) ?_
      refine va_put (ci := 3) (v := .int 1) (ty := .boolean) (C := RX3) (T := TX3) (N := 2) hx hb hts hw3 tyX3 tyX3_ok nmX3 hown hK hP hD hS 0 rfl rfl 1 (by decide) (hts (.fieldLink RX3 13 "SmokeTune$Machine" "broken" "Z") (List.mem_cons_of_mem _ (List.mem_append_left _ (List.mem_of_getElem? (i := 0) rfl)))) (fun _ h9 => h9) rfl (by decide +kernel) (by first | rfl | decide) (by first | rfl | decide) (Nat.le_of_ble_eq_true rfl) dX3_combine_88 (fun H locs hP hD hS => ?_)
      have hP : va_P D vwCl [(a0, .inr (3, [m_0, .int 1]))] H := hP
      have hD : va_D A [(a0, .inr (3, [m_0, .int 1]))] := hD
      refine lv_lload hx hb dX3_combine_91 (lv_at hl 4 rfl) ?_
      refine lv_lconst (v := 0) hx hb dX3_combine_93 (by decide) ?_
      refine W.lcmp hx hb dX3_combine_94 ?_
      refine lv_if_ne (tgt := 102) hx hb dX3_combine_95 (by decide) (fun c_140 => ?_) (fun c_140 => ?_)
      · have c_140i := l_ne (x := y.toInt) (y := 0) rfl rfl (fun q => c_140 ((lg_cmp_eq y 0).mpr q))
        exfalso; omega
      · have c_140i := l_eq (x := y.toInt) (y := 0) rfl rfl ((lg_cmp_eq y 0).mp c_140)
        refine lv_lconst (v := 0) hx hb dX3_combine_98 (by decide) ?_
        refine lv_goto (tgt := 106) hx hb dX3_combine_99 (by decide) ?_
        refine lv_lstore (lv' := [(6, .long 0), (0, .ref a0), (1, .int st_), (2, .long x), (4, .long y)]) hx hb dX3_combine_106 hl (by decide) rfl (fun ls hl => ?_)
        refine lv_goto (tgt := 195) hx hb dX3_combine_108 (by decide) ?_
        exact j_124 0 1 (by decide) _ _ hP hD hS ls (lv_sub hl [0, 1] rfl)
  · refine lv_tableIn (tgt := 111) hx hb dX3_combine_4 (by omega) (by omega) (by rw [w_133]; rfl) (by decide) ?_
    refine lv_aload_n hx hb dX3_combine_111 rfl (lv_at hl 1 rfl) ?_
    refine lv_lload hx hb dX3_combine_112 (lv_at hl 4 rfl) ?_
    refine lv_lconst (v := 0) hx hb dX3_combine_114 (by decide) ?_
    refine W.lcmp hx hb dX3_combine_115 ?_
    refine lv_if_ne (tgt := 123) hx hb dX3_combine_116 (by decide) (fun c_141 => ?_) (fun c_141 => ?_)
    · have c_141i := l_ne (x := y.toInt) (y := 0) rfl rfl (fun q => c_141 ((lg_cmp_eq y 0).mpr q))
      refine lv_iconst (v := 0) hx hb dX3_combine_123 (by decide) ?_
      refine va_put (ci := 3) (v := .int 0) (ty := .boolean) (C := RX3) (T := TX3) (N := 2) hx hb hts hw3 tyX3 tyX3_ok nmX3 hown hK hP hD hS 0 rfl rfl 1 (by decide) (hts (.fieldLink RX3 13 "SmokeTune$Machine" "broken" "Z") (List.mem_cons_of_mem _ (List.mem_append_left _ (List.mem_of_getElem? (i := 0) rfl)))) (fun _ h9 => h9) rfl (by decide +kernel) (by first | rfl | decide) (by first | rfl | decide) (Nat.le_of_ble_eq_true rfl) dX3_combine_124 (fun H locs hP hD hS => ?_)
      have hP : va_P D vwCl [(a0, .inr (3, [m_0, .int 0]))] H := hP
      have hD : va_D A [(a0, .inr (3, [m_0, .int 0]))] := hD
      refine lv_lload hx hb dX3_combine_127 (lv_at hl 4 rfl) ?_
      refine lv_lconst (v := 0) hx hb dX3_combine_129 (by decide) ?_
      refine W.lcmp hx hb dX3_combine_130 ?_
      refine lv_if_ne (tgt := 138) hx hb dX3_combine_131 (by decide) (fun c_142 => ?_) (fun c_142 => ?_)
      · have c_142i := l_ne (x := y.toInt) (y := 0) rfl rfl (fun q => c_142 ((lg_cmp_eq y 0).mpr q))
        refine lv_lload_n hx hb dX3_combine_138 rfl (lv_at hl 3 rfl) ?_
        refine lv_lload hx hb dX3_combine_139 (lv_at hl 4 rfl) ?_
        refine lv_lrem hx hb dX3_combine_141 (fun h9 => by have h8 := l_eq (x := y.toInt) (y := 0) rfl rfl h9; omega) ?_
        refine lv_topl (fun x_143 ex_143 => ?_)
        refine lv_lstore (lv' := [(6, .long x_143), (0, .ref a0), (1, .int st_), (2, .long x), (4, .long y)]) hx hb dX3_combine_142 hl (by decide) rfl (fun ls hl => ?_)
        refine lv_goto (tgt := 195) hx hb dX3_combine_144 (by decide) ?_
        exact j_124 x_143 0 (by decide) _ _ hP hD hS ls (lv_sub hl [0, 1] rfl)
      · have c_142i := l_eq (x := y.toInt) (y := 0) rfl rfl ((lg_cmp_eq y 0).mp c_142)
        refine lv_lconst (v := 0) hx hb dX3_combine_134 (by decide) ?_
        refine lv_goto (tgt := 142) hx hb dX3_combine_135 (by decide) ?_
        refine lv_lstore (lv' := [(6, .long 0), (0, .ref a0), (1, .int st_), (2, .long x), (4, .long y)]) hx hb dX3_combine_142 hl (by decide) rfl (fun ls hl => ?_)
        refine lv_goto (tgt := 195) hx hb dX3_combine_144 (by decide) ?_
        exact j_124 0 0 (by decide) _ _ hP hD hS ls (lv_sub hl [0, 1] rfl)
    · have c_141i := l_eq (x := y.toInt) (y := 0) rfl rfl ((lg_cmp_eq y 0).mp c_141)
      refine lv_iconst (v := 1) hx hb dX3_combine_119 (by decide) ?_
      refine lv_goto (tgt := 124) hx hb dX3_combine_120 (by decide) ?_
      refine va_put (ci := 3) (v := .int 1) (ty := .boolean) (C := RX3) (T := TX3) (N := 2) hx hb hts hw3 tyX3 tyX3_ok nmX3 hown hK hP hD hS 0 rfl rfl 1 (by decide) (hts (.fieldLink RX3 13 "SmokeTune$Machine" "broken" "Z") (List.mem_cons_of_mem _ (List.mem_append_left _ (List.mem_of_getElem? (i := 0) rfl)))) (fun _ h9 => h9) rfl (by decide +kernel) (by first | rfl | decide) (by first | rfl | decide) (Nat.le_of_ble_eq_true rfl) dX3_combine_124 (fun H locs hP hD hS => ?_)
      have hP : va_P D vwCl [(a0, .inr (3, [m_0, .int 1]))] H := hP
      have hD : va_D A [(a0, .inr (3, [m_0, .int 1]))] := hD
      refine lv_lload hx hb dX3_combine_127 (lv_at hl 4 rfl) ?_
      refine lv_lconst (v := 0) hx hb dX3_combine_129 (by decide) ?_
      refine W.lcmp hx hb dX3_combine_130 ?_
      refine lv_if_ne (tgt := 138) hx hb dX3_combine_131 (by decide) (fun c_144 => ?_) (fun c_144 => ?_)
      · have c_144i := l_ne (x := y.toInt) (y := 0) rfl rfl (fun q => c_144 ((lg_cmp_eq y 0).mpr q))
        exfalso; omega
      · have c_144i := l_eq (x := y.toInt) (y := 0) rfl rfl ((lg_cmp_eq y 0).mp c_144)
        refine lv_lconst (v := 0) hx hb dX3_combine_134 (by decide) ?_
        refine lv_goto (tgt := 142) hx hb dX3_combine_135 (by decide) ?_
        refine lv_lstore (lv' := [(6, .long 0), (0, .ref a0), (1, .int st_), (2, .long x), (4, .long y)]) hx hb dX3_combine_142 hl (by decide) rfl (fun ls hl => ?_)
        refine lv_goto (tgt := 195) hx hb dX3_combine_144 (by decide) ?_
        exact j_124 0 1 (by decide) _ _ hP hD hS ls (lv_sub hl [0, 1] rfl)
  · refine lv_tableIn (tgt := 147) hx hb dX3_combine_4 (by omega) (by omega) (by rw [w_133]; rfl) (by decide) ?_
    refine lv_lload_n hx hb dX3_combine_147 rfl (lv_at hl 3 rfl) ?_
    refine lv_lload hx hb dX3_combine_148 (lv_at hl 4 rfl) ?_
    refine W.lcmp hx hb dX3_combine_150 ?_
    refine lv_if_ge (tgt := 158) hx hb dX3_combine_151 (by decide) (fun c_145 => ?_) (fun c_145 => ?_)
    · have c_145i := l_le (x := y.toInt) (y := x.toInt) rfl rfl ((lg_cmp_ge x y).mp c_145)
      refine lv_lconst (v := 0) hx hb dX3_combine_158 (by decide) ?_
      refine lv_lstore (lv' := [(6, .long 0), (0, .ref a0), (1, .int st_), (2, .long x), (4, .long y)]) hx hb dX3_combine_159 hl (by decide) rfl (fun ls hl => ?_)
      refine lv_goto (tgt := 195) hx hb dX3_combine_161 (by decide) ?_
      exact j_124 0 br (by omega) _ _ hP hD hS ls (lv_sub hl [0, 1] rfl)
    · have c_145i := l_nle (x := y.toInt) (y := x.toInt) rfl rfl (fun q => c_145 ((lg_cmp_ge x y).mpr q))
      refine lv_lconst (v := 1) hx hb dX3_combine_154 (by decide) ?_
      refine lv_goto (tgt := 159) hx hb dX3_combine_155 (by decide) ?_
      refine lv_lstore (lv' := [(6, .long 1), (0, .ref a0), (1, .int st_), (2, .long x), (4, .long y)]) hx hb dX3_combine_159 hl (by decide) rfl (fun ls hl => ?_)
      refine lv_goto (tgt := 195) hx hb dX3_combine_161 (by decide) ?_
      exact j_124 1 br (by omega) _ _ hP hD hS ls (lv_sub hl [0, 1] rfl)
  · refine lv_tableIn (tgt := 164) hx hb dX3_combine_4 (by omega) (by omega) (by rw [w_133]; rfl) (by decide) ?_
    refine lv_lload_n hx hb dX3_combine_164 rfl (lv_at hl 3 rfl) ?_
    refine lv_lload hx hb dX3_combine_165 (lv_at hl 4 rfl) ?_
    refine W.lcmp hx hb dX3_combine_167 ?_
    refine lv_if_le (tgt := 175) hx hb dX3_combine_168 (by decide) (fun c_146 => ?_) (fun c_146 => ?_)
    · have c_146i := l_le (x := x.toInt) (y := y.toInt) rfl rfl ((lg_cmp_le x y).mp c_146)
      refine lv_lconst (v := 0) hx hb dX3_combine_175 (by decide) ?_
      refine lv_lstore (lv' := [(6, .long 0), (0, .ref a0), (1, .int st_), (2, .long x), (4, .long y)]) hx hb dX3_combine_176 hl (by decide) rfl (fun ls hl => ?_)
      refine lv_goto (tgt := 195) hx hb dX3_combine_178 (by decide) ?_
      exact j_124 0 br (by omega) _ _ hP hD hS ls (lv_sub hl [0, 1] rfl)
    · have c_146i := l_nle (x := x.toInt) (y := y.toInt) rfl rfl (fun q => c_146 ((lg_cmp_le x y).mpr q))
      refine lv_lconst (v := 1) hx hb dX3_combine_171 (by decide) ?_
      refine lv_goto (tgt := 176) hx hb dX3_combine_172 (by decide) ?_
      refine lv_lstore (lv' := [(6, .long 1), (0, .ref a0), (1, .int st_), (2, .long x), (4, .long y)]) hx hb dX3_combine_176 hl (by decide) rfl (fun ls hl => ?_)
      refine lv_goto (tgt := 195) hx hb dX3_combine_178 (by decide) ?_
      exact j_124 1 br (by omega) _ _ hP hD hS ls (lv_sub hl [0, 1] rfl)
  · refine lv_tableOut (tgt := 181) hx hb dX3_combine_4 (by omega) (by decide) ?_
    refine lv_lload_n hx hb dX3_combine_181 rfl (lv_at hl 3 rfl) ?_
    refine lv_lload hx hb dX3_combine_182 (lv_at hl 4 rfl) ?_
    refine W.lcmp hx hb dX3_combine_184 ?_
    refine lv_if_ne (tgt := 192) hx hb dX3_combine_185 (by decide) (fun c_147 => ?_) (fun c_147 => ?_)
    · have c_147i := l_ne (x := x.toInt) (y := y.toInt) rfl rfl (fun q => c_147 ((lg_cmp_eq x y).mpr q))
      refine lv_lconst (v := 0) hx hb dX3_combine_192 (by decide) ?_
      refine lv_lstore (lv' := [(6, .long 0), (0, .ref a0), (1, .int st_), (2, .long x), (4, .long y)]) hx hb dX3_combine_193 hl (by decide) rfl (fun ls hl => ?_)
      exact j_124 0 br (by omega) _ _ hP hD hS ls (lv_sub hl [0, 1] rfl)
    · have c_147i := l_eq (x := x.toInt) (y := y.toInt) rfl rfl ((lg_cmp_eq x y).mp c_147)
      refine lv_lconst (v := 1) hx hb dX3_combine_188 (by decide) ?_
      refine lv_goto (tgt := 193) hx hb dX3_combine_189 (by decide) ?_
      refine lv_lstore (lv' := [(6, .long 1), (0, .ref a0), (1, .int st_), (2, .long x), (4, .long y)]) hx hb dX3_combine_193 hl (by decide) rfl (fun ls hl => ?_)
      exact j_124 1 br (by omega) _ _ hP hD hS ls (lv_sub hl [0, 1] rfl)
set_option maxHeartbeats 4000000 in
set_option maxRecDepth 100000 in
theorem w_run (l : Launch) (D : va_G) (K : Nat → ClassId) (g : Nat → Nat) (L : Nat → Prop) (a0 : Nat) (c0 : Nat) (x : Int32) (w0 : Nat) (a1 : Nat) (br : Int32) (fs : Nat → Int32) (nw : Nat) (fw : Nat → Int32) (nc : Nat) (fc : Nat → Int32) (sz : Nat) (zst : x.toInt ≤ 1000000) (znc : nc < 1000000) (znw : nw < 1000000) (zfc : Rg nc 0 1000 fc) : Met l yX3_run wsX3_run ({ frames := 1, cells := 0, slots := 0, locals := 27 }) (va_Pc [.ref a0, .ref c0, .int x, .ref w0] (PreY D K [(a0, .inr (3, [.ref a1, .int br])), (a1, .inl (K 0, 64, .inl fs)), (w0, .inl (K 0, nw, .inl fw))] [(c0, .inl (K 0, nc, .inl fc))] sz g L (va_A [(a0, .inr (3, [.ref a1, .int br])), (a1, .inl (K 0, 64, .inl fs)), (w0, .inl (K 0, nw, .inl fw))] sz))) (va_Qi (S := Su) (fun (r : Int32) (u : Su) => (0 ≤ (u.2.2.2.1 0).toInt ∧ (u.2.2.2.1 0).toInt ≤ 1) ∧ True) (fun u t => Wd D (va_A [(a0, .inr (3, [.ref a1, .int br])), (a1, .inl (K 0, 64, .inl fs)), (w0, .inl (K 0, nw, .inl fw))] sz) ((fun u => [(a0, .inr (3, [.ref a1, .int (u.2.2.2.1 0)])), (a1, .inl (K 0, 64, .inl (u.2.1 0))), (w0, .inl (K 0, nw, .inl fw))]) u) t) (va_A [(a0, .inr (3, [.ref a1, .int br])), (a1, .inl (K 0, 64, .inl fs)), (w0, .inl (K 0, nw, .inl fw))] sz)) 0 0 (va_A [(a0, .inr (3, [.ref a1, .int br])), (a1, .inl (K 0, 64, .inl fs)), (w0, .inl (K 0, nw, .inl fw))] sz) := by
  refine Met.ofW (cc := cX3_run) (maxL := 10) (ret := (some .int)) (by decide) rfl ?_
  intro p e s m args below meth c s₁ B hml hv
  obtain ⟨rfl, ⟨hsz, hP, hK, hD0, hN⟩, hG, hPl, hRo⟩ := hv
  have hx := B.exec
  have hb := B.bytes
  have hr := B.returns
  have hts := atoms_spec (ws := wsX3_run) B.pre
  have hown : s.vm.findClass RX3 = some m.cls := findClass_of_methodNamed B.named
  have hlocks := B.notSynchronized
  subst hsz
  have hD := hD0.self (sz := s.heap.size)
  generalize hAe : va_A [(a0, .inr (3, [.ref a1, .int br])), (a1, .inl (K 0, 64, .inl fs)), (w0, .inl (K 0, nw, .inl fw))] s.heap.size = A at hD hG hPl hRo ⊢
  have hA : ∀ q : Nat, s.heap.size ≤ q → A q := fun q h => by rw [← hAe]; exact Or.inr h
  have hS : va_S A s.heap s.heap [] := va_S.rf
  have hP : va_P D vwCl [(a0, .inr (3, [.ref a1, .int br])), (a1, .inl (K 0, 64, .inl fs)), (w0, .inl (K 0, nw, .inl fw))] s.heap := hP
  have hl := lv_entry [.ref a0, .ref c0, .int x, .ref w0] (n := 10) (Nat.le_of_ble_eq_true rfl)
  rw [lg_entry_eq]
  generalize (lg_sl [.ref a0, .ref c0, .int x, .ref w0] ++ List.replicate (10 - (lg_sl [.ref a0, .ref c0, .int x, .ref w0]).length) Slot.unset).toArray = ls at hl ⊢
  have hl : lv_has ls 10 [(0, .ref a0), (1, .ref c0), (2, .int x), (3, .ref w0)] := hl
  have hw3 : ∀ w ∈ wsX30, w ∈ wsX3_run := fun w h => (List.mem_cons_of_mem _ (List.mem_append_right _ h))
  generalize hQ : MQ below _ _ s _ _ _ = Q
  refine lv_aload_n hx hb dX3_run_0 rfl (lv_at hl 0 rfl) ?_
  refine lv_iload_n hx hb dX3_run_1 rfl (lv_at hl 2 rfl) ?_
  refine lv_if_ge (tgt := 9) hx hb dX3_run_2 (by decide) (fun c_4661 => ?_) (fun c_4661 => ?_)
  · have c_4661i := i_le (x := 0) (y := x.toInt) rfl rfl c_4661
    refine lv_iconst (v := 0) hx hb dX3_run_9 (by decide) ?_
    refine va_put (ci := 3) (v := .int 0) (ty := .boolean) (C := RX3) (T := TX3) (N := 2) hx hb hts hw3 tyX3 tyX3_ok nmX3 hown hK hP hD hS 0 rfl rfl 1 (by decide) (hts (.fieldLink RX3 13 "SmokeTune$Machine" "broken" "Z") (List.mem_cons_of_mem _ (List.mem_append_left _ (List.mem_of_getElem? (i := 0) rfl)))) (fun _ h9 => h9) rfl (by decide +kernel) (by first | rfl | decide) (by first | rfl | decide) (Nat.le_of_ble_eq_true rfl) dX3_run_10 (fun H locs hP hD hS => ?_)
    have hP : va_P D vwCl [(a0, .inr (3, [.ref a1, .int 0])), (a1, .inl (K 0, 64, .inl fs)), (w0, .inl (K 0, nw, .inl fw))] H := hP
    have hD : va_D A [(a0, .inr (3, [.ref a1, .int 0])), (a1, .inl (K 0, 64, .inl fs)), (w0, .inl (K 0, nw, .inl fw))] := hD
    refine lv_iconst (v := 0) hx hb dX3_run_13 (by decide) ?_
    refine lv_istore (lv' := [(4, .int 0), (0, .ref a0), (1, .ref c0), (2, .int x), (3, .ref w0)]) hx hb dX3_run_14 hl (by decide) rfl (fun ls hl => ?_)
    refine lv_iload_n hx hb dX3_run_16 rfl (lv_at hl 3 rfl) ?_
    refine lv_istore (lv' := [(5, .int x), (4, .int 0), (0, .ref a0), (1, .ref c0), (2, .int x), (3, .ref w0)]) hx hb dX3_run_17 hl (by decide) rfl (fun ls hl => ?_)
    refine lv_iload_n hx hb dX3_run_19 rfl (lv_at hl 4 rfl) ?_
    refine lv_istore (lv' := [(6, .int x), (5, .int x), (4, .int 0), (0, .ref a0), (1, .ref c0), (2, .int x), (3, .ref w0)]) hx hb dX3_run_20 hl (by decide) rfl (fun ls hl => ?_)
    have lp_6512 : ∀ (nn_ : Nat) (v_5614 : Int32) (v_5615 : Int32) (v_5616 : Int32) (f_5617 : Nat → Int32) (hv_5614 : 0 ≤ v_5614.toInt ∧ v_5614.toInt ≤ 1000000) (hv_5615 : 0 ≤ v_5615.toInt ∧ v_5615.toInt ≤ 64) (hv_5616 : 0 ≤ v_5616.toInt ∧ v_5616.toInt ≤ 1) (hn : (((nc : Nat) : Int) - v_5614.toInt : Int).toNat < nn_) (H : Heap) (locs : List Loc) (hP : va_P D vwCl [(a0, .inr (3, [.ref a1, .int v_5616])), (a1, .inl (K 0, 64, .inl f_5617)), (w0, .inl (K 0, nw, .inl fw))] H) (hD : va_D A [(a0, .inr (3, [.ref a1, .int v_5616])), (a1, .inl (K 0, 64, .inl f_5617)), (w0, .inl (K 0, nw, .inl fw))]) (hS : va_S A s.heap H locs) (ls : Array Slot) (hl : lv_has ls 10 [(6, .int v_5614), (4, .int v_5615), (0, .ref a0), (1, .ref c0), (3, .ref w0)]), W p l e ({ frames := 1, cells := 0, slots := 0, locals := 27 }) s m (([.ref a0, .ref c0, .int x, .ref w0] : List Value).toArray) below meth c H locs 0 0 Q (F0 m 22 ls []) := by
      intro nn_
      induction nn_ with
      | zero =>
        intro v_5614 v_5615 v_5616 f_5617 hv_5614 hv_5615 hv_5616 hn H locs hP hD hS ls hl
        exact absurd hn (Nat.not_lt_zero _)
      | succ nn_ ih_6513 =>
        intro v_5614 v_5615 v_5616 f_5617 hv_5614 hv_5615 hv_5616 hn H locs hP hD hS ls hl
        refine lv_aload_n hx hb dX3_run_22 rfl (lv_at hl 2 rfl) ?_
        refine va_get (ci := 3) (v := .int v_5616) (C := RX3) (T := TX3) (N := 2) hx hb hts hw3 hown hK hP 0 rfl rfl 1 (by decide) (hts (.fieldLink RX3 13 "SmokeTune$Machine" "broken" "Z") (List.mem_cons_of_mem _ (List.mem_append_left _ (List.mem_of_getElem? (i := 0) rfl)))) (fun _ h9 => h9) rfl dX3_run_23 ?_
        have j_6745 : ∀ (H : Heap) (locs : List Loc) (hP : va_P D vwCl [(a0, .inr (3, [.ref a1, .int v_5616])), (a1, .inl (K 0, 64, .inl f_5617)), (w0, .inl (K 0, nw, .inl fw))] H) (hD : va_D A [(a0, .inr (3, [.ref a1, .int v_5616])), (a1, .inl (K 0, 64, .inl f_5617)), (w0, .inl (K 0, nw, .inl fw))]) (hS : va_S A s.heap H locs) (ls : Array Slot) (hl : lv_has ls 10 [(6, .int v_5614), (4, .int v_5615), (0, .ref a0)]), W p l e ({ frames := 1, cells := 0, slots := 0, locals := 27 }) s m (([.ref a0, .ref c0, .int x, .ref w0] : List Value).toArray) below meth c H locs 0 0 Q (F0 m 336 ls []) := by
          intro H locs hP hD hS ls hl
          refine lv_aload_n hx hb dX3_run_336 rfl (lv_at hl 2 rfl) ?_
          refine va_get (ci := 3) (v := .int v_5616) (C := RX3) (T := TX3) (N := 2) hx hb hts hw3 hown hK hP 0 rfl rfl 1 (by decide) (hts (.fieldLink RX3 13 "SmokeTune$Machine" "broken" "Z") (List.mem_cons_of_mem _ (List.mem_append_left _ (List.mem_of_getElem? (i := 0) rfl)))) (fun _ h9 => h9) rfl dX3_run_337 ?_
          have j_6750 : ∀ (H : Heap) (locs : List Loc) (hP : va_P D vwCl [(a0, .inr (3, [.ref a1, .int v_5616])), (a1, .inl (K 0, 64, .inl f_5617)), (w0, .inl (K 0, nw, .inl fw))] H) (hD : va_D A [(a0, .inr (3, [.ref a1, .int v_5616])), (a1, .inl (K 0, 64, .inl f_5617)), (w0, .inl (K 0, nw, .inl fw))]) (hS : va_S A s.heap H locs) (ls : Array Slot) (hl : lv_has ls 10 [(6, .int v_5614)]), W p l e ({ frames := 1, cells := 0, slots := 0, locals := 27 }) s m (([.ref a0, .ref c0, .int x, .ref w0] : List Value).toArray) below meth c H locs 0 0 Q (F0 m 349 ls []) := by
            intro H locs hP hD hS ls hl
            refine lv_iconst (v := 0) hx hb dX3_run_349 (by decide) ?_
            refine lv_goto (tgt := 362) hx hb dX3_run_350 (by decide) ?_
            rw [← hQ]
            have hP9 := hP.sub (ws' := [(a0, .inr (3, [.ref a1, .int v_5616])), (a1, .inl (K 0, 64, .inl f_5617)), (w0, .inl (K 0, nw, .inl fw))]) [0, 1, 2] rfl
            have hD9 := hD.sub (ws' := [(a0, .inr (3, [.ref a1, .int v_5616])), (a1, .inl (K 0, 64, .inl f_5617)), (w0, .inl (K 0, nw, .inl fw))]) [0, 1, 2] (by decide) rfl
            exact W.iret (v := 0) hx hb hr (fun t ht hW => ⟨⟨0, ((fun _ => 0, fun i => match i with | _ => f_5617, fun _ => fun _ => 0, fun i => match i with | _ => v_5616, fun _ => 0, fun _ => fun _ => none) : Su), rfl, ⟨(show 0 ≤ (v_5616 : Int32).toInt ∧ (v_5616 : Int32).toInt ≤ 1 by omega), trivial⟩, (⟨by rw [ht]; exact hP9, hD9⟩ : Wd D A _ t)⟩, hS.F ht⟩) hS.2.2 dX3_run_362
          refine lv_if_ne (tgt := 349) hx hb dX3_run_340 (by decide) (fun c_6751 => ?_) (fun c_6751 => ?_)
          · have c_6751i := i_ne (x := v_5616.toInt) (y := 0) rfl rfl c_6751
            exact j_6750   _ _ hP hD hS ls (lv_sub hl [0] rfl)
          · have c_6751i := i_eq (x := v_5616.toInt) (y := 0) rfl rfl c_6751
            refine lv_iload hx hb dX3_run_343 (lv_at hl 1 rfl) ?_
            refine lv_iconst (v := 1) hx hb dX3_run_345 (by decide) ?_
            refine lv_icmp_ge (tgt := 353) hx hb dX3_run_346 (by decide) (fun c_6752 => ?_) (fun c_6752 => ?_)
            · have c_6752i := i_le (x := 1) (y := v_5615.toInt) rfl rfl c_6752
              refine lv_aload_n hx hb dX3_run_353 rfl (lv_at hl 2 rfl) ?_
              refine va_get (ci := 3) (v := .ref a1) (C := RX3) (T := TX3) (N := 2) hx hb hts hw3 hown hK hP 0 rfl rfl 0 (by decide) (hts (.fieldLink RX3 7 "SmokeTune$Machine" "stack" "[I") (List.mem_cons_of_mem _ (List.mem_append_left _ (List.mem_of_getElem? (i := 1) rfl)))) (fun _ h9 => h9) rfl dX3_run_354 ?_
              refine lv_iload hx hb dX3_run_357 (lv_at hl 1 rfl) ?_
              refine lv_iconst (v := 1) hx hb dX3_run_359 (by decide) ?_
              refine lv_isub hx hb dX3_run_360 ?_
              refine lv_topi (fun x_6753 ex_6753 => ?_)
              have hx_6753 : x_6753.toInt = (v_5615.toInt - 1) := by rw [ex_6753]; exact i_sub rfl (show (1 : Int32).toInt = 1 from rfl) (by omega)
              refine va_iald hx hb hK hP 1 0 rfl rfl (i_in hx_6753 (by omega)) dX3_run_361 ?_
              refine lv_topi (fun x_6754 ex_6754 => ?_)
              rw [← hQ]
              have hP9 := hP.sub (ws' := [(a0, .inr (3, [.ref a1, .int v_5616])), (a1, .inl (K 0, 64, .inl f_5617)), (w0, .inl (K 0, nw, .inl fw))]) [0, 1, 2] rfl
              have hD9 := hD.sub (ws' := [(a0, .inr (3, [.ref a1, .int v_5616])), (a1, .inl (K 0, 64, .inl f_5617)), (w0, .inl (K 0, nw, .inl fw))]) [0, 1, 2] (by decide) rfl
              exact W.iret (v := x_6754) hx hb hr (fun t ht hW => ⟨⟨x_6754, ((fun _ => 0, fun i => match i with | _ => f_5617, fun _ => fun _ => 0, fun i => match i with | _ => v_5616, fun _ => 0, fun _ => fun _ => none) : Su), rfl, ⟨(show 0 ≤ (v_5616 : Int32).toInt ∧ (v_5616 : Int32).toInt ≤ 1 by omega), trivial⟩, (⟨by rw [ht]; exact hP9, hD9⟩ : Wd D A _ t)⟩, hS.F ht⟩) hS.2.2 dX3_run_362
            · have c_6752i := i_nle (x := 1) (y := v_5615.toInt) rfl rfl c_6752
              exact j_6750   _ _ hP hD hS ls (lv_sub hl [0] rfl)
        refine lv_if_ne (tgt := 336) hx hb dX3_run_26 (by decide) (fun c_6755 => ?_) (fun c_6755 => ?_)
        · have c_6755i := i_ne (x := v_5616.toInt) (y := 0) rfl rfl c_6755
          exact j_6745   _ _ hP hD hS ls (lv_sub hl [0, 1, 2] rfl)
        · have c_6755i := i_eq (x := v_5616.toInt) (y := 0) rfl rfl c_6755
          refine lv_iload hx hb dX3_run_29 (lv_at hl 0 rfl) ?_
          refine lv_if_lt (tgt := 336) hx hb dX3_run_31 (by decide) (fun c_6756 => ?_) (fun c_6756 => ?_)
          · have c_6756i := i_lt (x := v_5614.toInt) (y := 0) rfl rfl c_6756
            exfalso; omega
          · have c_6756i := i_nlt (x := v_5614.toInt) (y := 0) rfl rfl c_6756
            refine lv_iload hx hb dX3_run_34 (lv_at hl 0 rfl) ?_
            refine lv_iconst (v := 1) hx hb dX3_run_36 (by decide) ?_
            refine lv_iadd hx hb dX3_run_37 ?_
            refine lv_topi (fun x_6757 ex_6757 => ?_)
            have hx_6757 : x_6757.toInt = (v_5614.toInt + 1) := by rw [ex_6757]; exact i_add rfl (show (1 : Int32).toInt = 1 from rfl) (by omega)
            refine lv_aload_n hx hb dX3_run_38 rfl (lv_at hl 3 rfl) ?_
            refine va_alen (v := (nI nc)) hx hb hK (Ro.at hRo hS) 0 0 rfl rfl rfl dX3_run_39 ?_
            refine lv_icmp_ge (tgt := 336) hx hb dX3_run_40 (by decide) (fun c_6758 => ?_) (fun c_6758 => ?_)
            · have c_6758i := i_le (x := ((nc : Nat) : Int)) (y := (v_5614.toInt + 1)) (nI_toInt (by omega)) hx_6757 c_6758
              exact j_6745   _ _ hP hD hS ls (lv_sub hl [0, 1, 2] rfl)
            · have c_6758i := i_nle (x := ((nc : Nat) : Int)) (y := (v_5614.toInt + 1)) (nI_toInt (by omega)) hx_6757 c_6758
              refine lv_aload_n hx hb dX3_run_43 rfl (lv_at hl 3 rfl) ?_
              refine lv_iload hx hb dX3_run_44 (lv_at hl 0 rfl) ?_
              refine va_iald hx hb hK (Ro.at hRo hS) 0 0 rfl rfl (i_in rfl (by omega)) dX3_run_46 ?_
              refine lv_topi (fun x_6759 ex_6759 => ?_)
              have hx_6759 := Rg.at zfc rfl (show 0 ≤ v_5614.toInt ∧ v_5614.toInt < _ by omega)
              rw [← ex_6759] at hx_6759
              refine lv_istore (lv' := [(7, .int x_6759), (6, .int v_5614), (4, .int v_5615), (0, .ref a0), (1, .ref c0), (3, .ref w0)]) hx hb dX3_run_47 hl (by decide) rfl (fun ls hl => ?_)
              refine lv_aload_n hx hb dX3_run_49 rfl (lv_at hl 4 rfl) ?_
              refine lv_iload hx hb dX3_run_50 (lv_at hl 1 rfl) ?_
              refine lv_iconst (v := 1) hx hb dX3_run_52 (by decide) ?_
              refine lv_iadd hx hb dX3_run_53 ?_
              refine lv_topi (fun x_6760 ex_6760 => ?_)
              have hx_6760 : x_6760.toInt = (v_5614.toInt + 1) := by rw [ex_6760]; exact i_add rfl (show (1 : Int32).toInt = 1 from rfl) (by omega)
              refine va_iald hx hb hK (Ro.at hRo hS) 0 0 rfl rfl (i_in hx_6760 (by omega)) dX3_run_54 ?_
              refine lv_topi (fun x_6761 ex_6761 => ?_)
              have hx_6761 := Rg.at zfc hx_6760 (show 0 ≤ (v_5614.toInt + 1) ∧ (v_5614.toInt + 1) < _ by omega)
              rw [← ex_6761] at hx_6761
              refine lv_istore (lv' := [(8, .int x_6761), (7, .int x_6759), (6, .int v_5614), (4, .int v_5615), (0, .ref a0), (1, .ref c0), (3, .ref w0)]) hx hb dX3_run_55 hl (by decide) rfl (fun ls hl => ?_)
              refine lv_iload hx hb dX3_run_57 (lv_at hl 2 rfl) ?_
              refine lv_iconst (v := 2) hx hb dX3_run_59 (by decide) ?_
              refine lv_iadd hx hb dX3_run_60 ?_
              refine lv_topi (fun x_6762 ex_6762 => ?_)
              have hx_6762 : x_6762.toInt = (v_5614.toInt + 2) := by rw [ex_6762]; exact i_add rfl (show (2 : Int32).toInt = 2 from rfl) (by omega)
              refine lv_istore (lv' := [(5, .int x_6762), (8, .int x_6761), (7, .int x_6759), (6, .int v_5614), (4, .int v_5615), (0, .ref a0), (1, .ref c0), (3, .ref w0)]) hx hb dX3_run_61 hl (by decide) rfl (fun ls hl => ?_)
              refine lv_iload hx hb dX3_run_63 (lv_at hl 2 rfl) ?_
              refine lv_if_ne (tgt := 71) hx hb dX3_run_65 (by decide) (fun c_6763 => ?_) (fun c_6763 => ?_)
              · have c_6763i := i_ne (x := x_6759.toInt) (y := 0) rfl rfl c_6763
                refine lv_iload hx hb dX3_run_71 (lv_at hl 2 rfl) ?_
                refine lv_iconst (v := 1) hx hb dX3_run_73 (by decide) ?_
                have j_6866 : ∀ (v_6862 : Int32) (v_6863 : Int32) (v_6864 : Int32) (f_6865 : Nat → Int32) (hv_6862 : 0 ≤ v_6862.toInt ∧ v_6862.toInt ≤ 64) (hv_6863 : 2 ≤ v_6863.toInt ∧ v_6863.toInt ≤ 999999) (hv_6864 : 0 ≤ v_6864.toInt ∧ v_6864.toInt ≤ 1) (hr0_j_6866 : v_5614.toInt < v_6863.toInt) (H : Heap) (locs : List Loc) (hP : va_P D vwCl [(a1, .inl (K 0, 64, .inl f_6865)), (w0, .inl (K 0, nw, .inl fw)), (a0, .inr (3, [.ref a1, .int v_6864]))] H) (hD : va_D A [(a1, .inl (K 0, 64, .inl f_6865)), (w0, .inl (K 0, nw, .inl fw)), (a0, .inr (3, [.ref a1, .int v_6864]))]) (hS : va_S A s.heap H locs) (ls : Array Slot) (hl : lv_has ls 10 [(4, .int v_6862), (5, .int v_6863), (6, .int v_5614), (0, .ref a0), (1, .ref c0), (3, .ref w0)]), W p l e ({ frames := 1, cells := 0, slots := 0, locals := 27 }) s m (([.ref a0, .ref c0, .int x, .ref w0] : List Value).toArray) below meth c H locs 0 0 Q (F0 m 329 ls []) := by
                  intro v_6862 v_6863 v_6864 f_6865 hv_6862 hv_6863 hv_6864 hr0_j_6866 H locs hP hD hS ls hl
                  refine lv_iload hx hb dX3_run_329 (lv_at hl 1 rfl) ?_
                  refine lv_istore (lv' := [(6, .int v_6863), (4, .int v_6862), (5, .int v_6863), (0, .ref a0), (1, .ref c0), (3, .ref w0)]) hx hb dX3_run_331 hl (by decide) rfl (fun ls hl => ?_)
                  refine lv_goto (tgt := 22) hx hb dX3_run_333 (by decide) ?_
                  exact ih_6513 v_6863 v_6862 v_6864 f_6865 (by omega) (by omega) (by omega) (by omega) _ _ (hP.sub [2, 0, 1] rfl) (hD.sub [2, 0, 1] (by decide) rfl) hS ls (lv_sub hl [0, 1, 3, 4, 5] rfl)
                have j_6867 : ∀ (hk0_j_6867 : x_6759.toInt ≤ 2) (H : Heap) (locs : List Loc) (hP : va_P D vwCl [(a0, .inr (3, [.ref a1, .int v_5616])), (a1, .inl (K 0, 64, .inl f_5617)), (w0, .inl (K 0, nw, .inl fw))] H) (hD : va_D A [(a0, .inr (3, [.ref a1, .int v_5616])), (a1, .inl (K 0, 64, .inl f_5617)), (w0, .inl (K 0, nw, .inl fw))]) (hS : va_S A s.heap H locs) (ls : Array Slot) (hl : lv_has ls 10 [(5, .int x_6762), (8, .int x_6761), (7, .int x_6759), (6, .int v_5614), (4, .int v_5615), (0, .ref a0), (1, .ref c0), (3, .ref w0)]), W p l e ({ frames := 1, cells := 0, slots := 0, locals := 27 }) s m (([.ref a0, .ref c0, .int x, .ref w0] : List Value).toArray) below meth c H locs 0 0 Q (F0 m 83 ls []) := by
                  intro hk0_j_6867 H locs hP hD hS ls hl
                  refine lv_iload hx hb dX3_run_83 (lv_at hl 2 rfl) ?_
                  refine lv_iconst (v := 1) hx hb dX3_run_85 (by decide) ?_
                  refine lv_icmp_eq (tgt := 101) hx hb dX3_run_86 (by decide) (fun c_6868 => ?_) (fun c_6868 => ?_)
                  · have c_6868i := i_eq (x := x_6759.toInt) (y := 1) rfl rfl c_6868
                    refine lv_iconst (v := 1) hx hb dX3_run_101 (by decide) ?_
                    refine lv_goto (tgt := 106) hx hb dX3_run_102 (by decide) ?_
                    refine lv_istore (lv' := [(9, .int 1), (5, .int x_6762), (8, .int x_6761), (7, .int x_6759), (6, .int v_5614), (4, .int v_5615), (0, .ref a0), (1, .ref c0), (3, .ref w0)]) hx hb dX3_run_106 hl (by decide) rfl (fun ls hl => ?_)
                    refine lv_aload_n hx hb dX3_run_108 rfl (lv_at hl 6 rfl) ?_
                    refine lv_iload hx hb dX3_run_109 (lv_at hl 0 rfl) ?_
                    refine lv_if_eq (tgt := 124) hx hb dX3_run_111 (by decide) (fun c_6869 => absurd c_6869 (by decide)) (fun c_6869 => ?_)
                    refine lv_iload hx hb dX3_run_114 (lv_at hl 5 rfl) ?_
                    refine lv_aload_n hx hb dX3_run_116 rfl (lv_at hl 6 rfl) ?_
                    refine va_get (ci := 3) (v := .ref a1) (C := RX3) (T := TX3) (N := 2) hx hb hts hw3 hown hK hP 0 rfl rfl 0 (by decide) (hts (.fieldLink RX3 7 "SmokeTune$Machine" "stack" "[I") (List.mem_cons_of_mem _ (List.mem_append_left _ (List.mem_of_getElem? (i := 1) rfl)))) (fun _ h9 => h9) rfl dX3_run_117 ?_
                    refine va_alen (v := 64) hx hb hK hP 1 0 rfl rfl rfl dX3_run_120 ?_
                    refine lv_icmp_lt (tgt := 128) hx hb dX3_run_121 (by decide) (fun c_6870 => ?_) (fun c_6870 => ?_)
                    · have c_6870i := i_lt (x := v_5615.toInt) (y := 64) rfl rfl c_6870
                      refine lv_iconst (v := 0) hx hb dX3_run_128 (by decide) ?_
                      refine va_put (ci := 3) (v := .int 0) (ty := .boolean) (C := RX3) (T := TX3) (N := 2) hx hb hts hw3 tyX3 tyX3_ok nmX3 hown hK hP hD hS 0 rfl rfl 1 (by decide) (hts (.fieldLink RX3 13 "SmokeTune$Machine" "broken" "Z") (List.mem_cons_of_mem _ (List.mem_append_left _ (List.mem_of_getElem? (i := 0) rfl)))) (fun _ h9 => h9) rfl (by decide +kernel) (by first | rfl | decide) (by first | rfl | decide) (Nat.le_of_ble_eq_true rfl) dX3_run_129 (fun H locs hP hD hS => ?_)
                      have hP : va_P D vwCl [(a0, .inr (3, [.ref a1, .int 0])), (a1, .inl (K 0, 64, .inl f_5617)), (w0, .inl (K 0, nw, .inl fw))] H := hP
                      have hD : va_D A [(a0, .inr (3, [.ref a1, .int 0])), (a1, .inl (K 0, 64, .inl f_5617)), (w0, .inl (K 0, nw, .inl fw))] := hD
                      refine lv_aload_n hx hb dX3_run_132 rfl (lv_at hl 6 rfl) ?_
                      refine va_get (ci := 3) (v := .int 0) (C := RX3) (T := TX3) (N := 2) hx hb hts hw3 hown hK hP 0 rfl rfl 1 (by decide) (hts (.fieldLink RX3 13 "SmokeTune$Machine" "broken" "Z") (List.mem_cons_of_mem _ (List.mem_append_left _ (List.mem_of_getElem? (i := 0) rfl)))) (fun _ h9 => h9) rfl dX3_run_133 ?_
                      refine lv_if_ne (tgt := 164) hx hb dX3_run_136 (by decide) (fun c_6871 => absurd (by decide) c_6871) (fun c_6871 => ?_)
                      refine lv_aload_n hx hb dX3_run_139 rfl (lv_at hl 6 rfl) ?_
                      refine va_get (ci := 3) (v := .ref a1) (C := RX3) (T := TX3) (N := 2) hx hb hts hw3 hown hK hP 0 rfl rfl 0 (by decide) (hts (.fieldLink RX3 7 "SmokeTune$Machine" "stack" "[I") (List.mem_cons_of_mem _ (List.mem_append_left _ (List.mem_of_getElem? (i := 1) rfl)))) (fun _ h9 => h9) rfl dX3_run_140 ?_
                      refine lv_iload hx hb dX3_run_143 (lv_at hl 5 rfl) ?_
                      refine lv_iload hx hb dX3_run_145 (lv_at hl 3 rfl) ?_
                      refine lv_iconst (v := 1) hx hb dX3_run_147 (by decide) ?_
                      refine lv_icmp_ne (tgt := 156) hx hb dX3_run_148 (by decide) (fun c_6872 => ?_) (fun c_6872 => ?_)
                      · have c_6872i := i_ne (x := x_6759.toInt) (y := 1) rfl rfl c_6872
                        exfalso; omega
                      · have c_6872i := i_eq (x := x_6759.toInt) (y := 1) rfl rfl c_6872
                        refine lv_iload hx hb dX3_run_151 (lv_at hl 2 rfl) ?_
                        refine lv_goto (tgt := 160) hx hb dX3_run_153 (by decide) ?_
                        refine va_iast hx hb hK hP hD hS 1 0 rfl rfl (i_in rfl (by omega)) dX3_run_160 (fun H locs hP hD hS => ?_)
                        generalize hf_6873 : (upd f_5617 (v_5615 : Int32).toNatClampNeg x_6761) = f_6873 at hP hD
                        have hP : va_P D vwCl [(a0, .inr (3, [.ref a1, .int 0])), (a1, .inl (K 0, 64, .inl f_6873)), (w0, .inl (K 0, nw, .inl fw))] H := hP
                        have hD : va_D A [(a0, .inr (3, [.ref a1, .int 0])), (a1, .inl (K 0, 64, .inl f_6873)), (w0, .inl (K 0, nw, .inl fw))] := hD
                        obtain ⟨x_6874, ex_6874⟩ : ∃ y : Int32, y = v_5615 + Int32.ofInt 1 := ⟨_, rfl⟩
                        have hx_6874 : x_6874.toInt = (v_5615.toInt + 1) := by rw [ex_6874]; exact i_add rfl (show (Int32.ofInt 1).toInt = 1 from rfl) (by omega)
                        refine lv_iinc (v := x_6874) (lv' := [(4, .int x_6874), (9, .int 1), (5, .int x_6762), (8, .int x_6761), (7, .int x_6759), (6, .int v_5614), (0, .ref a0), (1, .ref c0), (3, .ref w0)]) hx hb dX3_run_161 hl (k := 5) rfl (by rw [ex_6874]) (by decide) rfl (fun ls hl => ?_)
                        refine lv_goto (tgt := 329) hx hb dX3_run_164 (by decide) ?_
                        have hz_6875 : (0 : Int32).toInt = 0 := rfl
                        exact j_6866 x_6874 x_6762 0 f_6873 (by rw [hx_6874]; omega) (by rw [hx_6762]; omega) (by decide) (show v_5614.toInt < (x_6762 : Int32).toInt by omega) _ _ (hP.sub [1, 2, 0] rfl) (hD.sub [1, 2, 0] (by decide) rfl) hS ls (lv_sub hl [0, 2, 5, 6, 7, 8] rfl)
                    · have c_6870i := i_nlt (x := v_5615.toInt) (y := 64) rfl rfl c_6870
                      refine lv_iconst (v := 1) hx hb dX3_run_124 (by decide) ?_
                      refine lv_goto (tgt := 129) hx hb dX3_run_125 (by decide) ?_
                      refine va_put (ci := 3) (v := .int 1) (ty := .boolean) (C := RX3) (T := TX3) (N := 2) hx hb hts hw3 tyX3 tyX3_ok nmX3 hown hK hP hD hS 0 rfl rfl 1 (by decide) (hts (.fieldLink RX3 13 "SmokeTune$Machine" "broken" "Z") (List.mem_cons_of_mem _ (List.mem_append_left _ (List.mem_of_getElem? (i := 0) rfl)))) (fun _ h9 => h9) rfl (by decide +kernel) (by first | rfl | decide) (by first | rfl | decide) (Nat.le_of_ble_eq_true rfl) dX3_run_129 (fun H locs hP hD hS => ?_)
                      have hP : va_P D vwCl [(a0, .inr (3, [.ref a1, .int 1])), (a1, .inl (K 0, 64, .inl f_5617)), (w0, .inl (K 0, nw, .inl fw))] H := hP
                      have hD : va_D A [(a0, .inr (3, [.ref a1, .int 1])), (a1, .inl (K 0, 64, .inl f_5617)), (w0, .inl (K 0, nw, .inl fw))] := hD
                      refine lv_aload_n hx hb dX3_run_132 rfl (lv_at hl 6 rfl) ?_
                      refine va_get (ci := 3) (v := .int 1) (C := RX3) (T := TX3) (N := 2) hx hb hts hw3 hown hK hP 0 rfl rfl 1 (by decide) (hts (.fieldLink RX3 13 "SmokeTune$Machine" "broken" "Z") (List.mem_cons_of_mem _ (List.mem_append_left _ (List.mem_of_getElem? (i := 0) rfl)))) (fun _ h9 => h9) rfl dX3_run_133 ?_
                      refine lv_if_ne (tgt := 164) hx hb dX3_run_136 (by decide) (fun c_6876 => ?_) (fun c_6876 => absurd c_6876 (by decide))
                      refine lv_goto (tgt := 329) hx hb dX3_run_164 (by decide) ?_
                      have hz_6877 : (1 : Int32).toInt = 1 := rfl
                      exact j_6866 v_5615 x_6762 1 f_5617 (by omega) (by rw [hx_6762]; omega) (by decide) (show v_5614.toInt < (x_6762 : Int32).toInt by omega) _ _ (hP.sub [1, 2, 0] rfl) (hD.sub [1, 2, 0] (by decide) rfl) hS ls (lv_sub hl [5, 1, 4, 6, 7, 8] rfl)
                  · have c_6868i := i_ne (x := x_6759.toInt) (y := 1) rfl rfl c_6868
                    refine lv_iload hx hb dX3_run_89 (lv_at hl 1 rfl) ?_
                    refine lv_if_lt (tgt := 105) hx hb dX3_run_91 (by decide) (fun c_6893 => ?_) (fun c_6893 => ?_)
                    · have c_6893i := i_lt (x := x_6761.toInt) (y := 0) rfl rfl c_6893
                      exfalso; omega
                    · have c_6893i := i_nlt (x := x_6761.toInt) (y := 0) rfl rfl c_6893
                      refine lv_iload hx hb dX3_run_94 (lv_at hl 1 rfl) ?_
                      refine lv_aload_n hx hb dX3_run_96 rfl (lv_at hl 7 rfl) ?_
                      refine va_alen (v := (nI nw)) hx hb hK hP 2 0 rfl rfl rfl dX3_run_97 ?_
                      refine lv_icmp_ge (tgt := 105) hx hb dX3_run_98 (by decide) (fun c_6894 => ?_) (fun c_6894 => ?_)
                      · have c_6894i := i_le (x := ((nw : Nat) : Int)) (y := x_6761.toInt) (nI_toInt (by omega)) rfl c_6894
                        refine lv_iconst (v := 0) hx hb dX3_run_105 (by decide) ?_
                        refine lv_istore (lv' := [(9, .int 0), (5, .int x_6762), (8, .int x_6761), (7, .int x_6759), (6, .int v_5614), (4, .int v_5615), (0, .ref a0), (1, .ref c0), (3, .ref w0)]) hx hb dX3_run_106 hl (by decide) rfl (fun ls hl => ?_)
                        refine lv_aload_n hx hb dX3_run_108 rfl (lv_at hl 6 rfl) ?_
                        refine lv_iload hx hb dX3_run_109 (lv_at hl 0 rfl) ?_
                        refine lv_if_eq (tgt := 124) hx hb dX3_run_111 (by decide) (fun c_6895 => ?_) (fun c_6895 => absurd (by decide) c_6895)
                        refine lv_iconst (v := 1) hx hb dX3_run_124 (by decide) ?_
                        refine lv_goto (tgt := 129) hx hb dX3_run_125 (by decide) ?_
                        refine va_put (ci := 3) (v := .int 1) (ty := .boolean) (C := RX3) (T := TX3) (N := 2) hx hb hts hw3 tyX3 tyX3_ok nmX3 hown hK hP hD hS 0 rfl rfl 1 (by decide) (hts (.fieldLink RX3 13 "SmokeTune$Machine" "broken" "Z") (List.mem_cons_of_mem _ (List.mem_append_left _ (List.mem_of_getElem? (i := 0) rfl)))) (fun _ h9 => h9) rfl (by decide +kernel) (by first | rfl | decide) (by first | rfl | decide) (Nat.le_of_ble_eq_true rfl) dX3_run_129 (fun H locs hP hD hS => ?_)
                        have hP : va_P D vwCl [(a0, .inr (3, [.ref a1, .int 1])), (a1, .inl (K 0, 64, .inl f_5617)), (w0, .inl (K 0, nw, .inl fw))] H := hP
                        have hD : va_D A [(a0, .inr (3, [.ref a1, .int 1])), (a1, .inl (K 0, 64, .inl f_5617)), (w0, .inl (K 0, nw, .inl fw))] := hD
                        refine lv_aload_n hx hb dX3_run_132 rfl (lv_at hl 6 rfl) ?_
                        refine va_get (ci := 3) (v := .int 1) (C := RX3) (T := TX3) (N := 2) hx hb hts hw3 hown hK hP 0 rfl rfl 1 (by decide) (hts (.fieldLink RX3 13 "SmokeTune$Machine" "broken" "Z") (List.mem_cons_of_mem _ (List.mem_append_left _ (List.mem_of_getElem? (i := 0) rfl)))) (fun _ h9 => h9) rfl dX3_run_133 ?_
                        refine lv_if_ne (tgt := 164) hx hb dX3_run_136 (by decide) (fun c_6896 => ?_) (fun c_6896 => absurd c_6896 (by decide))
                        refine lv_goto (tgt := 329) hx hb dX3_run_164 (by decide) ?_
                        have hz_6897 : (1 : Int32).toInt = 1 := rfl
                        exact j_6866 v_5615 x_6762 1 f_5617 (by omega) (by rw [hx_6762]; omega) (by decide) (show v_5614.toInt < (x_6762 : Int32).toInt by omega) _ _ (hP.sub [1, 2, 0] rfl) (hD.sub [1, 2, 0] (by decide) rfl) hS ls (lv_sub hl [5, 1, 4, 6, 7, 8] rfl)
                      · have c_6894i := i_nle (x := ((nw : Nat) : Int)) (y := x_6761.toInt) (nI_toInt (by omega)) rfl c_6894
                        refine lv_iconst (v := 1) hx hb dX3_run_101 (by decide) ?_
                        refine lv_goto (tgt := 106) hx hb dX3_run_102 (by decide) ?_
                        refine lv_istore (lv' := [(9, .int 1), (5, .int x_6762), (8, .int x_6761), (7, .int x_6759), (6, .int v_5614), (4, .int v_5615), (0, .ref a0), (1, .ref c0), (3, .ref w0)]) hx hb dX3_run_106 hl (by decide) rfl (fun ls hl => ?_)
                        refine lv_aload_n hx hb dX3_run_108 rfl (lv_at hl 6 rfl) ?_
                        refine lv_iload hx hb dX3_run_109 (lv_at hl 0 rfl) ?_
                        refine lv_if_eq (tgt := 124) hx hb dX3_run_111 (by decide) (fun c_6898 => absurd c_6898 (by decide)) (fun c_6898 => ?_)
                        refine lv_iload hx hb dX3_run_114 (lv_at hl 5 rfl) ?_
                        refine lv_aload_n hx hb dX3_run_116 rfl (lv_at hl 6 rfl) ?_
                        refine va_get (ci := 3) (v := .ref a1) (C := RX3) (T := TX3) (N := 2) hx hb hts hw3 hown hK hP 0 rfl rfl 0 (by decide) (hts (.fieldLink RX3 7 "SmokeTune$Machine" "stack" "[I") (List.mem_cons_of_mem _ (List.mem_append_left _ (List.mem_of_getElem? (i := 1) rfl)))) (fun _ h9 => h9) rfl dX3_run_117 ?_
                        refine va_alen (v := 64) hx hb hK hP 1 0 rfl rfl rfl dX3_run_120 ?_
                        refine lv_icmp_lt (tgt := 128) hx hb dX3_run_121 (by decide) (fun c_6899 => ?_) (fun c_6899 => ?_)
                        · have c_6899i := i_lt (x := v_5615.toInt) (y := 64) rfl rfl c_6899
                          refine lv_iconst (v := 0) hx hb dX3_run_128 (by decide) ?_
                          refine va_put (ci := 3) (v := .int 0) (ty := .boolean) (C := RX3) (T := TX3) (N := 2) hx hb hts hw3 tyX3 tyX3_ok nmX3 hown hK hP hD hS 0 rfl rfl 1 (by decide) (hts (.fieldLink RX3 13 "SmokeTune$Machine" "broken" "Z") (List.mem_cons_of_mem _ (List.mem_append_left _ (List.mem_of_getElem? (i := 0) rfl)))) (fun _ h9 => h9) rfl (by decide +kernel) (by first | rfl | decide) (by first | rfl | decide) (Nat.le_of_ble_eq_true rfl) dX3_run_129 (fun H locs hP hD hS => ?_)
                          have hP : va_P D vwCl [(a0, .inr (3, [.ref a1, .int 0])), (a1, .inl (K 0, 64, .inl f_5617)), (w0, .inl (K 0, nw, .inl fw))] H := hP
                          have hD : va_D A [(a0, .inr (3, [.ref a1, .int 0])), (a1, .inl (K 0, 64, .inl f_5617)), (w0, .inl (K 0, nw, .inl fw))] := hD
                          refine lv_aload_n hx hb dX3_run_132 rfl (lv_at hl 6 rfl) ?_
                          refine va_get (ci := 3) (v := .int 0) (C := RX3) (T := TX3) (N := 2) hx hb hts hw3 hown hK hP 0 rfl rfl 1 (by decide) (hts (.fieldLink RX3 13 "SmokeTune$Machine" "broken" "Z") (List.mem_cons_of_mem _ (List.mem_append_left _ (List.mem_of_getElem? (i := 0) rfl)))) (fun _ h9 => h9) rfl dX3_run_133 ?_
                          refine lv_if_ne (tgt := 164) hx hb dX3_run_136 (by decide) (fun c_6900 => absurd (by decide) c_6900) (fun c_6900 => ?_)
                          refine lv_aload_n hx hb dX3_run_139 rfl (lv_at hl 6 rfl) ?_
                          refine va_get (ci := 3) (v := .ref a1) (C := RX3) (T := TX3) (N := 2) hx hb hts hw3 hown hK hP 0 rfl rfl 0 (by decide) (hts (.fieldLink RX3 7 "SmokeTune$Machine" "stack" "[I") (List.mem_cons_of_mem _ (List.mem_append_left _ (List.mem_of_getElem? (i := 1) rfl)))) (fun _ h9 => h9) rfl dX3_run_140 ?_
                          refine lv_iload hx hb dX3_run_143 (lv_at hl 5 rfl) ?_
                          refine lv_iload hx hb dX3_run_145 (lv_at hl 3 rfl) ?_
                          refine lv_iconst (v := 1) hx hb dX3_run_147 (by decide) ?_
                          refine lv_icmp_ne (tgt := 156) hx hb dX3_run_148 (by decide) (fun c_6901 => ?_) (fun c_6901 => ?_)
                          · have c_6901i := i_ne (x := x_6759.toInt) (y := 1) rfl rfl c_6901
                            refine lv_aload_n hx hb dX3_run_156 rfl (lv_at hl 8 rfl) ?_
                            refine lv_iload hx hb dX3_run_157 (lv_at hl 2 rfl) ?_
                            refine va_iald hx hb hK hP 2 0 rfl rfl (i_in rfl (by omega)) dX3_run_159 ?_
                            refine lv_topi (fun x_6902 ex_6902 => ?_)
                            refine va_iast hx hb hK hP hD hS 1 0 rfl rfl (i_in rfl (by omega)) dX3_run_160 (fun H locs hP hD hS => ?_)
                            generalize hf_6903 : (upd f_5617 (v_5615 : Int32).toNatClampNeg x_6902) = f_6903 at hP hD
                            have hP : va_P D vwCl [(a0, .inr (3, [.ref a1, .int 0])), (a1, .inl (K 0, 64, .inl f_6903)), (w0, .inl (K 0, nw, .inl fw))] H := hP
                            have hD : va_D A [(a0, .inr (3, [.ref a1, .int 0])), (a1, .inl (K 0, 64, .inl f_6903)), (w0, .inl (K 0, nw, .inl fw))] := hD
                            obtain ⟨x_6904, ex_6904⟩ : ∃ y : Int32, y = v_5615 + Int32.ofInt 1 := ⟨_, rfl⟩
                            have hx_6904 : x_6904.toInt = (v_5615.toInt + 1) := by rw [ex_6904]; exact i_add rfl (show (Int32.ofInt 1).toInt = 1 from rfl) (by omega)
                            refine lv_iinc (v := x_6904) (lv' := [(4, .int x_6904), (9, .int 1), (5, .int x_6762), (8, .int x_6761), (7, .int x_6759), (6, .int v_5614), (0, .ref a0), (1, .ref c0), (3, .ref w0)]) hx hb dX3_run_161 hl (k := 5) rfl (by rw [ex_6904]) (by decide) rfl (fun ls hl => ?_)
                            refine lv_goto (tgt := 329) hx hb dX3_run_164 (by decide) ?_
                            have hz_6905 : (0 : Int32).toInt = 0 := rfl
                            exact j_6866 x_6904 x_6762 0 f_6903 (by rw [hx_6904]; omega) (by rw [hx_6762]; omega) (by decide) (show v_5614.toInt < (x_6762 : Int32).toInt by omega) _ _ (hP.sub [1, 2, 0] rfl) (hD.sub [1, 2, 0] (by decide) rfl) hS ls (lv_sub hl [0, 2, 5, 6, 7, 8] rfl)
                          · have c_6901i := i_eq (x := x_6759.toInt) (y := 1) rfl rfl c_6901
                            exfalso; omega
                        · have c_6899i := i_nlt (x := v_5615.toInt) (y := 64) rfl rfl c_6899
                          refine lv_iconst (v := 1) hx hb dX3_run_124 (by decide) ?_
                          refine lv_goto (tgt := 129) hx hb dX3_run_125 (by decide) ?_
                          refine va_put (ci := 3) (v := .int 1) (ty := .boolean) (C := RX3) (T := TX3) (N := 2) hx hb hts hw3 tyX3 tyX3_ok nmX3 hown hK hP hD hS 0 rfl rfl 1 (by decide) (hts (.fieldLink RX3 13 "SmokeTune$Machine" "broken" "Z") (List.mem_cons_of_mem _ (List.mem_append_left _ (List.mem_of_getElem? (i := 0) rfl)))) (fun _ h9 => h9) rfl (by decide +kernel) (by first | rfl | decide) (by first | rfl | decide) (Nat.le_of_ble_eq_true rfl) dX3_run_129 (fun H locs hP hD hS => ?_)
                          have hP : va_P D vwCl [(a0, .inr (3, [.ref a1, .int 1])), (a1, .inl (K 0, 64, .inl f_5617)), (w0, .inl (K 0, nw, .inl fw))] H := hP
                          have hD : va_D A [(a0, .inr (3, [.ref a1, .int 1])), (a1, .inl (K 0, 64, .inl f_5617)), (w0, .inl (K 0, nw, .inl fw))] := hD
                          refine lv_aload_n hx hb dX3_run_132 rfl (lv_at hl 6 rfl) ?_
                          refine va_get (ci := 3) (v := .int 1) (C := RX3) (T := TX3) (N := 2) hx hb hts hw3 hown hK hP 0 rfl rfl 1 (by decide) (hts (.fieldLink RX3 13 "SmokeTune$Machine" "broken" "Z") (List.mem_cons_of_mem _ (List.mem_append_left _ (List.mem_of_getElem? (i := 0) rfl)))) (fun _ h9 => h9) rfl dX3_run_133 ?_
                          refine lv_if_ne (tgt := 164) hx hb dX3_run_136 (by decide) (fun c_6906 => ?_) (fun c_6906 => absurd c_6906 (by decide))
                          refine lv_goto (tgt := 329) hx hb dX3_run_164 (by decide) ?_
                          have hz_6907 : (1 : Int32).toInt = 1 := rfl
                          exact j_6866 v_5615 x_6762 1 f_5617 (by omega) (by rw [hx_6762]; omega) (by decide) (show v_5614.toInt < (x_6762 : Int32).toInt by omega) _ _ (hP.sub [1, 2, 0] rfl) (hD.sub [1, 2, 0] (by decide) rfl) hS ls (lv_sub hl [5, 1, 4, 6, 7, 8] rfl)
                refine lv_icmp_eq (tgt := 83) hx hb dX3_run_74 (by decide) (fun c_6908 => ?_) (fun c_6908 => ?_)
                · have c_6908i := i_eq (x := x_6759.toInt) (y := 1) rfl rfl c_6908
                  exact j_6867  (by omega) _ _ hP hD hS ls (lv_sub hl [0, 1, 2, 3, 4, 5, 6, 7] rfl)
                · have c_6908i := i_ne (x := x_6759.toInt) (y := 1) rfl rfl c_6908
                  refine lv_iload hx hb dX3_run_77 (lv_at hl 2 rfl) ?_
                  refine lv_iconst (v := 2) hx hb dX3_run_79 (by decide) ?_
                  refine lv_icmp_ne (tgt := 167) hx hb dX3_run_80 (by decide) (fun c_6909 => ?_) (fun c_6909 => ?_)
                  · have c_6909i := i_ne (x := x_6759.toInt) (y := 2) rfl rfl c_6909
                    refine lv_iload hx hb dX3_run_167 (lv_at hl 4 rfl) ?_
                    refine lv_iconst (v := 1) hx hb dX3_run_169 (by decide) ?_
                    refine lv_icmp_ge (tgt := 181) hx hb dX3_run_170 (by decide) (fun c_6910 => ?_) (fun c_6910 => ?_)
                    · have c_6910i := i_le (x := 1) (y := v_5615.toInt) rfl rfl c_6910
                      refine lv_iload hx hb dX3_run_181 (lv_at hl 2 rfl) ?_
                      refine lv_bipush (v := 11) hx hb dX3_run_183 (by decide) ?_
                      refine lv_icmp_ne (tgt := 211) hx hb dX3_run_185 (by decide) (fun c_6911 => ?_) (fun c_6911 => ?_)
                      · have c_6911i := i_ne (x := x_6759.toInt) (y := 11) rfl rfl c_6911
                        refine lv_iload hx hb dX3_run_211 (lv_at hl 2 rfl) ?_
                        refine lv_bipush (v := 12) hx hb dX3_run_213 (by decide) ?_
                        have j_6941 : ∀ (hk0_j_6941 : 12 ≤ x_6759.toInt ∧ x_6759.toInt ≤ 13) (H : Heap) (locs : List Loc) (hP : va_P D vwCl [(a0, .inr (3, [.ref a1, .int v_5616])), (a1, .inl (K 0, 64, .inl f_5617)), (w0, .inl (K 0, nw, .inl fw))] H) (hD : va_D A [(a0, .inr (3, [.ref a1, .int v_5616])), (a1, .inl (K 0, 64, .inl f_5617)), (w0, .inl (K 0, nw, .inl fw))]) (hS : va_S A s.heap H locs) (ls : Array Slot) (hl : lv_has ls 10 [(5, .int x_6762), (8, .int x_6761), (7, .int x_6759), (6, .int v_5614), (4, .int v_5615), (0, .ref a0), (1, .ref c0), (3, .ref w0)]), W p l e ({ frames := 1, cells := 0, slots := 0, locals := 27 }) s m (([.ref a0, .ref c0, .int x, .ref w0] : List Value).toArray) below meth c H locs 0 0 Q (F0 m 225 ls []) := by
                          intro hk0_j_6941 H locs hP hD hS ls hl
                          refine lv_aload_n hx hb dX3_run_225 rfl (lv_at hl 5 rfl) ?_
                          refine va_get (ci := 3) (v := .ref a1) (C := RX3) (T := TX3) (N := 2) hx hb hts hw3 hown hK hP 0 rfl rfl 0 (by decide) (hts (.fieldLink RX3 7 "SmokeTune$Machine" "stack" "[I") (List.mem_cons_of_mem _ (List.mem_append_left _ (List.mem_of_getElem? (i := 1) rfl)))) (fun _ h9 => h9) rfl dX3_run_226 ?_
                          refine lv_iload hx hb dX3_run_229 (lv_at hl 4 rfl) ?_
                          refine lv_iconst (v := 1) hx hb dX3_run_231 (by decide) ?_
                          refine lv_isub hx hb dX3_run_232 ?_
                          refine lv_topi (fun x_6942 ex_6942 => ?_)
                          have hx_6942 : x_6942.toInt = (v_5615.toInt - 1) := by rw [ex_6942]; exact i_sub rfl (show (1 : Int32).toInt = 1 from rfl) (by omega)
                          refine va_iald hx hb hK hP 1 0 rfl rfl (i_in hx_6942 (by omega)) dX3_run_233 ?_
                          refine lv_topi (fun x_6943 ex_6943 => ?_)
                          refine lv_if_eq (tgt := 241) hx hb dX3_run_234 (by decide) (fun c_6944 => ?_) (fun c_6944 => ?_)
                          · have c_6944i := i_eq (x := x_6943.toInt) (y := 0) rfl rfl c_6944
                            refine lv_iconst (v := 0) hx hb dX3_run_241 (by decide) ?_
                            refine lv_istore (lv' := [(9, .int 0), (5, .int x_6762), (8, .int x_6761), (7, .int x_6759), (6, .int v_5614), (4, .int v_5615), (0, .ref a0), (1, .ref c0), (3, .ref w0)]) hx hb dX3_run_242 hl (by decide) rfl (fun ls hl => ?_)
                            refine lv_iload hx hb dX3_run_244 (lv_at hl 0 rfl) ?_
                            refine lv_iload hx hb dX3_run_246 (lv_at hl 3 rfl) ?_
                            refine lv_bipush (v := 12) hx hb dX3_run_248 (by decide) ?_
                            refine lv_icmp_ne (tgt := 257) hx hb dX3_run_250 (by decide) (fun c_6945 => ?_) (fun c_6945 => ?_)
                            · have c_6945i := i_ne (x := x_6759.toInt) (y := 12) rfl rfl c_6945
                              refine lv_iconst (v := 0) hx hb dX3_run_257 (by decide) ?_
                              refine lv_icmp_ne (tgt := 273) hx hb dX3_run_258 (by decide) (fun c_6946 => absurd (by decide) c_6946) (fun c_6946 => ?_)
                              refine lv_iload hx hb dX3_run_261 (lv_at hl 1 rfl) ?_
                              refine lv_iload hx hb dX3_run_263 (lv_at hl 2 rfl) ?_
                              refine va_mmax hx hb (hml.trans hl.1.symm) hown (hts (.methodLink RX3 19 Lib.Math.max.name) (List.mem_cons_of_mem _ (List.mem_append_left _ (List.mem_of_getElem? (i := 2) rfl)))) (hts (.static Lib.Math.max.name) (List.mem_cons_of_mem _ (List.mem_append_left _ (List.mem_of_getElem? (i := 3) rfl)))) (hts (.initialized "java/lang/Math") (List.mem_cons_of_mem _ (List.mem_append_left _ (List.mem_of_getElem? (i := 4) rfl)))) (hts (.code Lib.Math.max.name Lib.Math.max.code 2 (some .int)) (List.mem_cons_of_mem _ (List.mem_append_left _ (List.mem_of_getElem? (i := 5) rfl)))) (Nat.le_of_ble_eq_true rfl) (Nat.le_of_ble_eq_true rfl) (Nat.le_of_ble_eq_true rfl) (Nat.le_of_ble_eq_true rfl) dX3_run_265 ?_
                              refine lv_topi (fun x_6947 ex_6947 => ?_)
                              have hx_6947 : (x_6761.toInt ≤ (v_5614.toInt + 2) ∧ x_6947.toInt = (v_5614.toInt + 2)) ∨ ((v_5614.toInt + 2) < x_6761.toInt ∧ x_6947.toInt = x_6761.toInt) := by rw [ex_6947]; exact i_max hx_6762 rfl
                              replace hx_6947 : (v_5614.toInt + 2) ≤ x_6947.toInt ∧ x_6761.toInt ≤ x_6947.toInt ∧ 2 ≤ x_6947.toInt ∧ x_6947.toInt ≤ 999999 := by omega
                              refine lv_istore (lv' := [(5, .int x_6947), (9, .int 0), (8, .int x_6761), (7, .int x_6759), (6, .int v_5614), (4, .int v_5615), (0, .ref a0), (1, .ref c0), (3, .ref w0)]) hx hb dX3_run_268 hl (by decide) rfl (fun ls hl => ?_)
                              refine lv_goto (tgt := 276) hx hb dX3_run_270 (by decide) ?_
                              refine lv_goto (tgt := 329) hx hb dX3_run_276 (by decide) ?_
                              exact j_6866 v_5615 x_6947 v_5616 f_5617 (by omega) (by omega) (by omega) (show v_5614.toInt < (x_6947 : Int32).toInt by omega) _ _ (hP.sub [1, 2, 0] rfl) (hD.sub [1, 2, 0] (by decide) rfl) hS ls (lv_sub hl [5, 0, 4, 6, 7, 8] rfl)
                            · have c_6945i := i_eq (x := x_6759.toInt) (y := 12) rfl rfl c_6945
                              refine lv_iconst (v := 1) hx hb dX3_run_253 (by decide) ?_
                              refine lv_goto (tgt := 258) hx hb dX3_run_254 (by decide) ?_
                              refine lv_icmp_ne (tgt := 273) hx hb dX3_run_258 (by decide) (fun c_6948 => ?_) (fun c_6948 => absurd c_6948 (by decide))
                              obtain ⟨x_6949, ex_6949⟩ : ∃ y : Int32, y = v_5615 + Int32.ofInt (-1) := ⟨_, rfl⟩
                              have hx_6949 : x_6949.toInt = (v_5615.toInt + (-1)) := by rw [ex_6949]; exact i_add rfl (show (Int32.ofInt (-1)).toInt = (-1) from rfl) (by omega)
                              refine lv_iinc (v := x_6949) (lv' := [(4, .int x_6949), (9, .int 0), (5, .int x_6762), (8, .int x_6761), (7, .int x_6759), (6, .int v_5614), (0, .ref a0), (1, .ref c0), (3, .ref w0)]) hx hb dX3_run_273 hl (k := 5) rfl (by rw [ex_6949]) (by decide) rfl (fun ls hl => ?_)
                              refine lv_goto (tgt := 329) hx hb dX3_run_276 (by decide) ?_
                              exact j_6866 x_6949 x_6762 v_5616 f_5617 (by rw [hx_6949]; omega) (by rw [hx_6762]; omega) (by omega) (show v_5614.toInt < (x_6762 : Int32).toInt by omega) _ _ (hP.sub [1, 2, 0] rfl) (hD.sub [1, 2, 0] (by decide) rfl) hS ls (lv_sub hl [0, 2, 5, 6, 7, 8] rfl)
                          · have c_6944i := i_ne (x := x_6943.toInt) (y := 0) rfl rfl c_6944
                            refine lv_iconst (v := 1) hx hb dX3_run_237 (by decide) ?_
                            refine lv_goto (tgt := 242) hx hb dX3_run_238 (by decide) ?_
                            refine lv_istore (lv' := [(9, .int 1), (5, .int x_6762), (8, .int x_6761), (7, .int x_6759), (6, .int v_5614), (4, .int v_5615), (0, .ref a0), (1, .ref c0), (3, .ref w0)]) hx hb dX3_run_242 hl (by decide) rfl (fun ls hl => ?_)
                            refine lv_iload hx hb dX3_run_244 (lv_at hl 0 rfl) ?_
                            refine lv_iload hx hb dX3_run_246 (lv_at hl 3 rfl) ?_
                            refine lv_bipush (v := 12) hx hb dX3_run_248 (by decide) ?_
                            refine lv_icmp_ne (tgt := 257) hx hb dX3_run_250 (by decide) (fun c_6950 => ?_) (fun c_6950 => ?_)
                            · have c_6950i := i_ne (x := x_6759.toInt) (y := 12) rfl rfl c_6950
                              refine lv_iconst (v := 0) hx hb dX3_run_257 (by decide) ?_
                              refine lv_icmp_ne (tgt := 273) hx hb dX3_run_258 (by decide) (fun c_6951 => ?_) (fun c_6951 => absurd c_6951 (by decide))
                              obtain ⟨x_6952, ex_6952⟩ : ∃ y : Int32, y = v_5615 + Int32.ofInt (-1) := ⟨_, rfl⟩
                              have hx_6952 : x_6952.toInt = (v_5615.toInt + (-1)) := by rw [ex_6952]; exact i_add rfl (show (Int32.ofInt (-1)).toInt = (-1) from rfl) (by omega)
                              refine lv_iinc (v := x_6952) (lv' := [(4, .int x_6952), (9, .int 1), (5, .int x_6762), (8, .int x_6761), (7, .int x_6759), (6, .int v_5614), (0, .ref a0), (1, .ref c0), (3, .ref w0)]) hx hb dX3_run_273 hl (k := 5) rfl (by rw [ex_6952]) (by decide) rfl (fun ls hl => ?_)
                              refine lv_goto (tgt := 329) hx hb dX3_run_276 (by decide) ?_
                              exact j_6866 x_6952 x_6762 v_5616 f_5617 (by rw [hx_6952]; omega) (by rw [hx_6762]; omega) (by omega) (show v_5614.toInt < (x_6762 : Int32).toInt by omega) _ _ (hP.sub [1, 2, 0] rfl) (hD.sub [1, 2, 0] (by decide) rfl) hS ls (lv_sub hl [0, 2, 5, 6, 7, 8] rfl)
                            · have c_6950i := i_eq (x := x_6759.toInt) (y := 12) rfl rfl c_6950
                              refine lv_iconst (v := 1) hx hb dX3_run_253 (by decide) ?_
                              refine lv_goto (tgt := 258) hx hb dX3_run_254 (by decide) ?_
                              refine lv_icmp_ne (tgt := 273) hx hb dX3_run_258 (by decide) (fun c_6953 => absurd (by decide) c_6953) (fun c_6953 => ?_)
                              refine lv_iload hx hb dX3_run_261 (lv_at hl 1 rfl) ?_
                              refine lv_iload hx hb dX3_run_263 (lv_at hl 2 rfl) ?_
                              refine va_mmax hx hb (hml.trans hl.1.symm) hown (hts (.methodLink RX3 19 Lib.Math.max.name) (List.mem_cons_of_mem _ (List.mem_append_left _ (List.mem_of_getElem? (i := 2) rfl)))) (hts (.static Lib.Math.max.name) (List.mem_cons_of_mem _ (List.mem_append_left _ (List.mem_of_getElem? (i := 3) rfl)))) (hts (.initialized "java/lang/Math") (List.mem_cons_of_mem _ (List.mem_append_left _ (List.mem_of_getElem? (i := 4) rfl)))) (hts (.code Lib.Math.max.name Lib.Math.max.code 2 (some .int)) (List.mem_cons_of_mem _ (List.mem_append_left _ (List.mem_of_getElem? (i := 5) rfl)))) (Nat.le_of_ble_eq_true rfl) (Nat.le_of_ble_eq_true rfl) (Nat.le_of_ble_eq_true rfl) (Nat.le_of_ble_eq_true rfl) dX3_run_265 ?_
                              refine lv_topi (fun x_6954 ex_6954 => ?_)
                              have hx_6954 : (x_6761.toInt ≤ (v_5614.toInt + 2) ∧ x_6954.toInt = (v_5614.toInt + 2)) ∨ ((v_5614.toInt + 2) < x_6761.toInt ∧ x_6954.toInt = x_6761.toInt) := by rw [ex_6954]; exact i_max hx_6762 rfl
                              replace hx_6954 : (v_5614.toInt + 2) ≤ x_6954.toInt ∧ x_6761.toInt ≤ x_6954.toInt ∧ 2 ≤ x_6954.toInt ∧ x_6954.toInt ≤ 999999 := by omega
                              refine lv_istore (lv' := [(5, .int x_6954), (9, .int 1), (8, .int x_6761), (7, .int x_6759), (6, .int v_5614), (4, .int v_5615), (0, .ref a0), (1, .ref c0), (3, .ref w0)]) hx hb dX3_run_268 hl (by decide) rfl (fun ls hl => ?_)
                              refine lv_goto (tgt := 276) hx hb dX3_run_270 (by decide) ?_
                              refine lv_goto (tgt := 329) hx hb dX3_run_276 (by decide) ?_
                              exact j_6866 v_5615 x_6954 v_5616 f_5617 (by omega) (by omega) (by omega) (show v_5614.toInt < (x_6954 : Int32).toInt by omega) _ _ (hP.sub [1, 2, 0] rfl) (hD.sub [1, 2, 0] (by decide) rfl) hS ls (lv_sub hl [5, 0, 4, 6, 7, 8] rfl)
                        refine lv_icmp_eq (tgt := 225) hx hb dX3_run_215 (by decide) (fun c_6955 => ?_) (fun c_6955 => ?_)
                        · have c_6955i := i_eq (x := x_6759.toInt) (y := 12) rfl rfl c_6955
                          exact j_6941  (by omega) _ _ hP hD hS ls (lv_sub hl [0, 1, 2, 3, 4, 5, 6, 7] rfl)
                        · have c_6955i := i_ne (x := x_6759.toInt) (y := 12) rfl rfl c_6955
                          refine lv_iload hx hb dX3_run_218 (lv_at hl 2 rfl) ?_
                          refine lv_bipush (v := 13) hx hb dX3_run_220 (by decide) ?_
                          refine lv_icmp_ne (tgt := 279) hx hb dX3_run_222 (by decide) (fun c_6956 => ?_) (fun c_6956 => ?_)
                          · have c_6956i := i_ne (x := x_6759.toInt) (y := 13) rfl rfl c_6956
                            refine lv_iload hx hb dX3_run_279 (lv_at hl 4 rfl) ?_
                            refine lv_iconst (v := 2) hx hb dX3_run_281 (by decide) ?_
                            refine lv_icmp_ge (tgt := 293) hx hb dX3_run_282 (by decide) (fun c_6957 => ?_) (fun c_6957 => ?_)
                            · have c_6957i := i_le (x := 2) (y := v_5615.toInt) rfl rfl c_6957
                              obtain ⟨x_6958, ex_6958⟩ : ∃ y : Int32, y = v_5615 + Int32.ofInt (-1) := ⟨_, rfl⟩
                              have hx_6958 : x_6958.toInt = (v_5615.toInt + (-1)) := by rw [ex_6958]; exact i_add rfl (show (Int32.ofInt (-1)).toInt = (-1) from rfl) (by omega)
                              refine lv_iinc (v := x_6958) (lv' := [(4, .int x_6958), (5, .int x_6762), (8, .int x_6761), (7, .int x_6759), (6, .int v_5614), (0, .ref a0), (1, .ref c0), (3, .ref w0)]) hx hb dX3_run_293 hl (k := 4) rfl (by rw [ex_6958]) (by decide) rfl (fun ls hl => ?_)
                              refine lv_aload_n hx hb dX3_run_296 rfl (lv_at hl 5 rfl) ?_
                              refine va_get (ci := 3) (v := .ref a1) (C := RX3) (T := TX3) (N := 2) hx hb hts hw3 hown hK hP 0 rfl rfl 0 (by decide) (hts (.fieldLink RX3 7 "SmokeTune$Machine" "stack" "[I") (List.mem_cons_of_mem _ (List.mem_append_left _ (List.mem_of_getElem? (i := 1) rfl)))) (fun _ h9 => h9) rfl dX3_run_297 ?_
                              refine lv_iload hx hb dX3_run_300 (lv_at hl 0 rfl) ?_
                              refine lv_iconst (v := 1) hx hb dX3_run_302 (by decide) ?_
                              refine lv_isub hx hb dX3_run_303 ?_
                              refine lv_topi (fun x_6959 ex_6959 => ?_)
                              have hx_6959 : x_6959.toInt = ((v_5615.toInt + (-1)) - 1) := by rw [ex_6959]; exact i_sub hx_6958 (show (1 : Int32).toInt = 1 from rfl) (by omega)
                              refine lv_aload_n hx hb dX3_run_304 rfl (lv_at hl 5 rfl) ?_
                              refine lv_iload hx hb dX3_run_305 (lv_at hl 3 rfl) ?_
                              refine lv_aload_n hx hb dX3_run_307 rfl (lv_at hl 5 rfl) ?_
                              refine va_get (ci := 3) (v := .ref a1) (C := RX3) (T := TX3) (N := 2) hx hb hts hw3 hown hK hP 0 rfl rfl 0 (by decide) (hts (.fieldLink RX3 7 "SmokeTune$Machine" "stack" "[I") (List.mem_cons_of_mem _ (List.mem_append_left _ (List.mem_of_getElem? (i := 1) rfl)))) (fun _ h9 => h9) rfl dX3_run_308 ?_
                              refine lv_iload hx hb dX3_run_311 (lv_at hl 0 rfl) ?_
                              refine lv_iconst (v := 1) hx hb dX3_run_313 (by decide) ?_
                              refine lv_isub hx hb dX3_run_314 ?_
                              refine lv_topi (fun x_6960 ex_6960 => ?_)
                              have hx_6960 : x_6960.toInt = ((v_5615.toInt + (-1)) - 1) := by rw [ex_6960]; exact i_sub hx_6958 (show (1 : Int32).toInt = 1 from rfl) (by omega)
                              refine va_iald hx hb hK hP 1 0 rfl rfl (i_in hx_6960 (by omega)) dX3_run_315 ?_
                              refine lv_topi (fun x_6961 ex_6961 => ?_)
                              refine lv_i2l hx hb dX3_run_316 rfl ?_
                              refine lv_topl (fun x_6962 ex_6962 => ?_)
                              have hx_6962 : x_6962.toInt = x_6961.toInt := by rw [ex_6962]; exact i_wide rfl
                              have hbx_6962 := i_rng (a := x_6961) rfl
                              refine lv_aload_n hx hb dX3_run_317 rfl (lv_at hl 5 rfl) ?_
                              refine va_get (ci := 3) (v := .ref a1) (C := RX3) (T := TX3) (N := 2) hx hb hts hw3 hown hK hP 0 rfl rfl 0 (by decide) (hts (.fieldLink RX3 7 "SmokeTune$Machine" "stack" "[I") (List.mem_cons_of_mem _ (List.mem_append_left _ (List.mem_of_getElem? (i := 1) rfl)))) (fun _ h9 => h9) rfl dX3_run_318 ?_
                              refine lv_iload hx hb dX3_run_321 (lv_at hl 0 rfl) ?_
                              refine va_iald hx hb hK hP 1 0 rfl rfl (i_in hx_6958 (by omega)) dX3_run_323 ?_
                              refine lv_topi (fun x_6963 ex_6963 => ?_)
                              refine lv_i2l hx hb dX3_run_324 rfl ?_
                              refine lv_topl (fun x_6964 ex_6964 => ?_)
                              have hx_6964 : x_6964.toInt = x_6963.toInt := by rw [ex_6964]; exact i_wide rfl
                              have hbx_6964 := i_rng (a := x_6963) rfl
                              refine kci (S := Su) (wr := [(a1, .inl (K 0, 64, .inl f_5617)), (w0, .inl (K 0, nw, .inl fw))]) (va_runV (As := [.int x_6759, .long x_6962, .long x_6964]) (rest := [.int x_6959, .ref a1]) ⟨hx, hb, hml, hown, hts⟩ (w_combine l D K a0 x_6759 x_6962 x_6964 (.ref a1) v_5616 H.size (by first | omega | decide) (by first | omega | decide) (by first | omega | decide)) (cwV 3 hts gX3_run_X3_combine rfl rfl rfl (by decide +kernel) ⟨Nat.le_of_ble_eq_true rfl, Nat.le_of_ble_eq_true rfl⟩) (mkV hK hN (hP.sub [0] rfl) (hD.sub [0] (by decide) rfl) (ci := 3) (q0 := 0) rfl rfl) rfl rfl hl.1 rfl (lv_room (Nat.le_of_ble_eq_true rfl)) dX3_run_325 ⟨Nat.le_of_ble_eq_true rfl, Nat.le_of_ble_eq_true rfl⟩) hP hD hS hA [0] [1, 2] rfl rfl (by decide) (by decide) (fun r_6965 u_6966 H locs hw hP hD hS => ?_)
                              have hP : va_P D vwCl [(a1, .inl (K 0, 64, .inl f_5617)), (w0, .inl (K 0, nw, .inl fw)), (a0, .inr (3, [.ref a1, .int (u_6966.2.2.2.1 0)]))] H := hP
                              have hD : va_D A [(a1, .inl (K 0, 64, .inl f_5617)), (w0, .inl (K 0, nw, .inl fw)), (a0, .inr (3, [.ref a1, .int (u_6966.2.2.2.1 0)]))] := hD
                              obtain ⟨h_6968, k_6967, -⟩ := hw
                              refine va_iast hx hb hK hP hD hS 0 0 rfl rfl (i_in hx_6959 (by omega)) dX3_run_328 (fun H locs hP hD hS => ?_)
                              generalize hf_6969 : (upd f_5617 (x_6959 : Int32).toNatClampNeg r_6965) = f_6969 at hP hD
                              have hP : va_P D vwCl [(a1, .inl (K 0, 64, .inl f_6969)), (w0, .inl (K 0, nw, .inl fw)), (a0, .inr (3, [.ref a1, .int (u_6966.2.2.2.1 0)]))] H := hP
                              have hD : va_D A [(a1, .inl (K 0, 64, .inl f_6969)), (w0, .inl (K 0, nw, .inl fw)), (a0, .inr (3, [.ref a1, .int (u_6966.2.2.2.1 0)]))] := hD
                              exact j_6866 x_6958 x_6762 (u_6966.2.2.2.1 0) f_6969 (by rw [hx_6958]; omega) (by rw [hx_6762]; omega) (by omega) (show v_5614.toInt < (x_6762 : Int32).toInt by omega) _ _ hP hD hS ls (lv_sub hl [0, 1, 4, 5, 6, 7] rfl)
                            · have c_6957i := i_nle (x := 2) (y := v_5615.toInt) rfl rfl c_6957
                              refine lv_aload_n hx hb dX3_run_285 rfl (lv_at hl 5 rfl) ?_
                              refine lv_iconst (v := 1) hx hb dX3_run_286 (by decide) ?_
                              refine va_put (ci := 3) (v := .int 1) (ty := .boolean) (C := RX3) (T := TX3) (N := 2) hx hb hts hw3 tyX3 tyX3_ok nmX3 hown hK hP hD hS 0 rfl rfl 1 (by decide) (hts (.fieldLink RX3 13 "SmokeTune$Machine" "broken" "Z") (List.mem_cons_of_mem _ (List.mem_append_left _ (List.mem_of_getElem? (i := 0) rfl)))) (fun _ h9 => h9) rfl (by decide +kernel) (by first | rfl | decide) (by first | rfl | decide) (Nat.le_of_ble_eq_true rfl) dX3_run_287 (fun H locs hP hD hS => ?_)
                              have hP : va_P D vwCl [(a0, .inr (3, [.ref a1, .int 1])), (a1, .inl (K 0, 64, .inl f_5617)), (w0, .inl (K 0, nw, .inl fw))] H := hP
                              have hD : va_D A [(a0, .inr (3, [.ref a1, .int 1])), (a1, .inl (K 0, 64, .inl f_5617)), (w0, .inl (K 0, nw, .inl fw))] := hD
                              refine lv_goto (tgt := 329) hx hb dX3_run_290 (by decide) ?_
                              have hz_6970 : (1 : Int32).toInt = 1 := rfl
                              exact j_6866 v_5615 x_6762 1 f_5617 (by omega) (by rw [hx_6762]; omega) (by decide) (show v_5614.toInt < (x_6762 : Int32).toInt by omega) _ _ (hP.sub [1, 2, 0] rfl) (hD.sub [1, 2, 0] (by decide) rfl) hS ls (lv_sub hl [4, 0, 3, 5, 6, 7] rfl)
                          · have c_6956i := i_eq (x := x_6759.toInt) (y := 13) rfl rfl c_6956
                            exact j_6941  (by omega) _ _ hP hD hS ls (lv_sub hl [0, 1, 2, 3, 4, 5, 6, 7] rfl)
                      · have c_6911i := i_eq (x := x_6759.toInt) (y := 11) rfl rfl c_6911
                        refine lv_aload_n hx hb dX3_run_188 rfl (lv_at hl 5 rfl) ?_
                        refine va_get (ci := 3) (v := .ref a1) (C := RX3) (T := TX3) (N := 2) hx hb hts hw3 hown hK hP 0 rfl rfl 0 (by decide) (hts (.fieldLink RX3 7 "SmokeTune$Machine" "stack" "[I") (List.mem_cons_of_mem _ (List.mem_append_left _ (List.mem_of_getElem? (i := 1) rfl)))) (fun _ h9 => h9) rfl dX3_run_189 ?_
                        refine lv_iload hx hb dX3_run_192 (lv_at hl 4 rfl) ?_
                        refine lv_iconst (v := 1) hx hb dX3_run_194 (by decide) ?_
                        refine lv_isub hx hb dX3_run_195 ?_
                        refine lv_topi (fun x_6971 ex_6971 => ?_)
                        have hx_6971 : x_6971.toInt = (v_5615.toInt - 1) := by rw [ex_6971]; exact i_sub rfl (show (1 : Int32).toInt = 1 from rfl) (by omega)
                        refine lv_iconst (v := 1) hx hb dX3_run_196 (by decide) ?_
                        refine lv_aload_n hx hb dX3_run_197 rfl (lv_at hl 5 rfl) ?_
                        refine va_get (ci := 3) (v := .ref a1) (C := RX3) (T := TX3) (N := 2) hx hb hts hw3 hown hK hP 0 rfl rfl 0 (by decide) (hts (.fieldLink RX3 7 "SmokeTune$Machine" "stack" "[I") (List.mem_cons_of_mem _ (List.mem_append_left _ (List.mem_of_getElem? (i := 1) rfl)))) (fun _ h9 => h9) rfl dX3_run_198 ?_
                        refine lv_iload hx hb dX3_run_201 (lv_at hl 4 rfl) ?_
                        refine lv_iconst (v := 1) hx hb dX3_run_203 (by decide) ?_
                        refine lv_isub hx hb dX3_run_204 ?_
                        refine lv_topi (fun x_6972 ex_6972 => ?_)
                        have hx_6972 : x_6972.toInt = (v_5615.toInt - 1) := by rw [ex_6972]; exact i_sub rfl (show (1 : Int32).toInt = 1 from rfl) (by omega)
                        refine va_iald hx hb hK hP 1 0 rfl rfl (i_in hx_6972 (by omega)) dX3_run_205 ?_
                        refine lv_topi (fun x_6973 ex_6973 => ?_)
                        refine lv_isub hx hb dX3_run_206 ?_
                        refine lv_topi (fun x_6974 ex_6974 => ?_)
                        refine va_iast hx hb hK hP hD hS 1 0 rfl rfl (i_in hx_6971 (by omega)) dX3_run_207 (fun H locs hP hD hS => ?_)
                        generalize hf_6975 : (upd f_5617 (x_6971 : Int32).toNatClampNeg x_6974) = f_6975 at hP hD
                        have hP : va_P D vwCl [(a0, .inr (3, [.ref a1, .int v_5616])), (a1, .inl (K 0, 64, .inl f_6975)), (w0, .inl (K 0, nw, .inl fw))] H := hP
                        have hD : va_D A [(a0, .inr (3, [.ref a1, .int v_5616])), (a1, .inl (K 0, 64, .inl f_6975)), (w0, .inl (K 0, nw, .inl fw))] := hD
                        refine lv_goto (tgt := 329) hx hb dX3_run_208 (by decide) ?_
                        exact j_6866 v_5615 x_6762 v_5616 f_6975 (by omega) (by rw [hx_6762]; omega) (by omega) (show v_5614.toInt < (x_6762 : Int32).toInt by omega) _ _ (hP.sub [1, 2, 0] rfl) (hD.sub [1, 2, 0] (by decide) rfl) hS ls (lv_sub hl [4, 0, 3, 5, 6, 7] rfl)
                    · have c_6910i := i_nle (x := 1) (y := v_5615.toInt) rfl rfl c_6910
                      refine lv_aload_n hx hb dX3_run_173 rfl (lv_at hl 5 rfl) ?_
                      refine lv_iconst (v := 1) hx hb dX3_run_174 (by decide) ?_
                      refine va_put (ci := 3) (v := .int 1) (ty := .boolean) (C := RX3) (T := TX3) (N := 2) hx hb hts hw3 tyX3 tyX3_ok nmX3 hown hK hP hD hS 0 rfl rfl 1 (by decide) (hts (.fieldLink RX3 13 "SmokeTune$Machine" "broken" "Z") (List.mem_cons_of_mem _ (List.mem_append_left _ (List.mem_of_getElem? (i := 0) rfl)))) (fun _ h9 => h9) rfl (by decide +kernel) (by first | rfl | decide) (by first | rfl | decide) (Nat.le_of_ble_eq_true rfl) dX3_run_175 (fun H locs hP hD hS => ?_)
                      have hP : va_P D vwCl [(a0, .inr (3, [.ref a1, .int 1])), (a1, .inl (K 0, 64, .inl f_5617)), (w0, .inl (K 0, nw, .inl fw))] H := hP
                      have hD : va_D A [(a0, .inr (3, [.ref a1, .int 1])), (a1, .inl (K 0, 64, .inl f_5617)), (w0, .inl (K 0, nw, .inl fw))] := hD
                      refine lv_goto (tgt := 329) hx hb dX3_run_178 (by decide) ?_
                      have hz_6976 : (1 : Int32).toInt = 1 := rfl
                      exact j_6866 v_5615 x_6762 1 f_5617 (by omega) (by rw [hx_6762]; omega) (by decide) (show v_5614.toInt < (x_6762 : Int32).toInt by omega) _ _ (hP.sub [1, 2, 0] rfl) (hD.sub [1, 2, 0] (by decide) rfl) hS ls (lv_sub hl [4, 0, 3, 5, 6, 7] rfl)
                  · have c_6909i := i_eq (x := x_6759.toInt) (y := 2) rfl rfl c_6909
                    exact j_6867  (by omega) _ _ hP hD hS ls (lv_sub hl [0, 1, 2, 3, 4, 5, 6, 7] rfl)
              · have c_6763i := i_eq (x := x_6759.toInt) (y := 0) rfl rfl c_6763
                refine lv_goto (tgt := 336) hx hb dX3_run_68 (by decide) ?_
                exact j_6745   _ _ hP hD hS ls (lv_sub hl [3, 4, 5] rfl)
    exact lp_6512 ((((nc : Nat) : Int) - (x : Int32).toInt : Int).toNat + 1) x 0 0 fs (by omega) (by decide) (by decide) (Nat.lt_succ_self _) _ _ hP hD hS ls (lv_sub hl [0, 2, 3, 4, 6] rfl)
  · have c_4661i := i_nle (x := 0) (y := x.toInt) rfl rfl c_4661
    refine lv_iconst (v := 1) hx hb dX3_run_5 (by decide) ?_
    refine lv_goto (tgt := 10) hx hb dX3_run_6 (by decide) ?_
    refine va_put (ci := 3) (v := .int 1) (ty := .boolean) (C := RX3) (T := TX3) (N := 2) hx hb hts hw3 tyX3 tyX3_ok nmX3 hown hK hP hD hS 0 rfl rfl 1 (by decide) (hts (.fieldLink RX3 13 "SmokeTune$Machine" "broken" "Z") (List.mem_cons_of_mem _ (List.mem_append_left _ (List.mem_of_getElem? (i := 0) rfl)))) (fun _ h9 => h9) rfl (by decide +kernel) (by first | rfl | decide) (by first | rfl | decide) (Nat.le_of_ble_eq_true rfl) dX3_run_10 (fun H locs hP hD hS => ?_)
    have hP : va_P D vwCl [(a0, .inr (3, [.ref a1, .int 1])), (a1, .inl (K 0, 64, .inl fs)), (w0, .inl (K 0, nw, .inl fw))] H := hP
    have hD : va_D A [(a0, .inr (3, [.ref a1, .int 1])), (a1, .inl (K 0, 64, .inl fs)), (w0, .inl (K 0, nw, .inl fw))] := hD
    refine lv_iconst (v := 0) hx hb dX3_run_13 (by decide) ?_
    refine lv_istore (lv' := [(4, .int 0), (0, .ref a0), (1, .ref c0), (2, .int x), (3, .ref w0)]) hx hb dX3_run_14 hl (by decide) rfl (fun ls hl => ?_)
    refine lv_iload_n hx hb dX3_run_16 rfl (lv_at hl 3 rfl) ?_
    refine lv_istore (lv' := [(5, .int x), (4, .int 0), (0, .ref a0), (1, .ref c0), (2, .int x), (3, .ref w0)]) hx hb dX3_run_17 hl (by decide) rfl (fun ls hl => ?_)
    refine lv_iload_n hx hb dX3_run_19 rfl (lv_at hl 4 rfl) ?_
    refine lv_istore (lv' := [(6, .int x), (5, .int x), (4, .int 0), (0, .ref a0), (1, .ref c0), (2, .int x), (3, .ref w0)]) hx hb dX3_run_20 hl (by decide) rfl (fun ls hl => ?_)
    refine lv_aload_n hx hb dX3_run_22 rfl (lv_at hl 3 rfl) ?_
    refine va_get (ci := 3) (v := .int 1) (C := RX3) (T := TX3) (N := 2) hx hb hts hw3 hown hK hP 0 rfl rfl 1 (by decide) (hts (.fieldLink RX3 13 "SmokeTune$Machine" "broken" "Z") (List.mem_cons_of_mem _ (List.mem_append_left _ (List.mem_of_getElem? (i := 0) rfl)))) (fun _ h9 => h9) rfl dX3_run_23 ?_
    refine lv_if_ne (tgt := 336) hx hb dX3_run_26 (by decide) (fun c_6988 => ?_) (fun c_6988 => absurd c_6988 (by decide))
    refine lv_aload_n hx hb dX3_run_336 rfl (lv_at hl 3 rfl) ?_
    refine va_get (ci := 3) (v := .int 1) (C := RX3) (T := TX3) (N := 2) hx hb hts hw3 hown hK hP 0 rfl rfl 1 (by decide) (hts (.fieldLink RX3 13 "SmokeTune$Machine" "broken" "Z") (List.mem_cons_of_mem _ (List.mem_append_left _ (List.mem_of_getElem? (i := 0) rfl)))) (fun _ h9 => h9) rfl dX3_run_337 ?_
    refine lv_if_ne (tgt := 349) hx hb dX3_run_340 (by decide) (fun c_6990 => ?_) (fun c_6990 => absurd c_6990 (by decide))
    refine lv_iconst (v := 0) hx hb dX3_run_349 (by decide) ?_
    refine lv_goto (tgt := 362) hx hb dX3_run_350 (by decide) ?_
    rw [← hQ]
    have hP9 := hP.sub (ws' := [(a0, .inr (3, [.ref a1, .int 1])), (a1, .inl (K 0, 64, .inl fs)), (w0, .inl (K 0, nw, .inl fw))]) [0, 1, 2] rfl
    have hD9 := hD.sub (ws' := [(a0, .inr (3, [.ref a1, .int 1])), (a1, .inl (K 0, 64, .inl fs)), (w0, .inl (K 0, nw, .inl fw))]) [0, 1, 2] (by decide) rfl
    exact W.iret (v := 0) hx hb hr (fun t ht hW => ⟨⟨0, ((fun _ => 0, fun i => match i with | _ => fs, fun _ => fun _ => 0, fun i => match i with | _ => 1, fun _ => 0, fun _ => fun _ => none) : Su), rfl, ⟨(show 0 ≤ (1 : Int32).toInt ∧ (1 : Int32).toInt ≤ 1 by decide), trivial⟩, (⟨by rw [ht]; exact hP9, hD9⟩ : Wd D A _ t)⟩, hS.F ht⟩) hS.2.2 dX3_run_362
