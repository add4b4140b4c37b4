theorem dX12_isSmall_0 : decode cX12_isSmall 0 = .ok (.iload_n 0, 1) := by decide +kernel
theorem dX12_isSmall_1 : decode cX12_isSmall 1 = .ok (.bipush 97, 2) := by decide +kernel
theorem dX12_isSmall_3 : decode cX12_isSmall 3 = .ok (.if_icmp .lt 13, 3) := by decide +kernel
theorem dX12_isSmall_16 : decode cX12_isSmall 16 = .ok (.iconst 0, 1) := by decide +kernel
theorem dX12_isSmall_17 : decode cX12_isSmall 17 = .ok (.ireturn, 1) := by decide +kernel
theorem dX12_isSmall_6 : decode cX12_isSmall 6 = .ok (.iload_n 0, 1) := by decide +kernel
theorem dX12_isSmall_7 : decode cX12_isSmall 7 = .ok (.bipush 122, 2) := by decide +kernel
theorem dX12_isSmall_9 : decode cX12_isSmall 9 = .ok (.if_icmp .gt 7, 3) := by decide +kernel
theorem dX12_isSmall_12 : decode cX12_isSmall 12 = .ok (.iconst 1, 1) := by decide +kernel
theorem dX12_isSmall_13 : decode cX12_isSmall 13 = .ok (.goto 4, 3) := by decide +kernel
theorem dX12_isDigit_0 : decode cX12_isDigit 0 = .ok (.iload_n 0, 1) := by decide +kernel
theorem dX12_isDigit_1 : decode cX12_isDigit 1 = .ok (.bipush 48, 2) := by decide +kernel
theorem dX12_isDigit_3 : decode cX12_isDigit 3 = .ok (.if_icmp .lt 13, 3) := by decide +kernel
theorem dX12_isDigit_16 : decode cX12_isDigit 16 = .ok (.iconst 0, 1) := by decide +kernel
theorem dX12_isDigit_17 : decode cX12_isDigit 17 = .ok (.ireturn, 1) := by decide +kernel
theorem dX12_isDigit_6 : decode cX12_isDigit 6 = .ok (.iload_n 0, 1) := by decide +kernel
theorem dX12_isDigit_7 : decode cX12_isDigit 7 = .ok (.bipush 57, 2) := by decide +kernel
theorem dX12_isDigit_9 : decode cX12_isDigit 9 = .ok (.if_icmp .gt 7, 3) := by decide +kernel
theorem dX12_isDigit_12 : decode cX12_isDigit 12 = .ok (.iconst 1, 1) := by decide +kernel
theorem dX12_isDigit_13 : decode cX12_isDigit 13 = .ok (.goto 4, 3) := by decide +kernel
theorem dX12_next_0 : decode cX12_next 0 = .ok (.aload_n 0, 1) := by decide +kernel
theorem dX12_next_1 : decode cX12_next 1 = .ok (.aload_n 0, 1) := by decide +kernel
theorem dX12_next_2 : decode cX12_next 2 = .ok (.getfield 236, 3) := by decide +kernel
theorem dX12_next_5 : decode cX12_next 5 = .ok (.putfield 246, 3) := by decide +kernel
theorem dX12_next_8 : decode cX12_next 8 = .ok (.aload_n 0, 1) := by decide +kernel
theorem dX12_next_9 : decode cX12_next 9 = .ok (.getfield 246, 3) := by decide +kernel
theorem dX12_next_12 : decode cX12_next 12 = .ok (.aload_n 0, 1) := by decide +kernel
theorem dX12_next_13 : decode cX12_next 13 = .ok (.getfield 227, 3) := by decide +kernel
theorem dX12_next_16 : decode cX12_next 16 = .ok (.if_icmp .ge 30, 3) := by decide +kernel
theorem dX12_next_19 : decode cX12_next 19 = .ok (.aload_n 0, 1) := by decide +kernel
theorem dX12_next_20 : decode cX12_next 20 = .ok (.getfield 35, 3) := by decide +kernel
theorem dX12_next_23 : decode cX12_next 23 = .ok (.aload_n 0, 1) := by decide +kernel
theorem dX12_next_24 : decode cX12_next 24 = .ok (.getfield 246, 3) := by decide +kernel
theorem dX12_next_27 : decode cX12_next 27 = .ok (.iaload, 1) := by decide +kernel
theorem dX12_next_28 : decode cX12_next 28 = .ok (.bipush 32, 2) := by decide +kernel
theorem dX12_next_30 : decode cX12_next 30 = .ok (.if_icmp .ne 16, 3) := by decide +kernel
theorem dX12_next_33 : decode cX12_next 33 = .ok (.aload_n 0, 1) := by decide +kernel
theorem dX12_next_34 : decode cX12_next 34 = .ok (.dup, 1) := by decide +kernel
theorem dX12_next_35 : decode cX12_next 35 = .ok (.getfield 246, 3) := by decide +kernel
theorem dX12_next_38 : decode cX12_next 38 = .ok (.iconst 1, 1) := by decide +kernel
theorem dX12_next_39 : decode cX12_next 39 = .ok (.iadd, 1) := by decide +kernel
theorem dX12_next_40 : decode cX12_next 40 = .ok (.putfield 246, 3) := by decide +kernel
theorem dX12_next_43 : decode cX12_next 43 = .ok (.goto (-35), 3) := by decide +kernel
theorem dX12_next_46 : decode cX12_next 46 = .ok (.aload_n 0, 1) := by decide +kernel
theorem dX12_next_47 : decode cX12_next 47 = .ok (.aload_n 0, 1) := by decide +kernel
theorem dX12_next_48 : decode cX12_next 48 = .ok (.getfield 246, 3) := by decide +kernel
theorem dX12_next_51 : decode cX12_next 51 = .ok (.putfield 236, 3) := by decide +kernel
theorem dX12_next_54 : decode cX12_next 54 = .ok (.aload_n 0, 1) := by decide +kernel
theorem dX12_next_55 : decode cX12_next 55 = .ok (.lconst 0, 1) := by decide +kernel
theorem dX12_next_56 : decode cX12_next 56 = .ok (.putfield 249, 3) := by decide +kernel
theorem dX12_next_59 : decode cX12_next 59 = .ok (.aload_n 0, 1) := by decide +kernel
theorem dX12_next_60 : decode cX12_next 60 = .ok (.aload_n 0, 1) := by decide +kernel
theorem dX12_next_61 : decode cX12_next 61 = .ok (.getfield 246, 3) := by decide +kernel
theorem dX12_next_64 : decode cX12_next 64 = .ok (.aload_n 0, 1) := by decide +kernel
theorem dX12_next_65 : decode cX12_next 65 = .ok (.getfield 227, 3) := by decide +kernel
theorem dX12_next_68 : decode cX12_next 68 = .ok (.if_icmp .ne 7, 3) := by decide +kernel
theorem dX12_next_75 : decode cX12_next 75 = .ok (.aload_n 0, 1) := by decide +kernel
theorem dX12_next_76 : decode cX12_next 76 = .ok (.getfield 35, 3) := by decide +kernel
theorem dX12_next_79 : decode cX12_next 79 = .ok (.aload_n 0, 1) := by decide +kernel
theorem dX12_next_80 : decode cX12_next 80 = .ok (.getfield 246, 3) := by decide +kernel
theorem dX12_next_83 : decode cX12_next 83 = .ok (.iaload, 1) := by decide +kernel
theorem dX12_next_84 : decode cX12_next 84 = .ok (.invokestatic 253, 3) := by decide +kernel
theorem dX12_next_87 : decode cX12_next 87 = .ok (.ifCond .eq 7, 3) := by decide +kernel
theorem dX12_next_90 : decode cX12_next 90 = .ok (.iconst 1, 1) := by decide +kernel
theorem dX12_next_91 : decode cX12_next 91 = .ok (.goto 23, 3) := by decide +kernel
theorem dX12_next_114 : decode cX12_next 114 = .ok (.putfield 259, 3) := by decide +kernel
theorem dX12_next_117 : decode cX12_next 117 = .ok (.aload_n 0, 1) := by decide +kernel
theorem dX12_next_118 : decode cX12_next 118 = .ok (.getfield 259, 3) := by decide +kernel
theorem dX12_next_121 : decode cX12_next 121 = .ok (.iconst 3, 1) := by decide +kernel
theorem dX12_next_122 : decode cX12_next 122 = .ok (.if_icmp .ne 27, 3) := by decide +kernel
theorem dX12_next_149 : decode cX12_next 149 = .ok (.aload_n 0, 1) := by decide +kernel
theorem dX12_next_150 : decode cX12_next 150 = .ok (.getfield 259, 3) := by decide +kernel
theorem dX12_next_153 : decode cX12_next 153 = .ok (.iconst 1, 1) := by decide +kernel
theorem dX12_next_154 : decode cX12_next 154 = .ok (.if_icmp .ne 89, 3) := by decide +kernel
theorem dX12_next_157 : decode cX12_next 157 = .ok (.aload_n 0, 1) := by decide +kernel
theorem dX12_next_158 : decode cX12_next 158 = .ok (.getfield 236, 3) := by decide +kernel
theorem dX12_next_161 : decode cX12_next 161 = .ok (.aload_n 0, 1) := by decide +kernel
theorem dX12_next_162 : decode cX12_next 162 = .ok (.getfield 227, 3) := by decide +kernel
theorem dX12_next_165 : decode cX12_next 165 = .ok (.if_icmp .ge 78, 3) := by decide +kernel
theorem dX12_next_243 : decode cX12_next 243 = .ok (.aload_n 0, 1) := by decide +kernel
theorem dX12_next_244 : decode cX12_next 244 = .ok (.getfield 259, 3) := by decide +kernel
theorem dX12_next_247 : decode cX12_next 247 = .ok (.iconst 2, 1) := by decide +kernel
theorem dX12_next_248 : decode cX12_next 248 = .ok (.if_icmp .ne 87, 3) := by decide +kernel
theorem dX12_next_335 : decode cX12_next 335 = .ok (.return_, 1) := by decide +kernel
theorem dX12_next_168 : decode cX12_next 168 = .ok (.aload_n 0, 1) := by decide +kernel
theorem dX12_next_169 : decode cX12_next 169 = .ok (.getfield 35, 3) := by decide +kernel
theorem dX12_next_172 : decode cX12_next 172 = .ok (.aload_n 0, 1) := by decide +kernel
theorem dX12_next_173 : decode cX12_next 173 = .ok (.getfield 236, 3) := by decide +kernel
theorem dX12_next_176 : decode cX12_next 176 = .ok (.iaload, 1) := by decide +kernel
theorem dX12_next_177 : decode cX12_next 177 = .ok (.invokestatic 253, 3) := by decide +kernel
theorem dX12_next_180 : decode cX12_next 180 = .ok (.ifCond .eq 63, 3) := by decide +kernel
theorem dX12_next_183 : decode cX12_next 183 = .ok (.aload_n 0, 1) := by decide +kernel
theorem dX12_next_184 : decode cX12_next 184 = .ok (.aload_n 0, 1) := by decide +kernel
theorem dX12_next_185 : decode cX12_next 185 = .ok (.getfield 236, 3) := by decide +kernel
theorem dX12_next_188 : decode cX12_next 188 = .ok (.aload_n 0, 1) := by decide +kernel
theorem dX12_next_189 : decode cX12_next 189 = .ok (.getfield 246, 3) := by decide +kernel
theorem dX12_next_192 : decode cX12_next 192 = .ok (.isub, 1) := by decide +kernel
theorem dX12_next_193 : decode cX12_next 193 = .ok (.bipush 10, 2) := by decide +kernel
theorem dX12_next_195 : decode cX12_next 195 = .ok (.if_icmp .ge 29, 3) := by decide +kernel
theorem dX12_next_224 : decode cX12_next 224 = .ok (.ldc2_w 266, 3) := by decide +kernel
theorem dX12_next_227 : decode cX12_next 227 = .ok (.putfield 249, 3) := by decide +kernel
theorem dX12_next_230 : decode cX12_next 230 = .ok (.aload_n 0, 1) := by decide +kernel
theorem dX12_next_231 : decode cX12_next 231 = .ok (.dup, 1) := by decide +kernel
theorem dX12_next_232 : decode cX12_next 232 = .ok (.getfield 236, 3) := by decide +kernel
theorem dX12_next_235 : decode cX12_next 235 = .ok (.iconst 1, 1) := by decide +kernel
theorem dX12_next_236 : decode cX12_next 236 = .ok (.iadd, 1) := by decide +kernel
theorem dX12_next_237 : decode cX12_next 237 = .ok (.putfield 236, 3) := by decide +kernel
theorem dX12_next_240 : decode cX12_next 240 = .ok (.goto (-91), 3) := by decide +kernel
theorem dX12_next_198 : decode cX12_next 198 = .ok (.aload_n 0, 1) := by decide +kernel
theorem dX12_next_199 : decode cX12_next 199 = .ok (.getfield 249, 3) := by decide +kernel
theorem dX12_next_202 : decode cX12_next 202 = .ok (.ldc2_w 262, 3) := by decide +kernel
theorem dX12_next_205 : decode cX12_next 205 = .ok (.lmul, 1) := by decide +kernel
theorem dX12_next_206 : decode cX12_next 206 = .ok (.aload_n 0, 1) := by decide +kernel
theorem dX12_next_207 : decode cX12_next 207 = .ok (.getfield 35, 3) := by decide +kernel
theorem dX12_next_210 : decode cX12_next 210 = .ok (.aload_n 0, 1) := by decide +kernel
theorem dX12_next_211 : decode cX12_next 211 = .ok (.getfield 236, 3) := by decide +kernel
theorem dX12_next_214 : decode cX12_next 214 = .ok (.iaload, 1) := by decide +kernel
theorem dX12_next_215 : decode cX12_next 215 = .ok (.i2l, 1) := by decide +kernel
theorem dX12_next_216 : decode cX12_next 216 = .ok (.ladd, 1) := by decide +kernel
theorem dX12_next_217 : decode cX12_next 217 = .ok (.ldc2_w 264, 3) := by decide +kernel
theorem dX12_next_220 : decode cX12_next 220 = .ok (.lsub, 1) := by decide +kernel
theorem dX12_next_221 : decode cX12_next 221 = .ok (.goto 6, 3) := by decide +kernel
theorem dX12_next_94 : decode cX12_next 94 = .ok (.aload_n 0, 1) := by decide +kernel
theorem dX12_next_95 : decode cX12_next 95 = .ok (.getfield 35, 3) := by decide +kernel
theorem dX12_next_98 : decode cX12_next 98 = .ok (.aload_n 0, 1) := by decide +kernel
theorem dX12_next_99 : decode cX12_next 99 = .ok (.getfield 246, 3) := by decide +kernel
theorem dX12_next_102 : decode cX12_next 102 = .ok (.iaload, 1) := by decide +kernel
theorem dX12_next_103 : decode cX12_next 103 = .ok (.invokestatic 256, 3) := by decide +kernel
theorem dX12_next_106 : decode cX12_next 106 = .ok (.ifCond .eq 7, 3) := by decide +kernel
theorem dX12_next_109 : decode cX12_next 109 = .ok (.iconst 2, 1) := by decide +kernel
theorem dX12_next_110 : decode cX12_next 110 = .ok (.goto 4, 3) := by decide +kernel
theorem dX12_next_251 : decode cX12_next 251 = .ok (.aload_n 0, 1) := by decide +kernel
theorem dX12_next_252 : decode cX12_next 252 = .ok (.getfield 236, 3) := by decide +kernel
theorem dX12_next_255 : decode cX12_next 255 = .ok (.aload_n 0, 1) := by decide +kernel
theorem dX12_next_256 : decode cX12_next 256 = .ok (.getfield 227, 3) := by decide +kernel
theorem dX12_next_259 : decode cX12_next 259 = .ok (.if_icmp .ge 76, 3) := by decide +kernel
theorem dX12_next_262 : decode cX12_next 262 = .ok (.aload_n 0, 1) := by decide +kernel
theorem dX12_next_263 : decode cX12_next 263 = .ok (.getfield 35, 3) := by decide +kernel
theorem dX12_next_266 : decode cX12_next 266 = .ok (.aload_n 0, 1) := by decide +kernel
theorem dX12_next_267 : decode cX12_next 267 = .ok (.getfield 236, 3) := by decide +kernel
theorem dX12_next_270 : decode cX12_next 270 = .ok (.iaload, 1) := by decide +kernel
theorem dX12_next_271 : decode cX12_next 271 = .ok (.invokestatic 256, 3) := by decide +kernel
theorem dX12_next_274 : decode cX12_next 274 = .ok (.ifCond .eq 61, 3) := by decide +kernel
theorem dX12_next_277 : decode cX12_next 277 = .ok (.aload_n 0, 1) := by decide +kernel
theorem dX12_next_278 : decode cX12_next 278 = .ok (.aload_n 0, 1) := by decide +kernel
theorem dX12_next_279 : decode cX12_next 279 = .ok (.getfield 249, 3) := by decide +kernel
theorem dX12_next_282 : decode cX12_next 282 = .ok (.ldc2_w 268, 3) := by decide +kernel
theorem dX12_next_285 : decode cX12_next 285 = .ok (.lcmp, 1) := by decide +kernel
theorem dX12_next_286 : decode cX12_next 286 = .ok (.ifCond .le 10, 3) := by decide +kernel
theorem dX12_next_296 : decode cX12_next 296 = .ok (.aload_n 0, 1) := by decide +kernel
theorem dX12_next_297 : decode cX12_next 297 = .ok (.getfield 249, 3) := by decide +kernel
theorem dX12_next_300 : decode cX12_next 300 = .ok (.ldc2_w 219, 3) := by decide +kernel
theorem dX12_next_303 : decode cX12_next 303 = .ok (.lmul, 1) := by decide +kernel
theorem dX12_next_304 : decode cX12_next 304 = .ok (.aload_n 0, 1) := by decide +kernel
theorem dX12_next_305 : decode cX12_next 305 = .ok (.getfield 35, 3) := by decide +kernel
theorem dX12_next_308 : decode cX12_next 308 = .ok (.aload_n 0, 1) := by decide +kernel
theorem dX12_next_309 : decode cX12_next 309 = .ok (.getfield 236, 3) := by decide +kernel
theorem dX12_next_312 : decode cX12_next 312 = .ok (.iaload, 1) := by decide +kernel
theorem dX12_next_313 : decode cX12_next 313 = .ok (.i2l, 1) := by decide +kernel
theorem dX12_next_314 : decode cX12_next 314 = .ok (.ladd, 1) := by decide +kernel
theorem dX12_next_315 : decode cX12_next 315 = .ok (.ldc2_w 270, 3) := by decide +kernel
theorem dX12_next_318 : decode cX12_next 318 = .ok (.lsub, 1) := by decide +kernel
theorem dX12_next_319 : decode cX12_next 319 = .ok (.putfield 249, 3) := by decide +kernel
theorem dX12_next_322 : decode cX12_next 322 = .ok (.aload_n 0, 1) := by decide +kernel
theorem dX12_next_323 : decode cX12_next 323 = .ok (.dup, 1) := by decide +kernel
theorem dX12_next_324 : decode cX12_next 324 = .ok (.getfield 236, 3) := by decide +kernel
theorem dX12_next_327 : decode cX12_next 327 = .ok (.iconst 1, 1) := by decide +kernel
theorem dX12_next_328 : decode cX12_next 328 = .ok (.iadd, 1) := by decide +kernel
theorem dX12_next_329 : decode cX12_next 329 = .ok (.putfield 236, 3) := by decide +kernel
theorem dX12_next_332 : decode cX12_next 332 = .ok (.goto (-89), 3) := by decide +kernel
theorem dX12_next_289 : decode cX12_next 289 = .ok (.aload_n 0, 1) := by decide +kernel
theorem dX12_next_290 : decode cX12_next 290 = .ok (.getfield 249, 3) := by decide +kernel
theorem dX12_next_293 : decode cX12_next 293 = .ok (.goto 26, 3) := by decide +kernel
theorem dX12_next_113 : decode cX12_next 113 = .ok (.iconst 3, 1) := by decide +kernel
theorem dX12_next_125 : decode cX12_next 125 = .ok (.aload_n 0, 1) := by decide +kernel
theorem dX12_next_126 : decode cX12_next 126 = .ok (.aload_n 0, 1) := by decide +kernel
theorem dX12_next_127 : decode cX12_next 127 = .ok (.getfield 35, 3) := by decide +kernel
theorem dX12_next_130 : decode cX12_next 130 = .ok (.aload_n 0, 1) := by decide +kernel
theorem dX12_next_131 : decode cX12_next 131 = .ok (.getfield 246, 3) := by decide +kernel
theorem dX12_next_134 : decode cX12_next 134 = .ok (.iaload, 1) := by decide +kernel
theorem dX12_next_135 : decode cX12_next 135 = .ok (.i2l, 1) := by decide +kernel
theorem dX12_next_136 : decode cX12_next 136 = .ok (.putfield 249, 3) := by decide +kernel
theorem dX12_next_139 : decode cX12_next 139 = .ok (.aload_n 0, 1) := by decide +kernel
theorem dX12_next_140 : decode cX12_next 140 = .ok (.dup, 1) := by decide +kernel
theorem dX12_next_141 : decode cX12_next 141 = .ok (.getfield 236, 3) := by decide +kernel
theorem dX12_next_144 : decode cX12_next 144 = .ok (.iconst 1, 1) := by decide +kernel
theorem dX12_next_145 : decode cX12_next 145 = .ok (.iadd, 1) := by decide +kernel
theorem dX12_next_146 : decode cX12_next 146 = .ok (.putfield 236, 3) := by decide +kernel
theorem dX12_next_71 : decode cX12_next 71 = .ok (.iconst 0, 1) := by decide +kernel
theorem dX12_next_72 : decode cX12_next 72 = .ok (.goto 42, 3) := by decide +kernel
theorem dX12_begin_0 : decode cX12_begin 0 = .ok (.aload_n 0, 1) := by decide +kernel
theorem dX12_begin_1 : decode cX12_begin 1 = .ok (.iconst 0, 1) := by decide +kernel
theorem dX12_begin_2 : decode cX12_begin 2 = .ok (.putfield 236, 3) := by decide +kernel
theorem dX12_begin_5 : decode cX12_begin 5 = .ok (.aload_n 0, 1) := by decide +kernel
theorem dX12_begin_6 : decode cX12_begin 6 = .ok (.iconst 0, 1) := by decide +kernel
theorem dX12_begin_7 : decode cX12_begin 7 = .ok (.putfield 239, 3) := by decide +kernel
theorem dX12_begin_10 : decode cX12_begin 10 = .ok (.aload_n 0, 1) := by decide +kernel
theorem dX12_begin_11 : decode cX12_begin 11 = .ok (.iconst (-1), 1) := by decide +kernel
theorem dX12_begin_12 : decode cX12_begin 12 = .ok (.putfield 38, 3) := by decide +kernel
theorem dX12_begin_15 : decode cX12_begin 15 = .ok (.aload_n 0, 1) := by decide +kernel
theorem dX12_begin_16 : decode cX12_begin 16 = .ok (.invokevirtual 243, 3) := by decide +kernel
theorem dX12_begin_19 : decode cX12_begin 19 = .ok (.return_, 1) := by decide +kernel
theorem dX12_isWord_0 : decode cX12_isWord 0 = .ok (.aload_n 0, 1) := by decide +kernel
theorem dX12_isWord_1 : decode cX12_isWord 1 = .ok (.getfield 259, 3) := by decide +kernel
theorem dX12_isWord_4 : decode cX12_isWord 4 = .ok (.iconst 1, 1) := by decide +kernel
theorem dX12_isWord_5 : decode cX12_isWord 5 = .ok (.if_icmp .ne 16, 3) := by decide +kernel
theorem dX12_isWord_21 : decode cX12_isWord 21 = .ok (.iconst 0, 1) := by decide +kernel
theorem dX12_isWord_22 : decode cX12_isWord 22 = .ok (.ireturn, 1) := by decide +kernel
theorem dX12_isWord_8 : decode cX12_isWord 8 = .ok (.aload_n 0, 1) := by decide +kernel
theorem dX12_isWord_9 : decode cX12_isWord 9 = .ok (.getfield 249, 3) := by decide +kernel
theorem dX12_isWord_12 : decode cX12_isWord 12 = .ok (.lload_n 1, 1) := by decide +kernel
theorem dX12_isWord_13 : decode cX12_isWord 13 = .ok (.lcmp, 1) := by decide +kernel
theorem dX12_isWord_14 : decode cX12_isWord 14 = .ok (.ifCond .ne 7, 3) := by decide +kernel
theorem dX12_isWord_17 : decode cX12_isWord 17 = .ok (.iconst 1, 1) := by decide +kernel
theorem dX12_isWord_18 : decode cX12_isWord 18 = .ok (.goto 4, 3) := by decide +kernel
theorem dX12_isSign_0 : decode cX12_isSign 0 = .ok (.aload_n 0, 1) := by decide +kernel
theorem dX12_isSign_1 : decode cX12_isSign 1 = .ok (.getfield 259, 3) := by decide +kernel
theorem dX12_isSign_4 : decode cX12_isSign 4 = .ok (.iconst 3, 1) := by decide +kernel
theorem dX12_isSign_5 : decode cX12_isSign 5 = .ok (.if_icmp .ne 17, 3) := by decide +kernel
theorem dX12_isSign_22 : decode cX12_isSign 22 = .ok (.iconst 0, 1) := by decide +kernel
theorem dX12_isSign_23 : decode cX12_isSign 23 = .ok (.ireturn, 1) := by decide +kernel
theorem dX12_isSign_8 : decode cX12_isSign 8 = .ok (.aload_n 0, 1) := by decide +kernel
theorem dX12_isSign_9 : decode cX12_isSign 9 = .ok (.getfield 249, 3) := by decide +kernel
theorem dX12_isSign_12 : decode cX12_isSign 12 = .ok (.iload_n 1, 1) := by decide +kernel
theorem dX12_isSign_13 : decode cX12_isSign 13 = .ok (.i2l, 1) := by decide +kernel
theorem dX12_isSign_14 : decode cX12_isSign 14 = .ok (.lcmp, 1) := by decide +kernel
theorem dX12_isSign_15 : decode cX12_isSign 15 = .ok (.ifCond .ne 7, 3) := by decide +kernel
theorem dX12_isSign_18 : decode cX12_isSign 18 = .ok (.iconst 1, 1) := by decide +kernel
theorem dX12_isSign_19 : decode cX12_isSign 19 = .ok (.goto 4, 3) := by decide +kernel
theorem dX12_must_0 : decode cX12_must 0 = .ok (.aload_n 0, 1) := by decide +kernel
theorem dX12_must_1 : decode cX12_must 1 = .ok (.getfield 239, 3) := by decide +kernel
theorem dX12_must_4 : decode cX12_must 4 = .ok (.ifCond .ne 20, 3) := by decide +kernel
theorem dX12_must_24 : decode cX12_must 24 = .ok (.aload_n 0, 1) := by decide +kernel
theorem dX12_must_25 : decode cX12_must 25 = .ok (.getfield 239, 3) := by decide +kernel
theorem dX12_must_28 : decode cX12_must 28 = .ok (.ifCond .ne 7, 3) := by decide +kernel
theorem dX12_must_35 : decode cX12_must 35 = .ok (.return_, 1) := by decide +kernel
theorem dX12_must_7 : decode cX12_must 7 = .ok (.iload_n 1, 1) := by decide +kernel
theorem dX12_must_8 : decode cX12_must 8 = .ok (.ifCond .ne 16, 3) := by decide +kernel
theorem dX12_must_31 : decode cX12_must 31 = .ok (.aload_n 0, 1) := by decide +kernel
theorem dX12_must_32 : decode cX12_must 32 = .ok (.invokevirtual 243, 3) := by decide +kernel
theorem dX12_must_11 : decode cX12_must 11 = .ok (.aload_n 0, 1) := by decide +kernel
theorem dX12_must_12 : decode cX12_must 12 = .ok (.iconst 1, 1) := by decide +kernel
theorem dX12_must_13 : decode cX12_must 13 = .ok (.putfield 239, 3) := by decide +kernel
theorem dX12_must_16 : decode cX12_must 16 = .ok (.aload_n 0, 1) := by decide +kernel
theorem dX12_must_17 : decode cX12_must 17 = .ok (.aload_n 0, 1) := by decide +kernel
theorem dX12_must_18 : decode cX12_must 18 = .ok (.getfield 246, 3) := by decide +kernel
theorem dX12_must_21 : decode cX12_must 21 = .ok (.putfield 38, 3) := by decide +kernel
theorem dX12_number_0 : decode cX12_number 0 = .ok (.aload_n 0, 1) := by decide +kernel
theorem dX12_number_1 : decode cX12_number 1 = .ok (.getfield 249, 3) := by decide +kernel
theorem dX12_number_4 : decode cX12_number 4 = .ok (.l2i, 1) := by decide +kernel
theorem dX12_number_5 : decode cX12_number 5 = .ok (.istore 5, 2) := by decide +kernel
theorem dX12_number_7 : decode cX12_number 7 = .ok (.aload_n 0, 1) := by decide +kernel
theorem dX12_number_8 : decode cX12_number 8 = .ok (.aload_n 0, 1) := by decide +kernel
theorem dX12_number_9 : decode cX12_number 9 = .ok (.getfield 259, 3) := by decide +kernel
theorem dX12_number_12 : decode cX12_number 12 = .ok (.iconst 2, 1) := by decide +kernel
theorem dX12_number_13 : decode cX12_number 13 = .ok (.if_icmp .ne 19, 3) := by decide +kernel
theorem dX12_number_32 : decode cX12_number 32 = .ok (.iconst 0, 1) := by decide +kernel
theorem dX12_number_33 : decode cX12_number 33 = .ok (.invokevirtual 272, 3) := by decide +kernel
theorem dX12_number_36 : decode cX12_number 36 = .ok (.iload 5, 2) := by decide +kernel
theorem dX12_number_38 : decode cX12_number 38 = .ok (.ireturn, 1) := by decide +kernel
theorem dX12_number_16 : decode cX12_number 16 = .ok (.aload_n 0, 1) := by decide +kernel
theorem dX12_number_17 : decode cX12_number 17 = .ok (.getfield 249, 3) := by decide +kernel
theorem dX12_number_20 : decode cX12_number 20 = .ok (.lload_n 1, 1) := by decide +kernel
theorem dX12_number_21 : decode cX12_number 21 = .ok (.lload_n 3, 1) := by decide +kernel
theorem dX12_number_22 : decode cX12_number 22 = .ok (.invokestatic 178, 3) := by decide +kernel
theorem dX12_number_25 : decode cX12_number 25 = .ok (.ifCond .eq 7, 3) := by decide +kernel
theorem dX12_number_28 : decode cX12_number 28 = .ok (.iconst 1, 1) := by decide +kernel
theorem dX12_number_29 : decode cX12_number 29 = .ok (.goto 4, 3) := by decide +kernel
theorem dX12_partAt_0 : decode cX12_partAt 0 = .ok (.iconst (-1), 1) := by decide +kernel
theorem dX12_partAt_1 : decode cX12_partAt 1 = .ok (.istore_n 1, 1) := by decide +kernel
theorem dX12_partAt_2 : decode cX12_partAt 2 = .ok (.iconst 0, 1) := by decide +kernel
theorem dX12_partAt_3 : decode cX12_partAt 3 = .ok (.istore_n 2, 1) := by decide +kernel
theorem dX12_partAt_4 : decode cX12_partAt 4 = .ok (.iload_n 2, 1) := by decide +kernel
theorem dX12_partAt_5 : decode cX12_partAt 5 = .ok (.bipush 9, 2) := by decide +kernel
theorem dX12_partAt_7 : decode cX12_partAt 7 = .ok (.if_icmp .ge 30, 3) := by decide +kernel
theorem dX12_partAt_10 : decode cX12_partAt 10 = .ok (.aload_n 0, 1) := by decide +kernel
theorem dX12_partAt_11 : decode cX12_partAt 11 = .ok (.aload_n 0, 1) := by decide +kernel
theorem dX12_partAt_12 : decode cX12_partAt 12 = .ok (.getfield 75, 3) := by decide +kernel
theorem dX12_partAt_15 : decode cX12_partAt 15 = .ok (.iload_n 2, 1) := by decide +kernel
theorem dX12_partAt_16 : decode cX12_partAt 16 = .ok (.laload, 1) := by decide +kernel
theorem dX12_partAt_17 : decode cX12_partAt 17 = .ok (.invokevirtual 295, 3) := by decide +kernel
theorem dX12_partAt_20 : decode cX12_partAt 20 = .ok (.ifCond .eq 9, 3) := by decide +kernel
theorem dX12_partAt_23 : decode cX12_partAt 23 = .ok (.iload_n 2, 1) := by decide +kernel
theorem dX12_partAt_24 : decode cX12_partAt 24 = .ok (.iconst 1, 1) := by decide +kernel
theorem dX12_partAt_25 : decode cX12_partAt 25 = .ok (.iadd, 1) := by decide +kernel
theorem dX12_partAt_26 : decode cX12_partAt 26 = .ok (.goto 4, 3) := by decide +kernel
theorem dX12_partAt_30 : decode cX12_partAt 30 = .ok (.istore_n 1, 1) := by decide +kernel
theorem dX12_partAt_31 : decode cX12_partAt 31 = .ok (.iinc 2 1, 3) := by decide +kernel
theorem dX12_partAt_34 : decode cX12_partAt 34 = .ok (.goto (-30), 3) := by decide +kernel
theorem dX12_partAt_29 : decode cX12_partAt 29 = .ok (.iload_n 1, 1) := by decide +kernel
theorem dX12_partAt_37 : decode cX12_partAt 37 = .ok (.iload_n 1, 1) := by decide +kernel
theorem dX12_partAt_38 : decode cX12_partAt 38 = .ok (.ireturn, 1) := by decide +kernel
theorem dX12_orderPartAt_0 : decode cX12_orderPartAt 0 = .ok (.iconst (-1), 1) := by decide +kernel
theorem dX12_orderPartAt_1 : decode cX12_orderPartAt 1 = .ok (.istore_n 1, 1) := by decide +kernel
theorem dX12_orderPartAt_2 : decode cX12_orderPartAt 2 = .ok (.iconst 0, 1) := by decide +kernel
theorem dX12_orderPartAt_3 : decode cX12_orderPartAt 3 = .ok (.istore_n 2, 1) := by decide +kernel
theorem dX12_orderPartAt_4 : decode cX12_orderPartAt 4 = .ok (.iload_n 2, 1) := by decide +kernel
theorem dX12_orderPartAt_5 : decode cX12_orderPartAt 5 = .ok (.bipush 8, 2) := by decide +kernel
theorem dX12_orderPartAt_7 : decode cX12_orderPartAt 7 = .ok (.if_icmp .ge 30, 3) := by decide +kernel
theorem dX12_orderPartAt_10 : decode cX12_orderPartAt 10 = .ok (.aload_n 0, 1) := by decide +kernel
theorem dX12_orderPartAt_11 : decode cX12_orderPartAt 11 = .ok (.aload_n 0, 1) := by decide +kernel
theorem dX12_orderPartAt_12 : decode cX12_orderPartAt 12 = .ok (.getfield 87, 3) := by decide +kernel
theorem dX12_orderPartAt_15 : decode cX12_orderPartAt 15 = .ok (.iload_n 2, 1) := by decide +kernel
theorem dX12_orderPartAt_16 : decode cX12_orderPartAt 16 = .ok (.laload, 1) := by decide +kernel
theorem dX12_orderPartAt_17 : decode cX12_orderPartAt 17 = .ok (.invokevirtual 295, 3) := by decide +kernel
theorem dX12_orderPartAt_20 : decode cX12_orderPartAt 20 = .ok (.ifCond .eq 9, 3) := by decide +kernel
theorem dX12_orderPartAt_23 : decode cX12_orderPartAt 23 = .ok (.iload_n 2, 1) := by decide +kernel
theorem dX12_orderPartAt_24 : decode cX12_orderPartAt 24 = .ok (.iconst 1, 1) := by decide +kernel
theorem dX12_orderPartAt_25 : decode cX12_orderPartAt 25 = .ok (.iadd, 1) := by decide +kernel
theorem dX12_orderPartAt_26 : decode cX12_orderPartAt 26 = .ok (.goto 4, 3) := by decide +kernel
theorem dX12_orderPartAt_30 : decode cX12_orderPartAt 30 = .ok (.istore_n 1, 1) := by decide +kernel
theorem dX12_orderPartAt_31 : decode cX12_orderPartAt 31 = .ok (.iinc 2 1, 3) := by decide +kernel
theorem dX12_orderPartAt_34 : decode cX12_orderPartAt 34 = .ok (.goto (-30), 3) := by decide +kernel
theorem dX12_orderPartAt_29 : decode cX12_orderPartAt 29 = .ok (.iload_n 1, 1) := by decide +kernel
theorem dX12_orderPartAt_37 : decode cX12_orderPartAt 37 = .ok (.iload_n 1, 1) := by decide +kernel
theorem dX12_orderPartAt_38 : decode cX12_orderPartAt 38 = .ok (.ireturn, 1) := by decide +kernel
set_option maxRecDepth 20000 in
theorem ggX12_next_X12_isSmall : GoodIn wsX12_next wsX12_isSmall := goodIn_r _ [16] (by decide +kernel) (by decide +kernel)
set_option maxRecDepth 20000 in
theorem gX12_next_X12_isSmall : GoodIn wsX12_next (va_wsS RX12 253 yX12_isSmall wsX12_isSmall) := goodIn_app (goodIn_of _ (by decide +kernel)) ggX12_next_X12_isSmall
set_option maxRecDepth 20000 in
theorem ggX12_next_X12_isDigit : GoodIn wsX12_next wsX12_isDigit := goodIn_r _ [19] (by decide +kernel) (by decide +kernel)
set_option maxRecDepth 20000 in
theorem gX12_next_X12_isDigit : GoodIn wsX12_next (va_wsS RX12 256 yX12_isDigit wsX12_isDigit) := goodIn_app (goodIn_of _ (by decide +kernel)) ggX12_next_X12_isDigit
set_option maxRecDepth 100000 in
set_option maxHeartbeats 4000000 in
theorem ggX12_begin_X12_next : GoodIn wsX12_begin wsX12_next := goodIn_q _ [8, 22, 25] [1, 9, 10, 11, 12, 13, 14, 15, 16, 17, 18, 19, 20, 21, 7, 23, 24, 26, 27, 28, 29, 30, 31, 32, 33, 34, 35, 36, 37, 38, 39, 40, 41, 42, 43, 44, 45, 46, 47, 48, 49, 50, 51, 52, 53, 54, 55, 56, 57, 58, 59, 60, 61, 62, 63, 64, 65, 66, 67, 68, 69, 70, 71, 72, 73, 74, 75, 76, 77, 78, 79, 80, 81, 82, 83, 84, 85] rfl (by decide +kernel) (by decide +kernel)
set_option maxRecDepth 20000 in
theorem gX12_begin_X12_next : GoodIn wsX12_begin (wsV RX12 243 RX12 yX12_next wsX12_next) := goodIn_app (goodIn_of _ (by decide +kernel)) ggX12_begin_X12_next
set_option maxRecDepth 100000 in
set_option maxHeartbeats 4000000 in
theorem ggX12_must_X12_next : GoodIn wsX12_must wsX12_next := goodIn_q _ [8, 22, 25] [9, 2, 10, 11, 12, 13, 14, 15, 16, 17, 18, 19, 20, 21, 7, 23, 24, 26, 27, 28, 29, 30, 31, 32, 33, 34, 35, 36, 37, 38, 39, 40, 41, 42, 43, 44, 45, 46, 47, 48, 49, 50, 51, 52, 53, 54, 55, 56, 57, 58, 59, 60, 61, 62, 63, 64, 65, 66, 67, 68, 69, 70, 71, 72, 73, 74, 75, 76, 77, 78, 79, 80, 81, 82, 83, 84, 85] rfl (by decide +kernel) (by decide +kernel)
set_option maxRecDepth 20000 in
theorem gX12_must_X12_next : GoodIn wsX12_must (wsV RX12 243 RX12 yX12_next wsX12_next) := goodIn_app (goodIn_of _ (by decide +kernel)) ggX12_must_X12_next
set_option maxRecDepth 100000 in
set_option maxHeartbeats 4000000 in
theorem ggX12_number_X12_must : GoodIn wsX12_number wsX12_must := goodIn_q _ [10, 17, 29, 32] [11, 12, 13, 14, 15, 16, 5, 18, 19, 20, 1, 2, 21, 22, 23, 24, 25, 26, 27, 28, 30, 31, 33, 34, 35, 36, 37, 38, 39, 40, 41, 42, 43, 44, 45, 46, 47, 48, 49, 50, 51, 52, 53, 54, 55, 56, 57, 58, 59, 60, 61, 62, 63, 64, 65, 66, 67, 68, 69, 70, 71, 72, 73, 74, 75, 76, 77, 78, 79, 80, 81, 82, 83, 84, 85, 86, 87, 88, 89, 90, 91, 92] rfl (by decide +kernel) (by decide +kernel)
set_option maxRecDepth 20000 in
theorem gX12_number_X12_must : GoodIn wsX12_number (wsV RX12 272 RX12 yX12_must wsX12_must) := goodIn_app (goodIn_of _ (by decide +kernel)) ggX12_number_X12_must
set_option maxRecDepth 20000 in
theorem ggX12_number_X12_in : GoodIn wsX12_number wsX12_in := goodIn_r _ [6] (by decide +kernel) (by decide +kernel)
set_option maxRecDepth 20000 in
theorem gX12_number_X12_in : GoodIn wsX12_number (va_wsS RX12 178 yX12_in wsX12_in) := goodIn_app (goodIn_of _ (by decide +kernel)) ggX12_number_X12_in
set_option maxRecDepth 100000 in
set_option maxHeartbeats 4000000 in
theorem ggX12_partAt_X12_isWord : GoodIn wsX12_partAt wsX12_isWord := goodIn_q _ [6] [7, 8, 9, 10, 11, 12, 13, 14, 15, 16, 17, 18, 19, 20, 21, 22, 23, 24, 25, 26, 27, 28, 29, 30, 31, 32, 33, 34, 35, 36, 37, 38, 39, 40, 41, 42, 43, 44, 45, 46, 47, 48, 49, 50, 51, 52, 53, 54, 55, 56, 57, 58, 59, 60, 61, 62, 63, 64, 65, 66, 67, 68] rfl (by decide +kernel) (by decide +kernel)
set_option maxRecDepth 20000 in
theorem gX12_partAt_X12_isWord : GoodIn wsX12_partAt (wsV RX12 295 RX12 yX12_isWord wsX12_isWord) := goodIn_app (goodIn_of _ (by decide +kernel)) ggX12_partAt_X12_isWord
set_option maxRecDepth 100000 in
set_option maxHeartbeats 4000000 in
theorem ggX12_orderPartAt_X12_isWord : GoodIn wsX12_orderPartAt wsX12_isWord := goodIn_q _ [6] [7, 8, 9, 10, 11, 12, 13, 14, 15, 16, 17, 18, 19, 20, 21, 22, 23, 24, 25, 26, 27, 28, 29, 30, 31, 32, 33, 34, 35, 36, 37, 38, 39, 40, 41, 42, 43, 44, 45, 46, 47, 48, 49, 50, 51, 52, 53, 54, 55, 56, 57, 58, 59, 60, 61, 62, 63, 64, 65, 66, 67, 68] rfl (by decide +kernel) (by decide +kernel)
set_option maxRecDepth 20000 in
theorem gX12_orderPartAt_X12_isWord : GoodIn wsX12_orderPartAt (wsV RX12 295 RX12 yX12_isWord wsX12_isWord) := goodIn_app (goodIn_of _ (by decide +kernel)) ggX12_orderPartAt_X12_isWord
set_option maxHeartbeats 4000000 in
set_option maxRecDepth 100000 in
theorem v_isSmall (l : Launch) (D : va_G) (K : Nat → ClassId) (X : Int) (x : Int32) (sz : Nat) (qx : x.toInt = X) : Met l yX12_isSmall wsX12_isSmall ({ frames := 0, cells := 0, slots := 0, locals := 0 }) (va_Pc [.int x] (Pre D K [] sz)) (vp_Si (fun r : Int32 => ((r = 1 ∧ 97 ≤ X ∧ X ≤ 122) ∨ (r = 0 ∧ (X < 97 ∨ 122 < X))) ∧ True)) 0 0 (fun _ => False) := by
  refine Met.ofW (cc := cX12_isSmall) (maxL := 1) (ret := (some .boolean)) (by decide) rfl ?_
  intro p e s m args below meth c s₁ B hml hv
  obtain ⟨rfl, hsz, hP, hK, hD0, hN⟩ := hv
  have hx := B.exec
  have hb := B.bytes
  have hr := B.returns
  have hts := atoms_spec (ws := wsX12_isSmall) B.pre
  have hown : s.vm.findClass RX12 = some m.cls := findClass_of_methodNamed B.named
  have hlocks := B.notSynchronized
  subst hsz
  have hD := hD0
  have hP : va_P D vwCl [] s.heap := hP
  have hl := lv_entry [.int x] (n := 1) (Nat.le_of_ble_eq_true rfl)
  rw [lg_entry_eq]
  generalize (lg_sl [.int x] ++ List.replicate (1 - (lg_sl [.int x]).length) Slot.unset).toArray = ls at hl ⊢
  have hl : lv_has ls 1 [(0, .int x)] := hl
  generalize hQ : MQ below _ _ s _ _ _ = Q
  refine lv_iload_n hx hb dX12_isSmall_0 rfl (lv_at hl 0 rfl) ?_
  refine lv_bipush (v := 97) hx hb dX12_isSmall_1 (by decide) ?_
  refine lv_icmp_lt (tgt := 16) hx hb dX12_isSmall_3 (by decide) (fun c_63 => ?_) (fun c_63 => ?_)
  · have c_63i := i_lt (x := X) (y := 97) qx rfl c_63
    refine lv_iconst (v := 0) hx hb dX12_isSmall_16 (by decide) ?_
    rw [← hQ]
    exact W.zret (v := 0) hx hb hr (by decide) (fun t ht hW => ⟨_, rfl, ⟨(by first | exact Or.inr (⟨rfl, by first | omega | decide | (subst_vars; assumption)⟩)), trivial⟩, ht⟩) (fun q hq => by cases hq) dX12_isSmall_17
  · have c_63i := i_nlt (x := X) (y := 97) qx rfl c_63
    refine lv_iload_n hx hb dX12_isSmall_6 rfl (lv_at hl 0 rfl) ?_
    refine lv_bipush (v := 122) hx hb dX12_isSmall_7 (by decide) ?_
    refine lv_icmp_gt (tgt := 16) hx hb dX12_isSmall_9 (by decide) (fun c_64 => ?_) (fun c_64 => ?_)
    · have c_64i := i_lt (x := 122) (y := X) rfl qx c_64
      refine lv_iconst (v := 0) hx hb dX12_isSmall_16 (by decide) ?_
      rw [← hQ]
      exact W.zret (v := 0) hx hb hr (by decide) (fun t ht hW => ⟨_, rfl, ⟨(by first | exact Or.inr (⟨rfl, by first | omega | decide | (subst_vars; assumption)⟩)), trivial⟩, ht⟩) (fun q hq => by cases hq) dX12_isSmall_17
    · have c_64i := i_nlt (x := 122) (y := X) rfl qx c_64
      refine lv_iconst (v := 1) hx hb dX12_isSmall_12 (by decide) ?_
      refine lv_goto (tgt := 17) hx hb dX12_isSmall_13 (by decide) ?_
      rw [← hQ]
      exact W.zret (v := 1) hx hb hr (by decide) (fun t ht hW => ⟨_, rfl, ⟨(by first | exact Or.inl ⟨rfl, by first | omega | decide | (subst_vars; assumption), by first | omega | decide | (subst_vars; assumption)⟩), trivial⟩, ht⟩) (fun q hq => by cases hq) dX12_isSmall_17
set_option maxHeartbeats 4000000 in
set_option maxRecDepth 100000 in
theorem v_isDigit (l : Launch) (D : va_G) (K : Nat → ClassId) (X : Int) (x : Int32) (sz : Nat) (qx : x.toInt = X) : Met l yX12_isDigit wsX12_isDigit ({ frames := 0, cells := 0, slots := 0, locals := 0 }) (va_Pc [.int x] (Pre D K [] sz)) (vp_Si (fun r : Int32 => ((r = 1 ∧ 48 ≤ X ∧ X ≤ 57) ∨ (r = 0 ∧ (X < 48 ∨ 57 < X))) ∧ True)) 0 0 (fun _ => False) := by
  refine Met.ofW (cc := cX12_isDigit) (maxL := 1) (ret := (some .boolean)) (by decide) rfl ?_
  intro p e s m args below meth c s₁ B hml hv
  obtain ⟨rfl, hsz, hP, hK, hD0, hN⟩ := hv
  have hx := B.exec
  have hb := B.bytes
  have hr := B.returns
  have hts := atoms_spec (ws := wsX12_isDigit) B.pre
  have hown : s.vm.findClass RX12 = some m.cls := findClass_of_methodNamed B.named
  have hlocks := B.notSynchronized
  subst hsz
  have hD := hD0
  have hP : va_P D vwCl [] s.heap := hP
  have hl := lv_entry [.int x] (n := 1) (Nat.le_of_ble_eq_true rfl)
  rw [lg_entry_eq]
  generalize (lg_sl [.int x] ++ List.replicate (1 - (lg_sl [.int x]).length) Slot.unset).toArray = ls at hl ⊢
  have hl : lv_has ls 1 [(0, .int x)] := hl
  generalize hQ : MQ below _ _ s _ _ _ = Q
  refine lv_iload_n hx hb dX12_isDigit_0 rfl (lv_at hl 0 rfl) ?_
  refine lv_bipush (v := 48) hx hb dX12_isDigit_1 (by decide) ?_
  refine lv_icmp_lt (tgt := 16) hx hb dX12_isDigit_3 (by decide) (fun c_63 => ?_) (fun c_63 => ?_)
  · have c_63i := i_lt (x := X) (y := 48) qx rfl c_63
    refine lv_iconst (v := 0) hx hb dX12_isDigit_16 (by decide) ?_
    rw [← hQ]
    exact W.zret (v := 0) hx hb hr (by decide) (fun t ht hW => ⟨_, rfl, ⟨(by first | exact Or.inr (⟨rfl, by first | omega | decide | (subst_vars; assumption)⟩)), trivial⟩, ht⟩) (fun q hq => by cases hq) dX12_isDigit_17
  · have c_63i := i_nlt (x := X) (y := 48) qx rfl c_63
    refine lv_iload_n hx hb dX12_isDigit_6 rfl (lv_at hl 0 rfl) ?_
    refine lv_bipush (v := 57) hx hb dX12_isDigit_7 (by decide) ?_
    refine lv_icmp_gt (tgt := 16) hx hb dX12_isDigit_9 (by decide) (fun c_64 => ?_) (fun c_64 => ?_)
    · have c_64i := i_lt (x := 57) (y := X) rfl qx c_64
      refine lv_iconst (v := 0) hx hb dX12_isDigit_16 (by decide) ?_
      rw [← hQ]
      exact W.zret (v := 0) hx hb hr (by decide) (fun t ht hW => ⟨_, rfl, ⟨(by first | exact Or.inr (⟨rfl, by first | omega | decide | (subst_vars; assumption)⟩)), trivial⟩, ht⟩) (fun q hq => by cases hq) dX12_isDigit_17
    · have c_64i := i_nlt (x := 57) (y := X) rfl qx c_64
      refine lv_iconst (v := 1) hx hb dX12_isDigit_12 (by decide) ?_
      refine lv_goto (tgt := 17) hx hb dX12_isDigit_13 (by decide) ?_
      rw [← hQ]
      exact W.zret (v := 1) hx hb hr (by decide) (fun t ht hW => ⟨_, rfl, ⟨(by first | exact Or.inl ⟨rfl, by first | omega | decide | (subst_vars; assumption), by first | omega | decide | (subst_vars; assumption)⟩), trivial⟩, ht⟩) (fun q hq => by cases hq) dX12_isDigit_17
set_option maxHeartbeats 4000000 in
set_option maxRecDepth 100000 in
theorem v_next (l : Launch) (D : va_G) (K : Nat → ClassId) (m0 : Nat) (m_0 : Value) (m_1 : Value) (m_2 : Value) (m_3 : Value) (m_4 : Value) (m_5 : Value) (m_6 : Value) (m_7 : Value) (m_8 : Value) (m_9 : Value) (m_10 : Value) (m_11 : Value) (t0 : Nat) (ta : Int32) (fr : Int32) (to : Int32) (so : Int32) (wo : Int64) (m_18 : Value) (m_19 : Value) (m_20 : Value) (m_21 : Value) (m_22 : Value) (m_23 : Value) (m_24 : Value) (m_25 : Value) (m_26 : Value) (m_27 : Value) (m_28 : Value) (m_29 : Value) (m_30 : Value) (m_31 : Value) (m_32 : Value) (m_33 : Value) (m_34 : Value) (m_35 : Value) (m_36 : Value) (m_37 : Value) (m_38 : Value) (m_39 : Value) (m_40 : Value) (m_41 : Value) (m_42 : Value) (m_43 : Value) (m_44 : Value) (m_45 : Value) (m_46 : Value) (m_47 : Value) (m_48 : Value) (m_49 : Value) (m_50 : Value) (m_51 : Value) (m_52 : Value) (m_53 : Value) (m_54 : Value) (m_55 : Value) (m_56 : Value) (m_57 : Value) (m_58 : Value) (m_59 : Value) (ft : Nat → Int32) (sz : Nat) (zto : 0 ≤ to.toInt ∧ to.toInt ≤ ta.toInt ∧ ta.toInt ≤ 400) : Met l yX12_next wsX12_next ({ frames := 1, cells := 0, slots := 0, locals := 20 }) (va_Pc [.ref m0] (Pre D K [(m0, .inr (12, [m_0, m_1, m_2, m_3, m_4, m_5, m_6, m_7, m_8, m_9, m_10, m_11, .ref t0, .int ta, .int fr, .int to, .int so, .long wo, m_18, m_19, m_20, m_21, m_22, m_23, m_24, m_25, m_26, m_27, m_28, m_29, m_30, m_31, m_32, m_33, m_34, m_35, m_36, m_37, m_38, m_39, m_40, m_41, m_42, m_43, m_44, m_45, m_46, m_47, m_48, m_49, m_50, m_51, m_52, m_53, m_54, m_55, m_56, m_57, m_58, m_59])), (t0, .inl (K 0, 400, .inl ft))] sz)) (va_Qv (S := Su) (fun (u : Su) => (0 ≤ (u.2.2.2.1 0).toInt ∧ (u.2.2.2.1 0).toInt ≤ 400) ∧ (0 ≤ (u.2.2.2.1 1).toInt ∧ (u.2.2.2.1 1).toInt ≤ 401) ∧ (0 ≤ (u.2.2.2.1 2).toInt ∧ (u.2.2.2.1 2).toInt ≤ 3) ∧ (((0 ≤ (u.2.2.2.1 0).toInt ∧ (u.2.2.2.1 0).toInt ≤ (u.2.2.2.1 1).toInt ∧ (u.2.2.2.1 1).toInt ≤ ta.toInt) ∧ ((u.2.2.2.1 2).toInt = 0 ∨ (u.2.2.2.1 0).toInt < (u.2.2.2.1 1).toInt) ∧ ((u.2.2.2.1 2).toInt ≠ 1 ∨ (u.2.2.2.1 0).toInt + 1 < (u.2.2.2.1 1).toInt ∨ (u.2.2.2.2.1 0).toInt ≤ 26))) ∧ (to.toInt ≤ (u.2.2.2.1 0).toInt) ∧ True) (fun u t => Wd D (va_A [(m0, .inr (12, [m_0, m_1, m_2, m_3, m_4, m_5, m_6, m_7, m_8, m_9, m_10, m_11, .ref t0, .int ta, .int fr, .int to, .int so, .long wo, m_18, m_19, m_20, m_21, m_22, m_23, m_24, m_25, m_26, m_27, m_28, m_29, m_30, m_31, m_32, m_33, m_34, m_35, m_36, m_37, m_38, m_39, m_40, m_41, m_42, m_43, m_44, m_45, m_46, m_47, m_48, m_49, m_50, m_51, m_52, m_53, m_54, m_55, m_56, m_57, m_58, m_59])), (t0, .inl (K 0, 400, .inl ft))] sz) ((fun u => [(m0, .inr (12, [m_0, m_1, m_2, m_3, m_4, m_5, m_6, m_7, m_8, m_9, m_10, m_11, .ref t0, .int ta, .int (u.2.2.2.1 0), .int (u.2.2.2.1 1), .int (u.2.2.2.1 2), .long (u.2.2.2.2.1 0), m_18, m_19, m_20, m_21, m_22, m_23, m_24, m_25, m_26, m_27, m_28, m_29, m_30, m_31, m_32, m_33, m_34, m_35, m_36, m_37, m_38, m_39, m_40, m_41, m_42, m_43, m_44, m_45, m_46, m_47, m_48, m_49, m_50, m_51, m_52, m_53, m_54, m_55, m_56, m_57, m_58, m_59])), (t0, .inl (K 0, 400, .inl ft))]) u) t) (va_A [(m0, .inr (12, [m_0, m_1, m_2, m_3, m_4, m_5, m_6, m_7, m_8, m_9, m_10, m_11, .ref t0, .int ta, .int fr, .int to, .int so, .long wo, m_18, m_19, m_20, m_21, m_22, m_23, m_24, m_25, m_26, m_27, m_28, m_29, m_30, m_31, m_32, m_33, m_34, m_35, m_36, m_37, m_38, m_39, m_40, m_41, m_42, m_43, m_44, m_45, m_46, m_47, m_48, m_49, m_50, m_51, m_52, m_53, m_54, m_55, m_56, m_57, m_58, m_59])), (t0, .inl (K 0, 400, .inl ft))] sz)) 0 0 (va_A [(m0, .inr (12, [m_0, m_1, m_2, m_3, m_4, m_5, m_6, m_7, m_8, m_9, m_10, m_11, .ref t0, .int ta, .int fr, .int to, .int so, .long wo, m_18, m_19, m_20, m_21, m_22, m_23, m_24, m_25, m_26, m_27, m_28, m_29, m_30, m_31, m_32, m_33, m_34, m_35, m_36, m_37, m_38, m_39, m_40, m_41, m_42, m_43, m_44, m_45, m_46, m_47, m_48, m_49, m_50, m_51, m_52, m_53, m_54, m_55, m_56, m_57, m_58, m_59])), (t0, .inl (K 0, 400, .inl ft))] sz) := by
  refine Met.ofW (cc := cX12_next) (maxL := 1) (ret := none) (by decide) rfl ?_
  intro p e s m args below meth c s₁ B hml hv
  obtain ⟨rfl, hsz, hP, hK, hD0, hN⟩ := hv
  have hx := B.exec
  have hb := B.bytes
  have hr := B.returns
  have hts := atoms_spec (ws := wsX12_next) B.pre
  have hown : s.vm.findClass RX12 = some m.cls := findClass_of_methodNamed B.named
  have hlocks := B.notSynchronized
  subst hsz
  have hD := hD0.self (sz := s.heap.size)
  generalize hAe : va_A [(m0, .inr (12, [m_0, m_1, m_2, m_3, m_4, m_5, m_6, m_7, m_8, m_9, m_10, m_11, .ref t0, .int ta, .int fr, .int to, .int so, .long wo, m_18, m_19, m_20, m_21, m_22, m_23, m_24, m_25, m_26, m_27, m_28, m_29, m_30, m_31, m_32, m_33, m_34, m_35, m_36, m_37, m_38, m_39, m_40, m_41, m_42, m_43, m_44, m_45, m_46, m_47, m_48, m_49, m_50, m_51, m_52, m_53, m_54, m_55, m_56, m_57, m_58, m_59])), (t0, .inl (K 0, 400, .inl ft))] s.heap.size = A at hD ⊢
  have hA : ∀ q : Nat, s.heap.size ≤ q → A q := fun q h => by rw [← hAe]; exact Or.inr h
  have hS : va_S A s.heap s.heap [] := va_S.rf
  have hP : va_P D vwCl [(m0, .inr (12, [m_0, m_1, m_2, m_3, m_4, m_5, m_6, m_7, m_8, m_9, m_10, m_11, .ref t0, .int ta, .int fr, .int to, .int so, .long wo, m_18, m_19, m_20, m_21, m_22, m_23, m_24, m_25, m_26, m_27, m_28, m_29, m_30, m_31, m_32, m_33, m_34, m_35, m_36, m_37, m_38, m_39, m_40, m_41, m_42, m_43, m_44, m_45, m_46, m_47, m_48, m_49, m_50, m_51, m_52, m_53, m_54, m_55, m_56, m_57, m_58, m_59])), (t0, .inl (K 0, 400, .inl ft))] s.heap := hP
  have hl := lv_entry [.ref m0] (n := 1) (Nat.le_of_ble_eq_true rfl)
  rw [lg_entry_eq]
  generalize (lg_sl [.ref m0] ++ List.replicate (1 - (lg_sl [.ref m0]).length) Slot.unset).toArray = ls at hl ⊢
  have hl : lv_has ls 1 [(0, .ref m0)] := hl
  have hw12 : ∀ w ∈ wsX120, w ∈ wsX12_next := fun w h => (List.mem_cons_of_mem _ (List.mem_append_right _ h))
  generalize hQ : MQ below _ _ s _ _ _ = Q
  refine lv_aload_n hx hb dX12_next_0 rfl (lv_at hl 0 rfl) ?_
  refine lv_aload_n hx hb dX12_next_1 rfl (lv_at hl 0 rfl) ?_
  refine va_get (ci := 12) (v := .int to) (C := RX12) (T := TX12) (N := 60) hx hb hts hw12 hown hK hP 0 rfl rfl 15 (by decide) (hts (.fieldLink RX12 236 "SmokeTuneModel" "to" "I") (List.mem_cons_of_mem _ (List.mem_append_left _ (List.mem_of_getElem? (i := 0) rfl)))) (fun _ h9 => h9) rfl dX12_next_2 ?_
  refine va_put (ci := 12) (v := .int to) (ty := .int) (C := RX12) (T := TX12) (N := 60) hx hb hts hw12 tyX12 tyX12_ok nmX12 hown hK hP hD hS 0 rfl rfl 14 (by decide) (hts (.fieldLink RX12 246 "SmokeTuneModel" "from" "I") (List.mem_cons_of_mem _ (List.mem_append_left _ (List.mem_of_getElem? (i := 1) rfl)))) (fun _ h9 => h9) rfl (by decide +kernel) (by first | rfl | decide) (by first | rfl | decide) (Nat.le_of_ble_eq_true rfl) dX12_next_5 (fun H locs hP hD hS => ?_)
  have hP : va_P D vwCl [(m0, .inr (12, [m_0, m_1, m_2, m_3, m_4, m_5, m_6, m_7, m_8, m_9, m_10, m_11, .ref t0, .int ta, .int to, .int to, .int so, .long wo, m_18, m_19, m_20, m_21, m_22, m_23, m_24, m_25, m_26, m_27, m_28, m_29, m_30, m_31, m_32, m_33, m_34, m_35, m_36, m_37, m_38, m_39, m_40, m_41, m_42, m_43, m_44, m_45, m_46, m_47, m_48, m_49, m_50, m_51, m_52, m_53, m_54, m_55, m_56, m_57, m_58, m_59])), (t0, .inl (K 0, 400, .inl ft))] H := hP
  have hD : va_D A [(m0, .inr (12, [m_0, m_1, m_2, m_3, m_4, m_5, m_6, m_7, m_8, m_9, m_10, m_11, .ref t0, .int ta, .int to, .int to, .int so, .long wo, m_18, m_19, m_20, m_21, m_22, m_23, m_24, m_25, m_26, m_27, m_28, m_29, m_30, m_31, m_32, m_33, m_34, m_35, m_36, m_37, m_38, m_39, m_40, m_41, m_42, m_43, m_44, m_45, m_46, m_47, m_48, m_49, m_50, m_51, m_52, m_53, m_54, m_55, m_56, m_57, m_58, m_59])), (t0, .inl (K 0, 400, .inl ft))] := hD
  have lp_1862 : ∀ (nn_ : Nat) (v_1852 : Int32) (hv_1852 : 0 ≤ v_1852.toInt ∧ v_1852.toInt ≤ 400) (hr0_lp_1862 : to.toInt ≤ v_1852.toInt ∧ v_1852.toInt ≤ ta.toInt) (hn : (ta.toInt - v_1852.toInt : Int).toNat < nn_) (H : Heap) (locs : List Loc) (hP : va_P D vwCl [(m0, .inr (12, [m_0, m_1, m_2, m_3, m_4, m_5, m_6, m_7, m_8, m_9, m_10, m_11, .ref t0, .int ta, .int v_1852, .int to, .int so, .long wo, m_18, m_19, m_20, m_21, m_22, m_23, m_24, m_25, m_26, m_27, m_28, m_29, m_30, m_31, m_32, m_33, m_34, m_35, m_36, m_37, m_38, m_39, m_40, m_41, m_42, m_43, m_44, m_45, m_46, m_47, m_48, m_49, m_50, m_51, m_52, m_53, m_54, m_55, m_56, m_57, m_58, m_59])), (t0, .inl (K 0, 400, .inl ft))] H) (hD : va_D A [(m0, .inr (12, [m_0, m_1, m_2, m_3, m_4, m_5, m_6, m_7, m_8, m_9, m_10, m_11, .ref t0, .int ta, .int v_1852, .int to, .int so, .long wo, m_18, m_19, m_20, m_21, m_22, m_23, m_24, m_25, m_26, m_27, m_28, m_29, m_30, m_31, m_32, m_33, m_34, m_35, m_36, m_37, m_38, m_39, m_40, m_41, m_42, m_43, m_44, m_45, m_46, m_47, m_48, m_49, m_50, m_51, m_52, m_53, m_54, m_55, m_56, m_57, m_58, m_59])), (t0, .inl (K 0, 400, .inl ft))]) (hS : va_S A s.heap H locs) (ls : Array Slot) (hl : lv_has ls 1 [(0, .ref m0)]), W p l e ({ frames := 1, cells := 0, slots := 0, locals := 20 }) s m (([.ref m0] : List Value).toArray) below meth c H locs 0 0 Q (F0 m 8 ls []) := by
    intro nn_
    induction nn_ with
    | zero =>
      intro v_1852 hv_1852 hr0_lp_1862 hn H locs hP hD hS ls hl
      exact absurd hn (Nat.not_lt_zero _)
    | succ nn_ ih_1863 =>
      intro v_1852 hv_1852 hr0_lp_1862 hn H locs hP hD hS ls hl
      refine lv_aload_n hx hb dX12_next_8 rfl (lv_at hl 0 rfl) ?_
      refine va_get (ci := 12) (v := .int v_1852) (C := RX12) (T := TX12) (N := 60) hx hb hts hw12 hown hK hP 0 rfl rfl 14 (by decide) (hts (.fieldLink RX12 246 "SmokeTuneModel" "from" "I") (List.mem_cons_of_mem _ (List.mem_append_left _ (List.mem_of_getElem? (i := 1) rfl)))) (fun _ h9 => h9) rfl dX12_next_9 ?_
      refine lv_aload_n hx hb dX12_next_12 rfl (lv_at hl 0 rfl) ?_
      refine va_get (ci := 12) (v := .int ta) (C := RX12) (T := TX12) (N := 60) hx hb hts hw12 hown hK hP 0 rfl rfl 13 (by decide) (hts (.fieldLink RX12 227 "SmokeTuneModel" "taped" "I") (List.mem_cons_of_mem _ (List.mem_append_left _ (List.mem_of_getElem? (i := 2) rfl)))) (fun _ h9 => h9) rfl dX12_next_13 ?_
      refine lv_icmp_ge (tgt := 46) hx hb dX12_next_16 (by decide) (fun c_1864 => ?_) (fun c_1864 => ?_)
      · have c_1864i := i_le (x := ta.toInt) (y := v_1852.toInt) rfl rfl c_1864
        refine lv_aload_n hx hb dX12_next_46 rfl (lv_at hl 0 rfl) ?_
        refine lv_aload_n hx hb dX12_next_47 rfl (lv_at hl 0 rfl) ?_
        refine va_get (ci := 12) (v := .int v_1852) (C := RX12) (T := TX12) (N := 60) hx hb hts hw12 hown hK hP 0 rfl rfl 14 (by decide) (hts (.fieldLink RX12 246 "SmokeTuneModel" "from" "I") (List.mem_cons_of_mem _ (List.mem_append_left _ (List.mem_of_getElem? (i := 1) rfl)))) (fun _ h9 => h9) rfl dX12_next_48 ?_
        refine va_put (ci := 12) (v := .int v_1852) (ty := .int) (C := RX12) (T := TX12) (N := 60) hx hb hts hw12 tyX12 tyX12_ok nmX12 hown hK hP hD hS 0 rfl rfl 15 (by decide) (hts (.fieldLink RX12 236 "SmokeTuneModel" "to" "I") (List.mem_cons_of_mem _ (List.mem_append_left _ (List.mem_of_getElem? (i := 0) rfl)))) (fun _ h9 => h9) rfl (by decide +kernel) (by first | rfl | decide) (by first | rfl | decide) (Nat.le_of_ble_eq_true rfl) dX12_next_51 (fun H locs hP hD hS => ?_)
        have hP : va_P D vwCl [(m0, .inr (12, [m_0, m_1, m_2, m_3, m_4, m_5, m_6, m_7, m_8, m_9, m_10, m_11, .ref t0, .int ta, .int v_1852, .int v_1852, .int so, .long wo, m_18, m_19, m_20, m_21, m_22, m_23, m_24, m_25, m_26, m_27, m_28, m_29, m_30, m_31, m_32, m_33, m_34, m_35, m_36, m_37, m_38, m_39, m_40, m_41, m_42, m_43, m_44, m_45, m_46, m_47, m_48, m_49, m_50, m_51, m_52, m_53, m_54, m_55, m_56, m_57, m_58, m_59])), (t0, .inl (K 0, 400, .inl ft))] H := hP
        have hD : va_D A [(m0, .inr (12, [m_0, m_1, m_2, m_3, m_4, m_5, m_6, m_7, m_8, m_9, m_10, m_11, .ref t0, .int ta, .int v_1852, .int v_1852, .int so, .long wo, m_18, m_19, m_20, m_21, m_22, m_23, m_24, m_25, m_26, m_27, m_28, m_29, m_30, m_31, m_32, m_33, m_34, m_35, m_36, m_37, m_38, m_39, m_40, m_41, m_42, m_43, m_44, m_45, m_46, m_47, m_48, m_49, m_50, m_51, m_52, m_53, m_54, m_55, m_56, m_57, m_58, m_59])), (t0, .inl (K 0, 400, .inl ft))] := hD
        refine lv_aload_n hx hb dX12_next_54 rfl (lv_at hl 0 rfl) ?_
        refine lv_lconst (v := 0) hx hb dX12_next_55 (by decide) ?_
        refine va_put (ci := 12) (v := .long 0) (ty := .long) (C := RX12) (T := TX12) (N := 60) hx hb hts hw12 tyX12 tyX12_ok nmX12 hown hK hP hD hS 0 rfl rfl 17 (by decide) (hts (.fieldLink RX12 249 "SmokeTuneModel" "worth" "J") (List.mem_cons_of_mem _ (List.mem_append_left _ (List.mem_of_getElem? (i := 4) rfl)))) (fun _ h9 => h9) rfl (by decide +kernel) (by first | rfl | decide) (by first | rfl | decide) (Nat.le_of_ble_eq_true rfl) dX12_next_56 (fun H locs hP hD hS => ?_)
        have hP : va_P D vwCl [(m0, .inr (12, [m_0, m_1, m_2, m_3, m_4, m_5, m_6, m_7, m_8, m_9, m_10, m_11, .ref t0, .int ta, .int v_1852, .int v_1852, .int so, .long 0, m_18, m_19, m_20, m_21, m_22, m_23, m_24, m_25, m_26, m_27, m_28, m_29, m_30, m_31, m_32, m_33, m_34, m_35, m_36, m_37, m_38, m_39, m_40, m_41, m_42, m_43, m_44, m_45, m_46, m_47, m_48, m_49, m_50, m_51, m_52, m_53, m_54, m_55, m_56, m_57, m_58, m_59])), (t0, .inl (K 0, 400, .inl ft))] H := hP
        have hD : va_D A [(m0, .inr (12, [m_0, m_1, m_2, m_3, m_4, m_5, m_6, m_7, m_8, m_9, m_10, m_11, .ref t0, .int ta, .int v_1852, .int v_1852, .int so, .long 0, m_18, m_19, m_20, m_21, m_22, m_23, m_24, m_25, m_26, m_27, m_28, m_29, m_30, m_31, m_32, m_33, m_34, m_35, m_36, m_37, m_38, m_39, m_40, m_41, m_42, m_43, m_44, m_45, m_46, m_47, m_48, m_49, m_50, m_51, m_52, m_53, m_54, m_55, m_56, m_57, m_58, m_59])), (t0, .inl (K 0, 400, .inl ft))] := hD
        refine lv_aload_n hx hb dX12_next_59 rfl (lv_at hl 0 rfl) ?_
        refine lv_aload_n hx hb dX12_next_60 rfl (lv_at hl 0 rfl) ?_
        refine va_get (ci := 12) (v := .int v_1852) (C := RX12) (T := TX12) (N := 60) hx hb hts hw12 hown hK hP 0 rfl rfl 14 (by decide) (hts (.fieldLink RX12 246 "SmokeTuneModel" "from" "I") (List.mem_cons_of_mem _ (List.mem_append_left _ (List.mem_of_getElem? (i := 1) rfl)))) (fun _ h9 => h9) rfl dX12_next_61 ?_
        refine lv_aload_n hx hb dX12_next_64 rfl (lv_at hl 0 rfl) ?_
        refine va_get (ci := 12) (v := .int ta) (C := RX12) (T := TX12) (N := 60) hx hb hts hw12 hown hK hP 0 rfl rfl 13 (by decide) (hts (.fieldLink RX12 227 "SmokeTuneModel" "taped" "I") (List.mem_cons_of_mem _ (List.mem_append_left _ (List.mem_of_getElem? (i := 2) rfl)))) (fun _ h9 => h9) rfl dX12_next_65 ?_
        refine lv_icmp_ne (tgt := 75) hx hb dX12_next_68 (by decide) (fun c_1865 => ?_) (fun c_1865 => ?_)
        · have c_1865i := i_ne (x := v_1852.toInt) (y := ta.toInt) rfl rfl c_1865
          refine lv_aload_n hx hb dX12_next_75 rfl (lv_at hl 0 rfl) ?_
          refine va_get (ci := 12) (v := .ref t0) (C := RX12) (T := TX12) (N := 60) hx hb hts hw12 hown hK hP 0 rfl rfl 12 (by decide) (hts (.fieldLink RX12 35 "SmokeTuneModel" "tape" "[I") (List.mem_cons_of_mem _ (List.mem_append_left _ (List.mem_of_getElem? (i := 3) rfl)))) (fun _ h9 => h9) rfl dX12_next_76 ?_
          refine lv_aload_n hx hb dX12_next_79 rfl (lv_at hl 0 rfl) ?_
          refine va_get (ci := 12) (v := .int v_1852) (C := RX12) (T := TX12) (N := 60) hx hb hts hw12 hown hK hP 0 rfl rfl 14 (by decide) (hts (.fieldLink RX12 246 "SmokeTuneModel" "from" "I") (List.mem_cons_of_mem _ (List.mem_append_left _ (List.mem_of_getElem? (i := 1) rfl)))) (fun _ h9 => h9) rfl dX12_next_80 ?_
          refine va_iald hx hb hK hP 1 0 rfl rfl (i_in rfl (by omega)) dX12_next_83 ?_
          refine lv_topi (fun x_1866 ex_1866 => ?_)
          have kx_1866 : ft (v_1852.toInt).toNat = x_1866 := by rw [ex_1866, i_clamp rfl]
          refine pci (va_runS (As := [.int x_1866]) (rest := [.ref m0]) ⟨hx, hb, hml, hown, hts⟩ (v_isSmall l D K x_1866.toInt x_1866 H.size rfl) (va_cwS 1 hts gX12_next_X12_isSmall rfl rfl rfl (by decide +kernel) ⟨Nat.le_of_ble_eq_true rfl, Nat.le_of_ble_eq_true rfl⟩) (mkS hK hN (va_P.nil) (va_D.nil (A := fun _ => True))) rfl rfl hl.1 rfl (lv_room (Nat.le_of_ble_eq_true rfl)) dX12_next_84 ⟨Nat.le_of_ble_eq_true rfl, Nat.le_of_ble_eq_true rfl⟩) (fun r_1867 hw => ?_)
          obtain ⟨hw, -⟩ := hw
          rcases hw with ⟨rfl, h_1868, h_1869⟩ | ⟨rfl, h_1870⟩
          · refine lv_if_eq (tgt := 94) hx hb dX12_next_87 (by decide) (fun c_1871 => absurd c_1871 (by decide)) (fun c_1871 => ?_)
            refine lv_iconst (v := 1) hx hb dX12_next_90 (by decide) ?_
            refine lv_goto (tgt := 114) hx hb dX12_next_91 (by decide) ?_
            refine va_put (ci := 12) (v := .int 1) (ty := .int) (C := RX12) (T := TX12) (N := 60) hx hb hts hw12 tyX12 tyX12_ok nmX12 hown hK hP hD hS 0 rfl rfl 16 (by decide) (hts (.fieldLink RX12 259 "SmokeTuneModel" "sort" "I") (List.mem_cons_of_mem _ (List.mem_append_left _ (List.mem_of_getElem? (i := 5) rfl)))) (fun _ h9 => h9) rfl (by decide +kernel) (by first | rfl | decide) (by first | rfl | decide) (Nat.le_of_ble_eq_true rfl) dX12_next_114 (fun H locs hP hD hS => ?_)
            have hP : va_P D vwCl [(m0, .inr (12, [m_0, m_1, m_2, m_3, m_4, m_5, m_6, m_7, m_8, m_9, m_10, m_11, .ref t0, .int ta, .int v_1852, .int v_1852, .int 1, .long 0, m_18, m_19, m_20, m_21, m_22, m_23, m_24, m_25, m_26, m_27, m_28, m_29, m_30, m_31, m_32, m_33, m_34, m_35, m_36, m_37, m_38, m_39, m_40, m_41, m_42, m_43, m_44, m_45, m_46, m_47, m_48, m_49, m_50, m_51, m_52, m_53, m_54, m_55, m_56, m_57, m_58, m_59])), (t0, .inl (K 0, 400, .inl ft))] H := hP
            have hD : va_D A [(m0, .inr (12, [m_0, m_1, m_2, m_3, m_4, m_5, m_6, m_7, m_8, m_9, m_10, m_11, .ref t0, .int ta, .int v_1852, .int v_1852, .int 1, .long 0, m_18, m_19, m_20, m_21, m_22, m_23, m_24, m_25, m_26, m_27, m_28, m_29, m_30, m_31, m_32, m_33, m_34, m_35, m_36, m_37, m_38, m_39, m_40, m_41, m_42, m_43, m_44, m_45, m_46, m_47, m_48, m_49, m_50, m_51, m_52, m_53, m_54, m_55, m_56, m_57, m_58, m_59])), (t0, .inl (K 0, 400, .inl ft))] := hD
            refine lv_aload_n hx hb dX12_next_117 rfl (lv_at hl 0 rfl) ?_
            refine va_get (ci := 12) (v := .int 1) (C := RX12) (T := TX12) (N := 60) hx hb hts hw12 hown hK hP 0 rfl rfl 16 (by decide) (hts (.fieldLink RX12 259 "SmokeTuneModel" "sort" "I") (List.mem_cons_of_mem _ (List.mem_append_left _ (List.mem_of_getElem? (i := 5) rfl)))) (fun _ h9 => h9) rfl dX12_next_118 ?_
            refine lv_iconst (v := 3) hx hb dX12_next_121 (by decide) ?_
            refine lv_icmp_ne (tgt := 149) hx hb dX12_next_122 (by decide) (fun c_1872 => ?_) (fun c_1872 => absurd c_1872 (by decide))
            refine lv_aload_n hx hb dX12_next_149 rfl (lv_at hl 0 rfl) ?_
            refine va_get (ci := 12) (v := .int 1) (C := RX12) (T := TX12) (N := 60) hx hb hts hw12 hown hK hP 0 rfl rfl 16 (by decide) (hts (.fieldLink RX12 259 "SmokeTuneModel" "sort" "I") (List.mem_cons_of_mem _ (List.mem_append_left _ (List.mem_of_getElem? (i := 5) rfl)))) (fun _ h9 => h9) rfl dX12_next_150 ?_
            refine lv_iconst (v := 1) hx hb dX12_next_153 (by decide) ?_
            refine lv_icmp_ne (tgt := 243) hx hb dX12_next_154 (by decide) (fun c_1873 => absurd (by decide) c_1873) (fun c_1873 => ?_)
            refine lv_aload_n hx hb dX12_next_157 rfl (lv_at hl 0 rfl) ?_
            refine va_get (ci := 12) (v := .int v_1852) (C := RX12) (T := TX12) (N := 60) hx hb hts hw12 hown hK hP 0 rfl rfl 15 (by decide) (hts (.fieldLink RX12 236 "SmokeTuneModel" "to" "I") (List.mem_cons_of_mem _ (List.mem_append_left _ (List.mem_of_getElem? (i := 0) rfl)))) (fun _ h9 => h9) rfl dX12_next_158 ?_
            refine lv_aload_n hx hb dX12_next_161 rfl (lv_at hl 0 rfl) ?_
            refine va_get (ci := 12) (v := .int ta) (C := RX12) (T := TX12) (N := 60) hx hb hts hw12 hown hK hP 0 rfl rfl 13 (by decide) (hts (.fieldLink RX12 227 "SmokeTuneModel" "taped" "I") (List.mem_cons_of_mem _ (List.mem_append_left _ (List.mem_of_getElem? (i := 2) rfl)))) (fun _ h9 => h9) rfl dX12_next_162 ?_
            refine lv_icmp_ge (tgt := 243) hx hb dX12_next_165 (by decide) (fun c_1874 => ?_) (fun c_1874 => ?_)
            · have c_1874i := i_le (x := ta.toInt) (y := v_1852.toInt) rfl rfl c_1874
              refine lv_aload_n hx hb dX12_next_243 rfl (lv_at hl 0 rfl) ?_
              refine va_get (ci := 12) (v := .int 1) (C := RX12) (T := TX12) (N := 60) hx hb hts hw12 hown hK hP 0 rfl rfl 16 (by decide) (hts (.fieldLink RX12 259 "SmokeTuneModel" "sort" "I") (List.mem_cons_of_mem _ (List.mem_append_left _ (List.mem_of_getElem? (i := 5) rfl)))) (fun _ h9 => h9) rfl dX12_next_244 ?_
              refine lv_iconst (v := 2) hx hb dX12_next_247 (by decide) ?_
              refine lv_icmp_ne (tgt := 335) hx hb dX12_next_248 (by decide) (fun c_1875 => ?_) (fun c_1875 => absurd c_1875 (by decide))
              rw [← hQ]
              have hP9 := hP.sub (ws' := [(m0, .inr (12, [m_0, m_1, m_2, m_3, m_4, m_5, m_6, m_7, m_8, m_9, m_10, m_11, .ref t0, .int ta, .int v_1852, .int v_1852, .int 1, .long 0, m_18, m_19, m_20, m_21, m_22, m_23, m_24, m_25, m_26, m_27, m_28, m_29, m_30, m_31, m_32, m_33, m_34, m_35, m_36, m_37, m_38, m_39, m_40, m_41, m_42, m_43, m_44, m_45, m_46, m_47, m_48, m_49, m_50, m_51, m_52, m_53, m_54, m_55, m_56, m_57, m_58, m_59])), (t0, .inl (K 0, 400, .inl ft))]) [0, 1] rfl
              have hD9 := hD.sub (ws' := [(m0, .inr (12, [m_0, m_1, m_2, m_3, m_4, m_5, m_6, m_7, m_8, m_9, m_10, m_11, .ref t0, .int ta, .int v_1852, .int v_1852, .int 1, .long 0, m_18, m_19, m_20, m_21, m_22, m_23, m_24, m_25, m_26, m_27, m_28, m_29, m_30, m_31, m_32, m_33, m_34, m_35, m_36, m_37, m_38, m_39, m_40, m_41, m_42, m_43, m_44, m_45, m_46, m_47, m_48, m_49, m_50, m_51, m_52, m_53, m_54, m_55, m_56, m_57, m_58, m_59])), (t0, .inl (K 0, 400, .inl ft))]) [0, 1] (by decide) rfl
              exact W.vret hx hb hr (fun t ht hW => ⟨⟨((fun _ => 0, fun _ => fun _ => 0, fun _ => fun _ => 0, fun i => match i with | 0 => v_1852 | 1 => v_1852 | _ => 1, fun i => match i with | _ => 0, fun _ => fun _ => none) : Su), rfl, ⟨(show 0 ≤ (v_1852 : Int32).toInt ∧ (v_1852 : Int32).toInt ≤ 400 by omega), (show 0 ≤ (v_1852 : Int32).toInt ∧ (v_1852 : Int32).toInt ≤ 401 by omega), (show 0 ≤ (1 : Int32).toInt ∧ (1 : Int32).toInt ≤ 3 by decide), (show ((0 ≤ (v_1852 : Int32).toInt ∧ (v_1852 : Int32).toInt ≤ (v_1852 : Int32).toInt ∧ (v_1852 : Int32).toInt ≤ ta.toInt) ∧ (1 = 0 ∨ (v_1852 : Int32).toInt < (v_1852 : Int32).toInt) ∧ (1 ≠ 1 ∨ (v_1852 : Int32).toInt + 1 < (v_1852 : Int32).toInt ∨ 0 ≤ 26)) by omega), (show to.toInt ≤ (v_1852 : Int32).toInt by omega), trivial⟩, (⟨by rw [ht]; exact hP9, hD9⟩ : Wd D A _ t)⟩, hS.F ht⟩) hS.2.2 dX12_next_335
            · have c_1874i := i_nle (x := ta.toInt) (y := v_1852.toInt) rfl rfl c_1874
              refine lv_aload_n hx hb dX12_next_168 rfl (lv_at hl 0 rfl) ?_
              refine va_get (ci := 12) (v := .ref t0) (C := RX12) (T := TX12) (N := 60) hx hb hts hw12 hown hK hP 0 rfl rfl 12 (by decide) (hts (.fieldLink RX12 35 "SmokeTuneModel" "tape" "[I") (List.mem_cons_of_mem _ (List.mem_append_left _ (List.mem_of_getElem? (i := 3) rfl)))) (fun _ h9 => h9) rfl dX12_next_169 ?_
              refine lv_aload_n hx hb dX12_next_172 rfl (lv_at hl 0 rfl) ?_
              refine va_get (ci := 12) (v := .int v_1852) (C := RX12) (T := TX12) (N := 60) hx hb hts hw12 hown hK hP 0 rfl rfl 15 (by decide) (hts (.fieldLink RX12 236 "SmokeTuneModel" "to" "I") (List.mem_cons_of_mem _ (List.mem_append_left _ (List.mem_of_getElem? (i := 0) rfl)))) (fun _ h9 => h9) rfl dX12_next_173 ?_
              refine va_iald hx hb hK hP 1 0 rfl rfl (i_in rfl (by omega)) dX12_next_176 ?_
              refine lv_topi (fun x_1876 ex_1876 => ?_)
              have erx_1876 : x_1876 = x_1866 := ex_1876.trans (by rw [i_clamp rfl]; exact kx_1866)
              have hrx_1876 : x_1876.toInt = x_1866.toInt := (congrArg Int32.toInt erx_1876).trans rfl
              refine pci (va_runS (As := [.int x_1876]) (rest := []) ⟨hx, hb, hml, hown, hts⟩ (v_isSmall l D K x_1866.toInt x_1876 H.size hrx_1876) (va_cwS 1 hts gX12_next_X12_isSmall rfl rfl rfl (by decide +kernel) ⟨Nat.le_of_ble_eq_true rfl, Nat.le_of_ble_eq_true rfl⟩) (mkS hK hN (va_P.nil) (va_D.nil (A := fun _ => True))) rfl rfl hl.1 rfl (lv_room (Nat.le_of_ble_eq_true rfl)) dX12_next_177 ⟨Nat.le_of_ble_eq_true rfl, Nat.le_of_ble_eq_true rfl⟩) (fun r_1877 hw => ?_)
              obtain ⟨hw, -⟩ := hw
              rcases hw with ⟨rfl, h_1878, h_1879⟩ | ⟨rfl, h_1880⟩
              · refine lv_if_eq (tgt := 243) hx hb dX12_next_180 (by decide) (fun c_1881 => absurd c_1881 (by decide)) (fun c_1881 => ?_)
                refine lv_aload_n hx hb dX12_next_183 rfl (lv_at hl 0 rfl) ?_
                refine lv_aload_n hx hb dX12_next_184 rfl (lv_at hl 0 rfl) ?_
                refine va_get (ci := 12) (v := .int v_1852) (C := RX12) (T := TX12) (N := 60) hx hb hts hw12 hown hK hP 0 rfl rfl 15 (by decide) (hts (.fieldLink RX12 236 "SmokeTuneModel" "to" "I") (List.mem_cons_of_mem _ (List.mem_append_left _ (List.mem_of_getElem? (i := 0) rfl)))) (fun _ h9 => h9) rfl dX12_next_185 ?_
                refine lv_aload_n hx hb dX12_next_188 rfl (lv_at hl 0 rfl) ?_
                refine va_get (ci := 12) (v := .int v_1852) (C := RX12) (T := TX12) (N := 60) hx hb hts hw12 hown hK hP 0 rfl rfl 14 (by decide) (hts (.fieldLink RX12 246 "SmokeTuneModel" "from" "I") (List.mem_cons_of_mem _ (List.mem_append_left _ (List.mem_of_getElem? (i := 1) rfl)))) (fun _ h9 => h9) rfl dX12_next_189 ?_
                refine lv_isub hx hb dX12_next_192 ?_
                refine lv_topi (fun x_1882 ex_1882 => ?_)
                have hx_1882 : x_1882.toInt = (v_1852.toInt - v_1852.toInt) := by rw [ex_1882]; exact i_sub rfl rfl (by omega)
                refine lv_bipush (v := 10) hx hb dX12_next_193 (by decide) ?_
                refine lv_icmp_ge (tgt := 224) hx hb dX12_next_195 (by decide) (fun c_1883 => ?_) (fun c_1883 => ?_)
                · have c_1883i := i_le (x := 10) (y := (v_1852.toInt - v_1852.toInt)) rfl hx_1882 c_1883
                  refine lv_ldc2 (v := (-1)) hx hb hown (hts (.constantLong RX12 266 (-1)) (List.mem_cons_of_mem _ (List.mem_append_left _ (List.mem_of_getElem? (i := 8) rfl)))) dX12_next_224 ?_
                  refine va_put (ci := 12) (v := .long (-1)) (ty := .long) (C := RX12) (T := TX12) (N := 60) hx hb hts hw12 tyX12 tyX12_ok nmX12 hown hK hP hD hS 0 rfl rfl 17 (by decide) (hts (.fieldLink RX12 249 "SmokeTuneModel" "worth" "J") (List.mem_cons_of_mem _ (List.mem_append_left _ (List.mem_of_getElem? (i := 4) rfl)))) (fun _ h9 => h9) rfl (by decide +kernel) (by first | rfl | decide) (by first | rfl | decide) (Nat.le_of_ble_eq_true rfl) dX12_next_227 (fun H locs hP hD hS => ?_)
                  have hP : va_P D vwCl [(m0, .inr (12, [m_0, m_1, m_2, m_3, m_4, m_5, m_6, m_7, m_8, m_9, m_10, m_11, .ref t0, .int ta, .int v_1852, .int v_1852, .int 1, .long (-1), m_18, m_19, m_20, m_21, m_22, m_23, m_24, m_25, m_26, m_27, m_28, m_29, m_30, m_31, m_32, m_33, m_34, m_35, m_36, m_37, m_38, m_39, m_40, m_41, m_42, m_43, m_44, m_45, m_46, m_47, m_48, m_49, m_50, m_51, m_52, m_53, m_54, m_55, m_56, m_57, m_58, m_59])), (t0, .inl (K 0, 400, .inl ft))] H := hP
                  have hD : va_D A [(m0, .inr (12, [m_0, m_1, m_2, m_3, m_4, m_5, m_6, m_7, m_8, m_9, m_10, m_11, .ref t0, .int ta, .int v_1852, .int v_1852, .int 1, .long (-1), m_18, m_19, m_20, m_21, m_22, m_23, m_24, m_25, m_26, m_27, m_28, m_29, m_30, m_31, m_32, m_33, m_34, m_35, m_36, m_37, m_38, m_39, m_40, m_41, m_42, m_43, m_44, m_45, m_46, m_47, m_48, m_49, m_50, m_51, m_52, m_53, m_54, m_55, m_56, m_57, m_58, m_59])), (t0, .inl (K 0, 400, .inl ft))] := hD
                  refine lv_aload_n hx hb dX12_next_230 rfl (lv_at hl 0 rfl) ?_
                  refine lv_dup hx hb dX12_next_231 rfl ?_
                  refine va_get (ci := 12) (v := .int v_1852) (C := RX12) (T := TX12) (N := 60) hx hb hts hw12 hown hK hP 0 rfl rfl 15 (by decide) (hts (.fieldLink RX12 236 "SmokeTuneModel" "to" "I") (List.mem_cons_of_mem _ (List.mem_append_left _ (List.mem_of_getElem? (i := 0) rfl)))) (fun _ h9 => h9) rfl dX12_next_232 ?_
                  refine lv_iconst (v := 1) hx hb dX12_next_235 (by decide) ?_
                  refine lv_iadd hx hb dX12_next_236 ?_
                  refine lv_topi (fun x_1884 ex_1884 => ?_)
                  have hx_1884 : x_1884.toInt = (v_1852.toInt + 1) := by rw [ex_1884]; exact i_add rfl (show (1 : Int32).toInt = 1 from rfl) (by omega)
                  refine va_put (ci := 12) (v := .int x_1884) (ty := .int) (C := RX12) (T := TX12) (N := 60) hx hb hts hw12 tyX12 tyX12_ok nmX12 hown hK hP hD hS 0 rfl rfl 15 (by decide) (hts (.fieldLink RX12 236 "SmokeTuneModel" "to" "I") (List.mem_cons_of_mem _ (List.mem_append_left _ (List.mem_of_getElem? (i := 0) rfl)))) (fun _ h9 => h9) rfl (by decide +kernel) (by first | rfl | decide) (by first | rfl | decide) (Nat.le_of_ble_eq_true rfl) dX12_next_237 (fun H locs hP hD hS => ?_)
                  have hP : va_P D vwCl [(m0, .inr (12, [m_0, m_1, m_2, m_3, m_4, m_5, m_6, m_7, m_8, m_9, m_10, m_11, .ref t0, .int ta, .int v_1852, .int x_1884, .int 1, .long (-1), m_18, m_19, m_20, m_21, m_22, m_23, m_24, m_25, m_26, m_27, m_28, m_29, m_30, m_31, m_32, m_33, m_34, m_35, m_36, m_37, m_38, m_39, m_40, m_41, m_42, m_43, m_44, m_45, m_46, m_47, m_48, m_49, m_50, m_51, m_52, m_53, m_54, m_55, m_56, m_57, m_58, m_59])), (t0, .inl (K 0, 400, .inl ft))] H := hP
                  have hD : va_D A [(m0, .inr (12, [m_0, m_1, m_2, m_3, m_4, m_5, m_6, m_7, m_8, m_9, m_10, m_11, .ref t0, .int ta, .int v_1852, .int x_1884, .int 1, .long (-1), m_18, m_19, m_20, m_21, m_22, m_23, m_24, m_25, m_26, m_27, m_28, m_29, m_30, m_31, m_32, m_33, m_34, m_35, m_36, m_37, m_38, m_39, m_40, m_41, m_42, m_43, m_44, m_45, m_46, m_47, m_48, m_49, m_50, m_51, m_52, m_53, m_54, m_55, m_56, m_57, m_58, m_59])), (t0, .inl (K 0, 400, .inl ft))] := hD
                  refine lv_goto (tgt := 149) hx hb dX12_next_240 (by decide) ?_
                  have lp_2003 : ∀ (nn_ : Nat) (v_1963 : Int32) (v_1964 : Int64) (hv_1963 : 1 ≤ v_1963.toInt ∧ v_1963.toInt ≤ 400) (hr0_lp_2003 : v_1852.toInt < v_1963.toInt ∧ v_1963.toInt ≤ ta.toInt ∧ (v_1852.toInt + 1 < v_1963.toInt ∨ v_1964.toInt ≤ 26)) (hn : (ta.toInt - v_1963.toInt : Int).toNat < nn_) (H : Heap) (locs : List Loc) (hP : va_P D vwCl [(m0, .inr (12, [m_0, m_1, m_2, m_3, m_4, m_5, m_6, m_7, m_8, m_9, m_10, m_11, .ref t0, .int ta, .int v_1852, .int v_1963, .int 1, .long v_1964, m_18, m_19, m_20, m_21, m_22, m_23, m_24, m_25, m_26, m_27, m_28, m_29, m_30, m_31, m_32, m_33, m_34, m_35, m_36, m_37, m_38, m_39, m_40, m_41, m_42, m_43, m_44, m_45, m_46, m_47, m_48, m_49, m_50, m_51, m_52, m_53, m_54, m_55, m_56, m_57, m_58, m_59])), (t0, .inl (K 0, 400, .inl ft))] H) (hD : va_D A [(m0, .inr (12, [m_0, m_1, m_2, m_3, m_4, m_5, m_6, m_7, m_8, m_9, m_10, m_11, .ref t0, .int ta, .int v_1852, .int v_1963, .int 1, .long v_1964, m_18, m_19, m_20, m_21, m_22, m_23, m_24, m_25, m_26, m_27, m_28, m_29, m_30, m_31, m_32, m_33, m_34, m_35, m_36, m_37, m_38, m_39, m_40, m_41, m_42, m_43, m_44, m_45, m_46, m_47, m_48, m_49, m_50, m_51, m_52, m_53, m_54, m_55, m_56, m_57, m_58, m_59])), (t0, .inl (K 0, 400, .inl ft))]) (hS : va_S A s.heap H locs) (ls : Array Slot) (hl : lv_has ls 1 [(0, .ref m0)]), W p l e ({ frames := 1, cells := 0, slots := 0, locals := 20 }) s m (([.ref m0] : List Value).toArray) below meth c H locs 0 0 Q (F0 m 149 ls []) := by
                    intro nn_
                    induction nn_ with
                    | zero =>
                      intro v_1963 v_1964 hv_1963 hr0_lp_2003 hn H locs hP hD hS ls hl
                      exact absurd hn (Nat.not_lt_zero _)
                    | succ nn_ ih_2004 =>
                      intro v_1963 v_1964 hv_1963 hr0_lp_2003 hn H locs hP hD hS ls hl
                      refine lv_aload_n hx hb dX12_next_149 rfl (lv_at hl 0 rfl) ?_
                      refine va_get (ci := 12) (v := .int 1) (C := RX12) (T := TX12) (N := 60) hx hb hts hw12 hown hK hP 0 rfl rfl 16 (by decide) (hts (.fieldLink RX12 259 "SmokeTuneModel" "sort" "I") (List.mem_cons_of_mem _ (List.mem_append_left _ (List.mem_of_getElem? (i := 5) rfl)))) (fun _ h9 => h9) rfl dX12_next_150 ?_
                      refine lv_iconst (v := 1) hx hb dX12_next_153 (by decide) ?_
                      refine lv_icmp_ne (tgt := 243) hx hb dX12_next_154 (by decide) (fun c_2005 => absurd (by decide) c_2005) (fun c_2005 => ?_)
                      refine lv_aload_n hx hb dX12_next_157 rfl (lv_at hl 0 rfl) ?_
                      refine va_get (ci := 12) (v := .int v_1963) (C := RX12) (T := TX12) (N := 60) hx hb hts hw12 hown hK hP 0 rfl rfl 15 (by decide) (hts (.fieldLink RX12 236 "SmokeTuneModel" "to" "I") (List.mem_cons_of_mem _ (List.mem_append_left _ (List.mem_of_getElem? (i := 0) rfl)))) (fun _ h9 => h9) rfl dX12_next_158 ?_
                      refine lv_aload_n hx hb dX12_next_161 rfl (lv_at hl 0 rfl) ?_
                      refine va_get (ci := 12) (v := .int ta) (C := RX12) (T := TX12) (N := 60) hx hb hts hw12 hown hK hP 0 rfl rfl 13 (by decide) (hts (.fieldLink RX12 227 "SmokeTuneModel" "taped" "I") (List.mem_cons_of_mem _ (List.mem_append_left _ (List.mem_of_getElem? (i := 2) rfl)))) (fun _ h9 => h9) rfl dX12_next_162 ?_
                      refine lv_icmp_ge (tgt := 243) hx hb dX12_next_165 (by decide) (fun c_2006 => ?_) (fun c_2006 => ?_)
                      · have c_2006i := i_le (x := ta.toInt) (y := v_1963.toInt) rfl rfl c_2006
                        refine lv_aload_n hx hb dX12_next_243 rfl (lv_at hl 0 rfl) ?_
                        refine va_get (ci := 12) (v := .int 1) (C := RX12) (T := TX12) (N := 60) hx hb hts hw12 hown hK hP 0 rfl rfl 16 (by decide) (hts (.fieldLink RX12 259 "SmokeTuneModel" "sort" "I") (List.mem_cons_of_mem _ (List.mem_append_left _ (List.mem_of_getElem? (i := 5) rfl)))) (fun _ h9 => h9) rfl dX12_next_244 ?_
                        refine lv_iconst (v := 2) hx hb dX12_next_247 (by decide) ?_
                        refine lv_icmp_ne (tgt := 335) hx hb dX12_next_248 (by decide) (fun c_2007 => ?_) (fun c_2007 => absurd c_2007 (by decide))
                        rw [← hQ]
                        have hP9 := hP.sub (ws' := [(m0, .inr (12, [m_0, m_1, m_2, m_3, m_4, m_5, m_6, m_7, m_8, m_9, m_10, m_11, .ref t0, .int ta, .int v_1852, .int v_1963, .int 1, .long v_1964, m_18, m_19, m_20, m_21, m_22, m_23, m_24, m_25, m_26, m_27, m_28, m_29, m_30, m_31, m_32, m_33, m_34, m_35, m_36, m_37, m_38, m_39, m_40, m_41, m_42, m_43, m_44, m_45, m_46, m_47, m_48, m_49, m_50, m_51, m_52, m_53, m_54, m_55, m_56, m_57, m_58, m_59])), (t0, .inl (K 0, 400, .inl ft))]) [0, 1] rfl
                        have hD9 := hD.sub (ws' := [(m0, .inr (12, [m_0, m_1, m_2, m_3, m_4, m_5, m_6, m_7, m_8, m_9, m_10, m_11, .ref t0, .int ta, .int v_1852, .int v_1963, .int 1, .long v_1964, m_18, m_19, m_20, m_21, m_22, m_23, m_24, m_25, m_26, m_27, m_28, m_29, m_30, m_31, m_32, m_33, m_34, m_35, m_36, m_37, m_38, m_39, m_40, m_41, m_42, m_43, m_44, m_45, m_46, m_47, m_48, m_49, m_50, m_51, m_52, m_53, m_54, m_55, m_56, m_57, m_58, m_59])), (t0, .inl (K 0, 400, .inl ft))]) [0, 1] (by decide) rfl
                        exact W.vret hx hb hr (fun t ht hW => ⟨⟨((fun _ => 0, fun _ => fun _ => 0, fun _ => fun _ => 0, fun i => match i with | 0 => v_1852 | 1 => v_1963 | _ => 1, fun i => match i with | _ => v_1964, fun _ => fun _ => none) : Su), rfl, ⟨(show 0 ≤ (v_1852 : Int32).toInt ∧ (v_1852 : Int32).toInt ≤ 400 by omega), (show 0 ≤ (v_1963 : Int32).toInt ∧ (v_1963 : Int32).toInt ≤ 401 by omega), (show 0 ≤ (1 : Int32).toInt ∧ (1 : Int32).toInt ≤ 3 by decide), (show ((0 ≤ (v_1852 : Int32).toInt ∧ (v_1852 : Int32).toInt ≤ (v_1963 : Int32).toInt ∧ (v_1963 : Int32).toInt ≤ ta.toInt) ∧ (1 = 0 ∨ (v_1852 : Int32).toInt < (v_1963 : Int32).toInt) ∧ (1 ≠ 1 ∨ (v_1852 : Int32).toInt + 1 < (v_1963 : Int32).toInt ∨ (v_1964 : Int64).toInt ≤ 26)) by omega), (show to.toInt ≤ (v_1852 : Int32).toInt by omega), trivial⟩, (⟨by rw [ht]; exact hP9, hD9⟩ : Wd D A _ t)⟩, hS.F ht⟩) hS.2.2 dX12_next_335
                      · have c_2006i := i_nle (x := ta.toInt) (y := v_1963.toInt) rfl rfl c_2006
                        refine lv_aload_n hx hb dX12_next_168 rfl (lv_at hl 0 rfl) ?_
                        refine va_get (ci := 12) (v := .ref t0) (C := RX12) (T := TX12) (N := 60) hx hb hts hw12 hown hK hP 0 rfl rfl 12 (by decide) (hts (.fieldLink RX12 35 "SmokeTuneModel" "tape" "[I") (List.mem_cons_of_mem _ (List.mem_append_left _ (List.mem_of_getElem? (i := 3) rfl)))) (fun _ h9 => h9) rfl dX12_next_169 ?_
                        refine lv_aload_n hx hb dX12_next_172 rfl (lv_at hl 0 rfl) ?_
                        refine va_get (ci := 12) (v := .int v_1963) (C := RX12) (T := TX12) (N := 60) hx hb hts hw12 hown hK hP 0 rfl rfl 15 (by decide) (hts (.fieldLink RX12 236 "SmokeTuneModel" "to" "I") (List.mem_cons_of_mem _ (List.mem_append_left _ (List.mem_of_getElem? (i := 0) rfl)))) (fun _ h9 => h9) rfl dX12_next_173 ?_
                        refine va_iald hx hb hK hP 1 0 rfl rfl (i_in rfl (by omega)) dX12_next_176 ?_
                        refine lv_topi (fun x_2008 ex_2008 => ?_)
                        have kx_2008 : ft (v_1963.toInt).toNat = x_2008 := by rw [ex_2008, i_clamp rfl]
                        refine pci (va_runS (As := [.int x_2008]) (rest := []) ⟨hx, hb, hml, hown, hts⟩ (v_isSmall l D K x_2008.toInt x_2008 H.size rfl) (va_cwS 1 hts gX12_next_X12_isSmall rfl rfl rfl (by decide +kernel) ⟨Nat.le_of_ble_eq_true rfl, Nat.le_of_ble_eq_true rfl⟩) (mkS hK hN (va_P.nil) (va_D.nil (A := fun _ => True))) rfl rfl hl.1 rfl (lv_room (Nat.le_of_ble_eq_true rfl)) dX12_next_177 ⟨Nat.le_of_ble_eq_true rfl, Nat.le_of_ble_eq_true rfl⟩) (fun r_2009 hw => ?_)
                        obtain ⟨hw, -⟩ := hw
                        rcases hw with ⟨rfl, h_2010, h_2011⟩ | ⟨rfl, h_2012⟩
                        · refine lv_if_eq (tgt := 243) hx hb dX12_next_180 (by decide) (fun c_2013 => absurd c_2013 (by decide)) (fun c_2013 => ?_)
                          refine lv_aload_n hx hb dX12_next_183 rfl (lv_at hl 0 rfl) ?_
                          refine lv_aload_n hx hb dX12_next_184 rfl (lv_at hl 0 rfl) ?_
                          refine va_get (ci := 12) (v := .int v_1963) (C := RX12) (T := TX12) (N := 60) hx hb hts hw12 hown hK hP 0 rfl rfl 15 (by decide) (hts (.fieldLink RX12 236 "SmokeTuneModel" "to" "I") (List.mem_cons_of_mem _ (List.mem_append_left _ (List.mem_of_getElem? (i := 0) rfl)))) (fun _ h9 => h9) rfl dX12_next_185 ?_
                          refine lv_aload_n hx hb dX12_next_188 rfl (lv_at hl 0 rfl) ?_
                          refine va_get (ci := 12) (v := .int v_1852) (C := RX12) (T := TX12) (N := 60) hx hb hts hw12 hown hK hP 0 rfl rfl 14 (by decide) (hts (.fieldLink RX12 246 "SmokeTuneModel" "from" "I") (List.mem_cons_of_mem _ (List.mem_append_left _ (List.mem_of_getElem? (i := 1) rfl)))) (fun _ h9 => h9) rfl dX12_next_189 ?_
                          refine lv_isub hx hb dX12_next_192 ?_
                          refine lv_topi (fun x_2014 ex_2014 => ?_)
                          have hx_2014 : x_2014.toInt = (v_1963.toInt - v_1852.toInt) := by rw [ex_2014]; exact i_sub rfl rfl (by omega)
                          refine lv_bipush (v := 10) hx hb dX12_next_193 (by decide) ?_
                          refine lv_icmp_ge (tgt := 224) hx hb dX12_next_195 (by decide) (fun c_2015 => ?_) (fun c_2015 => ?_)
                          · have c_2015i := i_le (x := 10) (y := (v_1963.toInt - v_1852.toInt)) rfl hx_2014 c_2015
                            refine lv_ldc2 (v := (-1)) hx hb hown (hts (.constantLong RX12 266 (-1)) (List.mem_cons_of_mem _ (List.mem_append_left _ (List.mem_of_getElem? (i := 8) rfl)))) dX12_next_224 ?_
                            refine va_put (ci := 12) (v := .long (-1)) (ty := .long) (C := RX12) (T := TX12) (N := 60) hx hb hts hw12 tyX12 tyX12_ok nmX12 hown hK hP hD hS 0 rfl rfl 17 (by decide) (hts (.fieldLink RX12 249 "SmokeTuneModel" "worth" "J") (List.mem_cons_of_mem _ (List.mem_append_left _ (List.mem_of_getElem? (i := 4) rfl)))) (fun _ h9 => h9) rfl (by decide +kernel) (by first | rfl | decide) (by first | rfl | decide) (Nat.le_of_ble_eq_true rfl) dX12_next_227 (fun H locs hP hD hS => ?_)
                            have hP : va_P D vwCl [(m0, .inr (12, [m_0, m_1, m_2, m_3, m_4, m_5, m_6, m_7, m_8, m_9, m_10, m_11, .ref t0, .int ta, .int v_1852, .int v_1963, .int 1, .long (-1), m_18, m_19, m_20, m_21, m_22, m_23, m_24, m_25, m_26, m_27, m_28, m_29, m_30, m_31, m_32, m_33, m_34, m_35, m_36, m_37, m_38, m_39, m_40, m_41, m_42, m_43, m_44, m_45, m_46, m_47, m_48, m_49, m_50, m_51, m_52, m_53, m_54, m_55, m_56, m_57, m_58, m_59])), (t0, .inl (K 0, 400, .inl ft))] H := hP
                            have hD : va_D A [(m0, .inr (12, [m_0, m_1, m_2, m_3, m_4, m_5, m_6, m_7, m_8, m_9, m_10, m_11, .ref t0, .int ta, .int v_1852, .int v_1963, .int 1, .long (-1), m_18, m_19, m_20, m_21, m_22, m_23, m_24, m_25, m_26, m_27, m_28, m_29, m_30, m_31, m_32, m_33, m_34, m_35, m_36, m_37, m_38, m_39, m_40, m_41, m_42, m_43, m_44, m_45, m_46, m_47, m_48, m_49, m_50, m_51, m_52, m_53, m_54, m_55, m_56, m_57, m_58, m_59])), (t0, .inl (K 0, 400, .inl ft))] := hD
                            refine lv_aload_n hx hb dX12_next_230 rfl (lv_at hl 0 rfl) ?_
                            refine lv_dup hx hb dX12_next_231 rfl ?_
                            refine va_get (ci := 12) (v := .int v_1963) (C := RX12) (T := TX12) (N := 60) hx hb hts hw12 hown hK hP 0 rfl rfl 15 (by decide) (hts (.fieldLink RX12 236 "SmokeTuneModel" "to" "I") (List.mem_cons_of_mem _ (List.mem_append_left _ (List.mem_of_getElem? (i := 0) rfl)))) (fun _ h9 => h9) rfl dX12_next_232 ?_
                            refine lv_iconst (v := 1) hx hb dX12_next_235 (by decide) ?_
                            refine lv_iadd hx hb dX12_next_236 ?_
                            refine lv_topi (fun x_2016 ex_2016 => ?_)
                            have hx_2016 : x_2016.toInt = (v_1963.toInt + 1) := by rw [ex_2016]; exact i_add rfl (show (1 : Int32).toInt = 1 from rfl) (by omega)
                            refine va_put (ci := 12) (v := .int x_2016) (ty := .int) (C := RX12) (T := TX12) (N := 60) hx hb hts hw12 tyX12 tyX12_ok nmX12 hown hK hP hD hS 0 rfl rfl 15 (by decide) (hts (.fieldLink RX12 236 "SmokeTuneModel" "to" "I") (List.mem_cons_of_mem _ (List.mem_append_left _ (List.mem_of_getElem? (i := 0) rfl)))) (fun _ h9 => h9) rfl (by decide +kernel) (by first | rfl | decide) (by first | rfl | decide) (Nat.le_of_ble_eq_true rfl) dX12_next_237 (fun H locs hP hD hS => ?_)
                            have hP : va_P D vwCl [(m0, .inr (12, [m_0, m_1, m_2, m_3, m_4, m_5, m_6, m_7, m_8, m_9, m_10, m_11, .ref t0, .int ta, .int v_1852, .int x_2016, .int 1, .long (-1), m_18, m_19, m_20, m_21, m_22, m_23, m_24, m_25, m_26, m_27, m_28, m_29, m_30, m_31, m_32, m_33, m_34, m_35, m_36, m_37, m_38, m_39, m_40, m_41, m_42, m_43, m_44, m_45, m_46, m_47, m_48, m_49, m_50, m_51, m_52, m_53, m_54, m_55, m_56, m_57, m_58, m_59])), (t0, .inl (K 0, 400, .inl ft))] H := hP
                            have hD : va_D A [(m0, .inr (12, [m_0, m_1, m_2, m_3, m_4, m_5, m_6, m_7, m_8, m_9, m_10, m_11, .ref t0, .int ta, .int v_1852, .int x_2016, .int 1, .long (-1), m_18, m_19, m_20, m_21, m_22, m_23, m_24, m_25, m_26, m_27, m_28, m_29, m_30, m_31, m_32, m_33, m_34, m_35, m_36, m_37, m_38, m_39, m_40, m_41, m_42, m_43, m_44, m_45, m_46, m_47, m_48, m_49, m_50, m_51, m_52, m_53, m_54, m_55, m_56, m_57, m_58, m_59])), (t0, .inl (K 0, 400, .inl ft))] := hD
                            refine lv_goto (tgt := 149) hx hb dX12_next_240 (by decide) ?_
                            have hz_2017 : ((-1) : Int64).toInt = (-1) := rfl
                            exact ih_2004 x_2016 (-1) (by rw [hx_2016]; omega) (show v_1852.toInt < (x_2016 : Int32).toInt ∧ (x_2016 : Int32).toInt ≤ ta.toInt ∧ (v_1852.toInt + 1 < (x_2016 : Int32).toInt ∨ ((-1) : Int64).toInt ≤ 26) by omega) (by omega) _ _ hP hD hS ls (lv_sub hl [0] rfl)
                          · have c_2015i := i_nle (x := 10) (y := (v_1963.toInt - v_1852.toInt)) rfl hx_2014 c_2015
                            refine lv_aload_n hx hb dX12_next_198 rfl (lv_at hl 0 rfl) ?_
                            refine va_get (ci := 12) (v := .long v_1964) (C := RX12) (T := TX12) (N := 60) hx hb hts hw12 hown hK hP 0 rfl rfl 17 (by decide) (hts (.fieldLink RX12 249 "SmokeTuneModel" "worth" "J") (List.mem_cons_of_mem _ (List.mem_append_left _ (List.mem_of_getElem? (i := 4) rfl)))) (fun _ h9 => h9) rfl dX12_next_199 ?_
                            refine lv_ldc2 (v := 32) hx hb hown (hts (.constantLong RX12 262 (32)) (List.mem_cons_of_mem _ (List.mem_append_left _ (List.mem_of_getElem? (i := 6) rfl)))) dX12_next_202 ?_
                            refine lv_lmul hx hb dX12_next_205 ?_
                            refine lv_topl (fun x_2018 ex_2018 => ?_)
                            refine lv_aload_n hx hb dX12_next_206 rfl (lv_at hl 0 rfl) ?_
                            refine va_get (ci := 12) (v := .ref t0) (C := RX12) (T := TX12) (N := 60) hx hb hts hw12 hown hK hP 0 rfl rfl 12 (by decide) (hts (.fieldLink RX12 35 "SmokeTuneModel" "tape" "[I") (List.mem_cons_of_mem _ (List.mem_append_left _ (List.mem_of_getElem? (i := 3) rfl)))) (fun _ h9 => h9) rfl dX12_next_207 ?_
                            refine lv_aload_n hx hb dX12_next_210 rfl (lv_at hl 0 rfl) ?_
                            refine va_get (ci := 12) (v := .int v_1963) (C := RX12) (T := TX12) (N := 60) hx hb hts hw12 hown hK hP 0 rfl rfl 15 (by decide) (hts (.fieldLink RX12 236 "SmokeTuneModel" "to" "I") (List.mem_cons_of_mem _ (List.mem_append_left _ (List.mem_of_getElem? (i := 0) rfl)))) (fun _ h9 => h9) rfl dX12_next_211 ?_
                            refine va_iald hx hb hK hP 1 0 rfl rfl (i_in rfl (by omega)) dX12_next_214 ?_
                            refine lv_topi (fun x_2019 ex_2019 => ?_)
                            have erx_2019 : x_2019 = x_2008 := ex_2019.trans (by rw [i_clamp rfl]; exact kx_2008)
                            have hrx_2019 : x_2019.toInt = x_2008.toInt := (congrArg Int32.toInt erx_2019).trans rfl
                            refine lv_i2l hx hb dX12_next_215 rfl ?_
                            refine lv_topl (fun x_2020 ex_2020 => ?_)
                            have hx_2020 : x_2020.toInt = x_2008.toInt := by rw [ex_2020]; exact i_wide hrx_2019
                            refine lv_ladd hx hb dX12_next_216 ?_
                            refine lv_topl (fun x_2021 ex_2021 => ?_)
                            refine lv_ldc2 (v := 96) hx hb hown (hts (.constantLong RX12 264 (96)) (List.mem_cons_of_mem _ (List.mem_append_left _ (List.mem_of_getElem? (i := 7) rfl)))) dX12_next_217 ?_
                            refine lv_lsub hx hb dX12_next_220 ?_
                            refine lv_topl (fun x_2022 ex_2022 => ?_)
                            refine lv_goto (tgt := 227) hx hb dX12_next_221 (by decide) ?_
                            refine va_put (ci := 12) (v := .long x_2022) (ty := .long) (C := RX12) (T := TX12) (N := 60) hx hb hts hw12 tyX12 tyX12_ok nmX12 hown hK hP hD hS 0 rfl rfl 17 (by decide) (hts (.fieldLink RX12 249 "SmokeTuneModel" "worth" "J") (List.mem_cons_of_mem _ (List.mem_append_left _ (List.mem_of_getElem? (i := 4) rfl)))) (fun _ h9 => h9) rfl (by decide +kernel) (by first | rfl | decide) (by first | rfl | decide) (Nat.le_of_ble_eq_true rfl) dX12_next_227 (fun H locs hP hD hS => ?_)
                            have hP : va_P D vwCl [(m0, .inr (12, [m_0, m_1, m_2, m_3, m_4, m_5, m_6, m_7, m_8, m_9, m_10, m_11, .ref t0, .int ta, .int v_1852, .int v_1963, .int 1, .long x_2022, m_18, m_19, m_20, m_21, m_22, m_23, m_24, m_25, m_26, m_27, m_28, m_29, m_30, m_31, m_32, m_33, m_34, m_35, m_36, m_37, m_38, m_39, m_40, m_41, m_42, m_43, m_44, m_45, m_46, m_47, m_48, m_49, m_50, m_51, m_52, m_53, m_54, m_55, m_56, m_57, m_58, m_59])), (t0, .inl (K 0, 400, .inl ft))] H := hP
                            have hD : va_D A [(m0, .inr (12, [m_0, m_1, m_2, m_3, m_4, m_5, m_6, m_7, m_8, m_9, m_10, m_11, .ref t0, .int ta, .int v_1852, .int v_1963, .int 1, .long x_2022, m_18, m_19, m_20, m_21, m_22, m_23, m_24, m_25, m_26, m_27, m_28, m_29, m_30, m_31, m_32, m_33, m_34, m_35, m_36, m_37, m_38, m_39, m_40, m_41, m_42, m_43, m_44, m_45, m_46, m_47, m_48, m_49, m_50, m_51, m_52, m_53, m_54, m_55, m_56, m_57, m_58, m_59])), (t0, .inl (K 0, 400, .inl ft))] := hD
                            refine lv_aload_n hx hb dX12_next_230 rfl (lv_at hl 0 rfl) ?_
                            refine lv_dup hx hb dX12_next_231 rfl ?_
                            refine va_get (ci := 12) (v := .int v_1963) (C := RX12) (T := TX12) (N := 60) hx hb hts hw12 hown hK hP 0 rfl rfl 15 (by decide) (hts (.fieldLink RX12 236 "SmokeTuneModel" "to" "I") (List.mem_cons_of_mem _ (List.mem_append_left _ (List.mem_of_getElem? (i := 0) rfl)))) (fun _ h9 => h9) rfl dX12_next_232 ?_
                            refine lv_iconst (v := 1) hx hb dX12_next_235 (by decide) ?_
                            refine lv_iadd hx hb dX12_next_236 ?_
                            refine lv_topi (fun x_2023 ex_2023 => ?_)
                            have hx_2023 : x_2023.toInt = (v_1963.toInt + 1) := by rw [ex_2023]; exact i_add rfl (show (1 : Int32).toInt = 1 from rfl) (by omega)
                            refine va_put (ci := 12) (v := .int x_2023) (ty := .int) (C := RX12) (T := TX12) (N := 60) hx hb hts hw12 tyX12 tyX12_ok nmX12 hown hK hP hD hS 0 rfl rfl 15 (by decide) (hts (.fieldLink RX12 236 "SmokeTuneModel" "to" "I") (List.mem_cons_of_mem _ (List.mem_append_left _ (List.mem_of_getElem? (i := 0) rfl)))) (fun _ h9 => h9) rfl (by decide +kernel) (by first | rfl | decide) (by first | rfl | decide) (Nat.le_of_ble_eq_true rfl) dX12_next_237 (fun H locs hP hD hS => ?_)
                            have hP : va_P D vwCl [(m0, .inr (12, [m_0, m_1, m_2, m_3, m_4, m_5, m_6, m_7, m_8, m_9, m_10, m_11, .ref t0, .int ta, .int v_1852, .int x_2023, .int 1, .long x_2022, m_18, m_19, m_20, m_21, m_22, m_23, m_24, m_25, m_26, m_27, m_28, m_29, m_30, m_31, m_32, m_33, m_34, m_35, m_36, m_37, m_38, m_39, m_40, m_41, m_42, m_43, m_44, m_45, m_46, m_47, m_48, m_49, m_50, m_51, m_52, m_53, m_54, m_55, m_56, m_57, m_58, m_59])), (t0, .inl (K 0, 400, .inl ft))] H := hP
                            have hD : va_D A [(m0, .inr (12, [m_0, m_1, m_2, m_3, m_4, m_5, m_6, m_7, m_8, m_9, m_10, m_11, .ref t0, .int ta, .int v_1852, .int x_2023, .int 1, .long x_2022, m_18, m_19, m_20, m_21, m_22, m_23, m_24, m_25, m_26, m_27, m_28, m_29, m_30, m_31, m_32, m_33, m_34, m_35, m_36, m_37, m_38, m_39, m_40, m_41, m_42, m_43, m_44, m_45, m_46, m_47, m_48, m_49, m_50, m_51, m_52, m_53, m_54, m_55, m_56, m_57, m_58, m_59])), (t0, .inl (K 0, 400, .inl ft))] := hD
                            refine lv_goto (tgt := 149) hx hb dX12_next_240 (by decide) ?_
                            exact ih_2004 x_2023 x_2022 (by rw [hx_2023]; omega) (show v_1852.toInt < (x_2023 : Int32).toInt ∧ (x_2023 : Int32).toInt ≤ ta.toInt ∧ (v_1852.toInt + 1 < (x_2023 : Int32).toInt ∨ (x_2022 : Int64).toInt ≤ 26) by omega) (by omega) _ _ hP hD hS ls (lv_sub hl [0] rfl)
                        · refine lv_if_eq (tgt := 243) hx hb dX12_next_180 (by decide) (fun c_2024 => ?_) (fun c_2024 => absurd (by decide) c_2024)
                          refine lv_aload_n hx hb dX12_next_243 rfl (lv_at hl 0 rfl) ?_
                          refine va_get (ci := 12) (v := .int 1) (C := RX12) (T := TX12) (N := 60) hx hb hts hw12 hown hK hP 0 rfl rfl 16 (by decide) (hts (.fieldLink RX12 259 "SmokeTuneModel" "sort" "I") (List.mem_cons_of_mem _ (List.mem_append_left _ (List.mem_of_getElem? (i := 5) rfl)))) (fun _ h9 => h9) rfl dX12_next_244 ?_
                          refine lv_iconst (v := 2) hx hb dX12_next_247 (by decide) ?_
                          refine lv_icmp_ne (tgt := 335) hx hb dX12_next_248 (by decide) (fun c_2025 => ?_) (fun c_2025 => absurd c_2025 (by decide))
                          rw [← hQ]
                          have hP9 := hP.sub (ws' := [(m0, .inr (12, [m_0, m_1, m_2, m_3, m_4, m_5, m_6, m_7, m_8, m_9, m_10, m_11, .ref t0, .int ta, .int v_1852, .int v_1963, .int 1, .long v_1964, m_18, m_19, m_20, m_21, m_22, m_23, m_24, m_25, m_26, m_27, m_28, m_29, m_30, m_31, m_32, m_33, m_34, m_35, m_36, m_37, m_38, m_39, m_40, m_41, m_42, m_43, m_44, m_45, m_46, m_47, m_48, m_49, m_50, m_51, m_52, m_53, m_54, m_55, m_56, m_57, m_58, m_59])), (t0, .inl (K 0, 400, .inl ft))]) [0, 1] rfl
                          have hD9 := hD.sub (ws' := [(m0, .inr (12, [m_0, m_1, m_2, m_3, m_4, m_5, m_6, m_7, m_8, m_9, m_10, m_11, .ref t0, .int ta, .int v_1852, .int v_1963, .int 1, .long v_1964, m_18, m_19, m_20, m_21, m_22, m_23, m_24, m_25, m_26, m_27, m_28, m_29, m_30, m_31, m_32, m_33, m_34, m_35, m_36, m_37, m_38, m_39, m_40, m_41, m_42, m_43, m_44, m_45, m_46, m_47, m_48, m_49, m_50, m_51, m_52, m_53, m_54, m_55, m_56, m_57, m_58, m_59])), (t0, .inl (K 0, 400, .inl ft))]) [0, 1] (by decide) rfl
                          exact W.vret hx hb hr (fun t ht hW => ⟨⟨((fun _ => 0, fun _ => fun _ => 0, fun _ => fun _ => 0, fun i => match i with | 0 => v_1852 | 1 => v_1963 | _ => 1, fun i => match i with | _ => v_1964, fun _ => fun _ => none) : Su), rfl, ⟨(show 0 ≤ (v_1852 : Int32).toInt ∧ (v_1852 : Int32).toInt ≤ 400 by omega), (show 0 ≤ (v_1963 : Int32).toInt ∧ (v_1963 : Int32).toInt ≤ 401 by omega), (show 0 ≤ (1 : Int32).toInt ∧ (1 : Int32).toInt ≤ 3 by decide), (show ((0 ≤ (v_1852 : Int32).toInt ∧ (v_1852 : Int32).toInt ≤ (v_1963 : Int32).toInt ∧ (v_1963 : Int32).toInt ≤ ta.toInt) ∧ (1 = 0 ∨ (v_1852 : Int32).toInt < (v_1963 : Int32).toInt) ∧ (1 ≠ 1 ∨ (v_1852 : Int32).toInt + 1 < (v_1963 : Int32).toInt ∨ (v_1964 : Int64).toInt ≤ 26)) by omega), (show to.toInt ≤ (v_1852 : Int32).toInt by omega), trivial⟩, (⟨by rw [ht]; exact hP9, hD9⟩ : Wd D A _ t)⟩, hS.F ht⟩) hS.2.2 dX12_next_335
                  have hz_2026 : ((-1) : Int64).toInt = (-1) := rfl
                  exact lp_2003 ((ta.toInt - (x_1884 : Int32).toInt : Int).toNat + 1) x_1884 (-1) (by rw [hx_1884]; omega) (show v_1852.toInt < (x_1884 : Int32).toInt ∧ (x_1884 : Int32).toInt ≤ ta.toInt ∧ (v_1852.toInt + 1 < (x_1884 : Int32).toInt ∨ ((-1) : Int64).toInt ≤ 26) by omega) (Nat.lt_succ_self _) _ _ hP hD hS ls (lv_sub hl [0] rfl)
                · have c_1883i := i_nle (x := 10) (y := (v_1852.toInt - v_1852.toInt)) rfl hx_1882 c_1883
                  refine lv_aload_n hx hb dX12_next_198 rfl (lv_at hl 0 rfl) ?_
                  refine va_get (ci := 12) (v := .long 0) (C := RX12) (T := TX12) (N := 60) hx hb hts hw12 hown hK hP 0 rfl rfl 17 (by decide) (hts (.fieldLink RX12 249 "SmokeTuneModel" "worth" "J") (List.mem_cons_of_mem _ (List.mem_append_left _ (List.mem_of_getElem? (i := 4) rfl)))) (fun _ h9 => h9) rfl dX12_next_199 ?_
                  refine lv_ldc2 (v := 32) hx hb hown (hts (.constantLong RX12 262 (32)) (List.mem_cons_of_mem _ (List.mem_append_left _ (List.mem_of_getElem? (i := 6) rfl)))) dX12_next_202 ?_
                  refine lv_lmul hx hb dX12_next_205 ?_
                  refine lv_topl (fun x_2027 ex_2027 => ?_)
                  obtain rfl : x_2027 = 0 := ex_2027.trans (by first | rfl | decide)
                  refine lv_aload_n hx hb dX12_next_206 rfl (lv_at hl 0 rfl) ?_
                  refine va_get (ci := 12) (v := .ref t0) (C := RX12) (T := TX12) (N := 60) hx hb hts hw12 hown hK hP 0 rfl rfl 12 (by decide) (hts (.fieldLink RX12 35 "SmokeTuneModel" "tape" "[I") (List.mem_cons_of_mem _ (List.mem_append_left _ (List.mem_of_getElem? (i := 3) rfl)))) (fun _ h9 => h9) rfl dX12_next_207 ?_
                  refine lv_aload_n hx hb dX12_next_210 rfl (lv_at hl 0 rfl) ?_
                  refine va_get (ci := 12) (v := .int v_1852) (C := RX12) (T := TX12) (N := 60) hx hb hts hw12 hown hK hP 0 rfl rfl 15 (by decide) (hts (.fieldLink RX12 236 "SmokeTuneModel" "to" "I") (List.mem_cons_of_mem _ (List.mem_append_left _ (List.mem_of_getElem? (i := 0) rfl)))) (fun _ h9 => h9) rfl dX12_next_211 ?_
                  refine va_iald hx hb hK hP 1 0 rfl rfl (i_in rfl (by omega)) dX12_next_214 ?_
                  refine lv_topi (fun x_2028 ex_2028 => ?_)
                  have erx_2028 : x_2028 = x_1866 := ex_2028.trans (by rw [i_clamp rfl]; exact kx_1866)
                  have hrx_2028 : x_2028.toInt = x_1866.toInt := (congrArg Int32.toInt erx_2028).trans rfl
                  refine lv_i2l hx hb dX12_next_215 rfl ?_
                  refine lv_topl (fun x_2029 ex_2029 => ?_)
                  have hx_2029 : x_2029.toInt = x_1866.toInt := by rw [ex_2029]; exact i_wide hrx_2028
                  refine lv_ladd hx hb dX12_next_216 ?_
                  refine lv_topl (fun x_2030 ex_2030 => ?_)
                  have hx_2030 : x_2030.toInt = (0 + x_1866.toInt) := by rw [ex_2030]; exact l_add (show (0 : Int64).toInt = 0 from rfl) hx_2029 (by omega)
                  refine lv_ldc2 (v := 96) hx hb hown (hts (.constantLong RX12 264 (96)) (List.mem_cons_of_mem _ (List.mem_append_left _ (List.mem_of_getElem? (i := 7) rfl)))) dX12_next_217 ?_
                  refine lv_lsub hx hb dX12_next_220 ?_
                  refine lv_topl (fun x_2031 ex_2031 => ?_)
                  have hx_2031 : x_2031.toInt = ((0 + x_1866.toInt) - 96) := by rw [ex_2031]; exact l_sub hx_2030 (show (96 : Int64).toInt = 96 from rfl) (by omega)
                  refine lv_goto (tgt := 227) hx hb dX12_next_221 (by decide) ?_
                  refine va_put (ci := 12) (v := .long x_2031) (ty := .long) (C := RX12) (T := TX12) (N := 60) hx hb hts hw12 tyX12 tyX12_ok nmX12 hown hK hP hD hS 0 rfl rfl 17 (by decide) (hts (.fieldLink RX12 249 "SmokeTuneModel" "worth" "J") (List.mem_cons_of_mem _ (List.mem_append_left _ (List.mem_of_getElem? (i := 4) rfl)))) (fun _ h9 => h9) rfl (by decide +kernel) (by first | rfl | decide) (by first | rfl | decide) (Nat.le_of_ble_eq_true rfl) dX12_next_227 (fun H locs hP hD hS => ?_)
                  have hP : va_P D vwCl [(m0, .inr (12, [m_0, m_1, m_2, m_3, m_4, m_5, m_6, m_7, m_8, m_9, m_10, m_11, .ref t0, .int ta, .int v_1852, .int v_1852, .int 1, .long x_2031, m_18, m_19, m_20, m_21, m_22, m_23, m_24, m_25, m_26, m_27, m_28, m_29, m_30, m_31, m_32, m_33, m_34, m_35, m_36, m_37, m_38, m_39, m_40, m_41, m_42, m_43, m_44, m_45, m_46, m_47, m_48, m_49, m_50, m_51, m_52, m_53, m_54, m_55, m_56, m_57, m_58, m_59])), (t0, .inl (K 0, 400, .inl ft))] H := hP
                  have hD : va_D A [(m0, .inr (12, [m_0, m_1, m_2, m_3, m_4, m_5, m_6, m_7, m_8, m_9, m_10, m_11, .ref t0, .int ta, .int v_1852, .int v_1852, .int 1, .long x_2031, m_18, m_19, m_20, m_21, m_22, m_23, m_24, m_25, m_26, m_27, m_28, m_29, m_30, m_31, m_32, m_33, m_34, m_35, m_36, m_37, m_38, m_39, m_40, m_41, m_42, m_43, m_44, m_45, m_46, m_47, m_48, m_49, m_50, m_51, m_52, m_53, m_54, m_55, m_56, m_57, m_58, m_59])), (t0, .inl (K 0, 400, .inl ft))] := hD
                  refine lv_aload_n hx hb dX12_next_230 rfl (lv_at hl 0 rfl) ?_
                  refine lv_dup hx hb dX12_next_231 rfl ?_
                  refine va_get (ci := 12) (v := .int v_1852) (C := RX12) (T := TX12) (N := 60) hx hb hts hw12 hown hK hP 0 rfl rfl 15 (by decide) (hts (.fieldLink RX12 236 "SmokeTuneModel" "to" "I") (List.mem_cons_of_mem _ (List.mem_append_left _ (List.mem_of_getElem? (i := 0) rfl)))) (fun _ h9 => h9) rfl dX12_next_232 ?_
                  refine lv_iconst (v := 1) hx hb dX12_next_235 (by decide) ?_
                  refine lv_iadd hx hb dX12_next_236 ?_
                  refine lv_topi (fun x_2032 ex_2032 => ?_)
                  have hx_2032 : x_2032.toInt = (v_1852.toInt + 1) := by rw [ex_2032]; exact i_add rfl (show (1 : Int32).toInt = 1 from rfl) (by omega)
                  refine va_put (ci := 12) (v := .int x_2032) (ty := .int) (C := RX12) (T := TX12) (N := 60) hx hb hts hw12 tyX12 tyX12_ok nmX12 hown hK hP hD hS 0 rfl rfl 15 (by decide) (hts (.fieldLink RX12 236 "SmokeTuneModel" "to" "I") (List.mem_cons_of_mem _ (List.mem_append_left _ (List.mem_of_getElem? (i := 0) rfl)))) (fun _ h9 => h9) rfl (by decide +kernel) (by first | rfl | decide) (by first | rfl | decide) (Nat.le_of_ble_eq_true rfl) dX12_next_237 (fun H locs hP hD hS => ?_)
                  have hP : va_P D vwCl [(m0, .inr (12, [m_0, m_1, m_2, m_3, m_4, m_5, m_6, m_7, m_8, m_9, m_10, m_11, .ref t0, .int ta, .int v_1852, .int x_2032, .int 1, .long x_2031, m_18, m_19, m_20, m_21, m_22, m_23, m_24, m_25, m_26, m_27, m_28, m_29, m_30, m_31, m_32, m_33, m_34, m_35, m_36, m_37, m_38, m_39, m_40, m_41, m_42, m_43, m_44, m_45, m_46, m_47, m_48, m_49, m_50, m_51, m_52, m_53, m_54, m_55, m_56, m_57, m_58, m_59])), (t0, .inl (K 0, 400, .inl ft))] H := hP
                  have hD : va_D A [(m0, .inr (12, [m_0, m_1, m_2, m_3, m_4, m_5, m_6, m_7, m_8, m_9, m_10, m_11, .ref t0, .int ta, .int v_1852, .int x_2032, .int 1, .long x_2031, m_18, m_19, m_20, m_21, m_22, m_23, m_24, m_25, m_26, m_27, m_28, m_29, m_30, m_31, m_32, m_33, m_34, m_35, m_36, m_37, m_38, m_39, m_40, m_41, m_42, m_43, m_44, m_45, m_46, m_47, m_48, m_49, m_50, m_51, m_52, m_53, m_54, m_55, m_56, m_57, m_58, m_59])), (t0, .inl (K 0, 400, .inl ft))] := hD
                  refine lv_goto (tgt := 149) hx hb dX12_next_240 (by decide) ?_
                  have lp_2131 : ∀ (nn_ : Nat) (v_2091 : Int32) (v_2092 : Int64) (hv_2091 : 1 ≤ v_2091.toInt ∧ v_2091.toInt ≤ 400) (hr0_lp_2131 : v_1852.toInt < v_2091.toInt ∧ v_2091.toInt ≤ ta.toInt ∧ (v_1852.toInt + 1 < v_2091.toInt ∨ v_2092.toInt ≤ 26)) (hn : (ta.toInt - v_2091.toInt : Int).toNat < nn_) (H : Heap) (locs : List Loc) (hP : va_P D vwCl [(m0, .inr (12, [m_0, m_1, m_2, m_3, m_4, m_5, m_6, m_7, m_8, m_9, m_10, m_11, .ref t0, .int ta, .int v_1852, .int v_2091, .int 1, .long v_2092, m_18, m_19, m_20, m_21, m_22, m_23, m_24, m_25, m_26, m_27, m_28, m_29, m_30, m_31, m_32, m_33, m_34, m_35, m_36, m_37, m_38, m_39, m_40, m_41, m_42, m_43, m_44, m_45, m_46, m_47, m_48, m_49, m_50, m_51, m_52, m_53, m_54, m_55, m_56, m_57, m_58, m_59])), (t0, .inl (K 0, 400, .inl ft))] H) (hD : va_D A [(m0, .inr (12, [m_0, m_1, m_2, m_3, m_4, m_5, m_6, m_7, m_8, m_9, m_10, m_11, .ref t0, .int ta, .int v_1852, .int v_2091, .int 1, .long v_2092, m_18, m_19, m_20, m_21, m_22, m_23, m_24, m_25, m_26, m_27, m_28, m_29, m_30, m_31, m_32, m_33, m_34, m_35, m_36, m_37, m_38, m_39, m_40, m_41, m_42, m_43, m_44, m_45, m_46, m_47, m_48, m_49, m_50, m_51, m_52, m_53, m_54, m_55, m_56, m_57, m_58, m_59])), (t0, .inl (K 0, 400, .inl ft))]) (hS : va_S A s.heap H locs) (ls : Array Slot) (hl : lv_has ls 1 [(0, .ref m0)]), W p l e ({ frames := 1, cells := 0, slots := 0, locals := 20 }) s m (([.ref m0] : List Value).toArray) below meth c H locs 0 0 Q (F0 m 149 ls []) := by
                    intro nn_
                    induction nn_ with
                    | zero =>
                      intro v_2091 v_2092 hv_2091 hr0_lp_2131 hn H locs hP hD hS ls hl
                      exact absurd hn (Nat.not_lt_zero _)
                    | succ nn_ ih_2132 =>
                      intro v_2091 v_2092 hv_2091 hr0_lp_2131 hn H locs hP hD hS ls hl
                      refine lv_aload_n hx hb dX12_next_149 rfl (lv_at hl 0 rfl) ?_
                      refine va_get (ci := 12) (v := .int 1) (C := RX12) (T := TX12) (N := 60) hx hb hts hw12 hown hK hP 0 rfl rfl 16 (by decide) (hts (.fieldLink RX12 259 "SmokeTuneModel" "sort" "I") (List.mem_cons_of_mem _ (List.mem_append_left _ (List.mem_of_getElem? (i := 5) rfl)))) (fun _ h9 => h9) rfl dX12_next_150 ?_
                      refine lv_iconst (v := 1) hx hb dX12_next_153 (by decide) ?_
                      refine lv_icmp_ne (tgt := 243) hx hb dX12_next_154 (by decide) (fun c_2133 => absurd (by decide) c_2133) (fun c_2133 => ?_)
                      refine lv_aload_n hx hb dX12_next_157 rfl (lv_at hl 0 rfl) ?_
                      refine va_get (ci := 12) (v := .int v_2091) (C := RX12) (T := TX12) (N := 60) hx hb hts hw12 hown hK hP 0 rfl rfl 15 (by decide) (hts (.fieldLink RX12 236 "SmokeTuneModel" "to" "I") (List.mem_cons_of_mem _ (List.mem_append_left _ (List.mem_of_getElem? (i := 0) rfl)))) (fun _ h9 => h9) rfl dX12_next_158 ?_
                      refine lv_aload_n hx hb dX12_next_161 rfl (lv_at hl 0 rfl) ?_
                      refine va_get (ci := 12) (v := .int ta) (C := RX12) (T := TX12) (N := 60) hx hb hts hw12 hown hK hP 0 rfl rfl 13 (by decide) (hts (.fieldLink RX12 227 "SmokeTuneModel" "taped" "I") (List.mem_cons_of_mem _ (List.mem_append_left _ (List.mem_of_getElem? (i := 2) rfl)))) (fun _ h9 => h9) rfl dX12_next_162 ?_
                      refine lv_icmp_ge (tgt := 243) hx hb dX12_next_165 (by decide) (fun c_2134 => ?_) (fun c_2134 => ?_)
                      · have c_2134i := i_le (x := ta.toInt) (y := v_2091.toInt) rfl rfl c_2134
                        refine lv_aload_n hx hb dX12_next_243 rfl (lv_at hl 0 rfl) ?_
                        refine va_get (ci := 12) (v := .int 1) (C := RX12) (T := TX12) (N := 60) hx hb hts hw12 hown hK hP 0 rfl rfl 16 (by decide) (hts (.fieldLink RX12 259 "SmokeTuneModel" "sort" "I") (List.mem_cons_of_mem _ (List.mem_append_left _ (List.mem_of_getElem? (i := 5) rfl)))) (fun _ h9 => h9) rfl dX12_next_244 ?_
                        refine lv_iconst (v := 2) hx hb dX12_next_247 (by decide) ?_
                        refine lv_icmp_ne (tgt := 335) hx hb dX12_next_248 (by decide) (fun c_2135 => ?_) (fun c_2135 => absurd c_2135 (by decide))
                        rw [← hQ]
                        have hP9 := hP.sub (ws' := [(m0, .inr (12, [m_0, m_1, m_2, m_3, m_4, m_5, m_6, m_7, m_8, m_9, m_10, m_11, .ref t0, .int ta, .int v_1852, .int v_2091, .int 1, .long v_2092, m_18, m_19, m_20, m_21, m_22, m_23, m_24, m_25, m_26, m_27, m_28, m_29, m_30, m_31, m_32, m_33, m_34, m_35, m_36, m_37, m_38, m_39, m_40, m_41, m_42, m_43, m_44, m_45, m_46, m_47, m_48, m_49, m_50, m_51, m_52, m_53, m_54, m_55, m_56, m_57, m_58, m_59])), (t0, .inl (K 0, 400, .inl ft))]) [0, 1] rfl
                        have hD9 := hD.sub (ws' := [(m0, .inr (12, [m_0, m_1, m_2, m_3, m_4, m_5, m_6, m_7, m_8, m_9, m_10, m_11, .ref t0, .int ta, .int v_1852, .int v_2091, .int 1, .long v_2092, m_18, m_19, m_20, m_21, m_22, m_23, m_24, m_25, m_26, m_27, m_28, m_29, m_30, m_31, m_32, m_33, m_34, m_35, m_36, m_37, m_38, m_39, m_40, m_41, m_42, m_43, m_44, m_45, m_46, m_47, m_48, m_49, m_50, m_51, m_52, m_53, m_54, m_55, m_56, m_57, m_58, m_59])), (t0, .inl (K 0, 400, .inl ft))]) [0, 1] (by decide) rfl
                        exact W.vret hx hb hr (fun t ht hW => ⟨⟨((fun _ => 0, fun _ => fun _ => 0, fun _ => fun _ => 0, fun i => match i with | 0 => v_1852 | 1 => v_2091 | _ => 1, fun i => match i with | _ => v_2092, fun _ => fun _ => none) : Su), rfl, ⟨(show 0 ≤ (v_1852 : Int32).toInt ∧ (v_1852 : Int32).toInt ≤ 400 by omega), (show 0 ≤ (v_2091 : Int32).toInt ∧ (v_2091 : Int32).toInt ≤ 401 by omega), (show 0 ≤ (1 : Int32).toInt ∧ (1 : Int32).toInt ≤ 3 by decide), (show ((0 ≤ (v_1852 : Int32).toInt ∧ (v_1852 : Int32).toInt ≤ (v_2091 : Int32).toInt ∧ (v_2091 : Int32).toInt ≤ ta.toInt) ∧ (1 = 0 ∨ (v_1852 : Int32).toInt < (v_2091 : Int32).toInt) ∧ (1 ≠ 1 ∨ (v_1852 : Int32).toInt + 1 < (v_2091 : Int32).toInt ∨ (v_2092 : Int64).toInt ≤ 26)) by omega), (show to.toInt ≤ (v_1852 : Int32).toInt by omega), trivial⟩, (⟨by rw [ht]; exact hP9, hD9⟩ : Wd D A _ t)⟩, hS.F ht⟩) hS.2.2 dX12_next_335
                      · have c_2134i := i_nle (x := ta.toInt) (y := v_2091.toInt) rfl rfl c_2134
                        refine lv_aload_n hx hb dX12_next_168 rfl (lv_at hl 0 rfl) ?_
                        refine va_get (ci := 12) (v := .ref t0) (C := RX12) (T := TX12) (N := 60) hx hb hts hw12 hown hK hP 0 rfl rfl 12 (by decide) (hts (.fieldLink RX12 35 "SmokeTuneModel" "tape" "[I") (List.mem_cons_of_mem _ (List.mem_append_left _ (List.mem_of_getElem? (i := 3) rfl)))) (fun _ h9 => h9) rfl dX12_next_169 ?_
                        refine lv_aload_n hx hb dX12_next_172 rfl (lv_at hl 0 rfl) ?_
                        refine va_get (ci := 12) (v := .int v_2091) (C := RX12) (T := TX12) (N := 60) hx hb hts hw12 hown hK hP 0 rfl rfl 15 (by decide) (hts (.fieldLink RX12 236 "SmokeTuneModel" "to" "I") (List.mem_cons_of_mem _ (List.mem_append_left _ (List.mem_of_getElem? (i := 0) rfl)))) (fun _ h9 => h9) rfl dX12_next_173 ?_
                        refine va_iald hx hb hK hP 1 0 rfl rfl (i_in rfl (by omega)) dX12_next_176 ?_
                        refine lv_topi (fun x_2136 ex_2136 => ?_)
                        have kx_2136 : ft (v_2091.toInt).toNat = x_2136 := by rw [ex_2136, i_clamp rfl]
                        refine pci (va_runS (As := [.int x_2136]) (rest := []) ⟨hx, hb, hml, hown, hts⟩ (v_isSmall l D K x_2136.toInt x_2136 H.size rfl) (va_cwS 1 hts gX12_next_X12_isSmall rfl rfl rfl (by decide +kernel) ⟨Nat.le_of_ble_eq_true rfl, Nat.le_of_ble_eq_true rfl⟩) (mkS hK hN (va_P.nil) (va_D.nil (A := fun _ => True))) rfl rfl hl.1 rfl (lv_room (Nat.le_of_ble_eq_true rfl)) dX12_next_177 ⟨Nat.le_of_ble_eq_true rfl, Nat.le_of_ble_eq_true rfl⟩) (fun r_2137 hw => ?_)
                        obtain ⟨hw, -⟩ := hw
                        rcases hw with ⟨rfl, h_2138, h_2139⟩ | ⟨rfl, h_2140⟩
                        · refine lv_if_eq (tgt := 243) hx hb dX12_next_180 (by decide) (fun c_2141 => absurd c_2141 (by decide)) (fun c_2141 => ?_)
                          refine lv_aload_n hx hb dX12_next_183 rfl (lv_at hl 0 rfl) ?_
                          refine lv_aload_n hx hb dX12_next_184 rfl (lv_at hl 0 rfl) ?_
                          refine va_get (ci := 12) (v := .int v_2091) (C := RX12) (T := TX12) (N := 60) hx hb hts hw12 hown hK hP 0 rfl rfl 15 (by decide) (hts (.fieldLink RX12 236 "SmokeTuneModel" "to" "I") (List.mem_cons_of_mem _ (List.mem_append_left _ (List.mem_of_getElem? (i := 0) rfl)))) (fun _ h9 => h9) rfl dX12_next_185 ?_
                          refine lv_aload_n hx hb dX12_next_188 rfl (lv_at hl 0 rfl) ?_
                          refine va_get (ci := 12) (v := .int v_1852) (C := RX12) (T := TX12) (N := 60) hx hb hts hw12 hown hK hP 0 rfl rfl 14 (by decide) (hts (.fieldLink RX12 246 "SmokeTuneModel" "from" "I") (List.mem_cons_of_mem _ (List.mem_append_left _ (List.mem_of_getElem? (i := 1) rfl)))) (fun _ h9 => h9) rfl dX12_next_189 ?_
                          refine lv_isub hx hb dX12_next_192 ?_
                          refine lv_topi (fun x_2142 ex_2142 => ?_)
                          have hx_2142 : x_2142.toInt = (v_2091.toInt - v_1852.toInt) := by rw [ex_2142]; exact i_sub rfl rfl (by omega)
                          refine lv_bipush (v := 10) hx hb dX12_next_193 (by decide) ?_
                          refine lv_icmp_ge (tgt := 224) hx hb dX12_next_195 (by decide) (fun c_2143 => ?_) (fun c_2143 => ?_)
                          · have c_2143i := i_le (x := 10) (y := (v_2091.toInt - v_1852.toInt)) rfl hx_2142 c_2143
                            refine lv_ldc2 (v := (-1)) hx hb hown (hts (.constantLong RX12 266 (-1)) (List.mem_cons_of_mem _ (List.mem_append_left _ (List.mem_of_getElem? (i := 8) rfl)))) dX12_next_224 ?_
                            refine va_put (ci := 12) (v := .long (-1)) (ty := .long) (C := RX12) (T := TX12) (N := 60) hx hb hts hw12 tyX12 tyX12_ok nmX12 hown hK hP hD hS 0 rfl rfl 17 (by decide) (hts (.fieldLink RX12 249 "SmokeTuneModel" "worth" "J") (List.mem_cons_of_mem _ (List.mem_append_left _ (List.mem_of_getElem? (i := 4) rfl)))) (fun _ h9 => h9) rfl (by decide +kernel) (by first | rfl | decide) (by first | rfl | decide) (Nat.le_of_ble_eq_true rfl) dX12_next_227 (fun H locs hP hD hS => ?_)
                            have hP : va_P D vwCl [(m0, .inr (12, [m_0, m_1, m_2, m_3, m_4, m_5, m_6, m_7, m_8, m_9, m_10, m_11, .ref t0, .int ta, .int v_1852, .int v_2091, .int 1, .long (-1), m_18, m_19, m_20, m_21, m_22, m_23, m_24, m_25, m_26, m_27, m_28, m_29, m_30, m_31, m_32, m_33, m_34, m_35, m_36, m_37, m_38, m_39, m_40, m_41, m_42, m_43, m_44, m_45, m_46, m_47, m_48, m_49, m_50, m_51, m_52, m_53, m_54, m_55, m_56, m_57, m_58, m_59])), (t0, .inl (K 0, 400, .inl ft))] H := hP
                            have hD : va_D A [(m0, .inr (12, [m_0, m_1, m_2, m_3, m_4, m_5, m_6, m_7, m_8, m_9, m_10, m_11, .ref t0, .int ta, .int v_1852, .int v_2091, .int 1, .long (-1), m_18, m_19, m_20, m_21, m_22, m_23, m_24, m_25, m_26, m_27, m_28, m_29, m_30, m_31, m_32, m_33, m_34, m_35, m_36, m_37, m_38, m_39, m_40, m_41, m_42, m_43, m_44, m_45, m_46, m_47, m_48, m_49, m_50, m_51, m_52, m_53, m_54, m_55, m_56, m_57, m_58, m_59])), (t0, .inl (K 0, 400, .inl ft))] := hD
                            refine lv_aload_n hx hb dX12_next_230 rfl (lv_at hl 0 rfl) ?_
                            refine lv_dup hx hb dX12_next_231 rfl ?_
                            refine va_get (ci := 12) (v := .int v_2091) (C := RX12) (T := TX12) (N := 60) hx hb hts hw12 hown hK hP 0 rfl rfl 15 (by decide) (hts (.fieldLink RX12 236 "SmokeTuneModel" "to" "I") (List.mem_cons_of_mem _ (List.mem_append_left _ (List.mem_of_getElem? (i := 0) rfl)))) (fun _ h9 => h9) rfl dX12_next_232 ?_
                            refine lv_iconst (v := 1) hx hb dX12_next_235 (by decide) ?_
                            refine lv_iadd hx hb dX12_next_236 ?_
                            refine lv_topi (fun x_2144 ex_2144 => ?_)
                            have hx_2144 : x_2144.toInt = (v_2091.toInt + 1) := by rw [ex_2144]; exact i_add rfl (show (1 : Int32).toInt = 1 from rfl) (by omega)
                            refine va_put (ci := 12) (v := .int x_2144) (ty := .int) (C := RX12) (T := TX12) (N := 60) hx hb hts hw12 tyX12 tyX12_ok nmX12 hown hK hP hD hS 0 rfl rfl 15 (by decide) (hts (.fieldLink RX12 236 "SmokeTuneModel" "to" "I") (List.mem_cons_of_mem _ (List.mem_append_left _ (List.mem_of_getElem? (i := 0) rfl)))) (fun _ h9 => h9) rfl (by decide +kernel) (by first | rfl | decide) (by first | rfl | decide) (Nat.le_of_ble_eq_true rfl) dX12_next_237 (fun H locs hP hD hS => ?_)
                            have hP : va_P D vwCl [(m0, .inr (12, [m_0, m_1, m_2, m_3, m_4, m_5, m_6, m_7, m_8, m_9, m_10, m_11, .ref t0, .int ta, .int v_1852, .int x_2144, .int 1, .long (-1), m_18, m_19, m_20, m_21, m_22, m_23, m_24, m_25, m_26, m_27, m_28, m_29, m_30, m_31, m_32, m_33, m_34, m_35, m_36, m_37, m_38, m_39, m_40, m_41, m_42, m_43, m_44, m_45, m_46, m_47, m_48, m_49, m_50, m_51, m_52, m_53, m_54, m_55, m_56, m_57, m_58, m_59])), (t0, .inl (K 0, 400, .inl ft))] H := hP
                            have hD : va_D A [(m0, .inr (12, [m_0, m_1, m_2, m_3, m_4, m_5, m_6, m_7, m_8, m_9, m_10, m_11, .ref t0, .int ta, .int v_1852, .int x_2144, .int 1, .long (-1), m_18, m_19, m_20, m_21, m_22, m_23, m_24, m_25, m_26, m_27, m_28, m_29, m_30, m_31, m_32, m_33, m_34, m_35, m_36, m_37, m_38, m_39, m_40, m_41, m_42, m_43, m_44, m_45, m_46, m_47, m_48, m_49, m_50, m_51, m_52, m_53, m_54, m_55, m_56, m_57, m_58, m_59])), (t0, .inl (K 0, 400, .inl ft))] := hD
                            refine lv_goto (tgt := 149) hx hb dX12_next_240 (by decide) ?_
                            have hz_2145 : ((-1) : Int64).toInt = (-1) := rfl
                            exact ih_2132 x_2144 (-1) (by rw [hx_2144]; omega) (show v_1852.toInt < (x_2144 : Int32).toInt ∧ (x_2144 : Int32).toInt ≤ ta.toInt ∧ (v_1852.toInt + 1 < (x_2144 : Int32).toInt ∨ ((-1) : Int64).toInt ≤ 26) by omega) (by omega) _ _ hP hD hS ls (lv_sub hl [0] rfl)
                          · have c_2143i := i_nle (x := 10) (y := (v_2091.toInt - v_1852.toInt)) rfl hx_2142 c_2143
                            refine lv_aload_n hx hb dX12_next_198 rfl (lv_at hl 0 rfl) ?_
                            refine va_get (ci := 12) (v := .long v_2092) (C := RX12) (T := TX12) (N := 60) hx hb hts hw12 hown hK hP 0 rfl rfl 17 (by decide) (hts (.fieldLink RX12 249 "SmokeTuneModel" "worth" "J") (List.mem_cons_of_mem _ (List.mem_append_left _ (List.mem_of_getElem? (i := 4) rfl)))) (fun _ h9 => h9) rfl dX12_next_199 ?_
                            refine lv_ldc2 (v := 32) hx hb hown (hts (.constantLong RX12 262 (32)) (List.mem_cons_of_mem _ (List.mem_append_left _ (List.mem_of_getElem? (i := 6) rfl)))) dX12_next_202 ?_
                            refine lv_lmul hx hb dX12_next_205 ?_
                            refine lv_topl (fun x_2146 ex_2146 => ?_)
                            refine lv_aload_n hx hb dX12_next_206 rfl (lv_at hl 0 rfl) ?_
                            refine va_get (ci := 12) (v := .ref t0) (C := RX12) (T := TX12) (N := 60) hx hb hts hw12 hown hK hP 0 rfl rfl 12 (by decide) (hts (.fieldLink RX12 35 "SmokeTuneModel" "tape" "[I") (List.mem_cons_of_mem _ (List.mem_append_left _ (List.mem_of_getElem? (i := 3) rfl)))) (fun _ h9 => h9) rfl dX12_next_207 ?_
                            refine lv_aload_n hx hb dX12_next_210 rfl (lv_at hl 0 rfl) ?_
                            refine va_get (ci := 12) (v := .int v_2091) (C := RX12) (T := TX12) (N := 60) hx hb hts hw12 hown hK hP 0 rfl rfl 15 (by decide) (hts (.fieldLink RX12 236 "SmokeTuneModel" "to" "I") (List.mem_cons_of_mem _ (List.mem_append_left _ (List.mem_of_getElem? (i := 0) rfl)))) (fun _ h9 => h9) rfl dX12_next_211 ?_
                            refine va_iald hx hb hK hP 1 0 rfl rfl (i_in rfl (by omega)) dX12_next_214 ?_
                            refine lv_topi (fun x_2147 ex_2147 => ?_)
                            have erx_2147 : x_2147 = x_2136 := ex_2147.trans (by rw [i_clamp rfl]; exact kx_2136)
                            have hrx_2147 : x_2147.toInt = x_2136.toInt := (congrArg Int32.toInt erx_2147).trans rfl
                            refine lv_i2l hx hb dX12_next_215 rfl ?_
                            refine lv_topl (fun x_2148 ex_2148 => ?_)
                            have hx_2148 : x_2148.toInt = x_2136.toInt := by rw [ex_2148]; exact i_wide hrx_2147
                            refine lv_ladd hx hb dX12_next_216 ?_
                            refine lv_topl (fun x_2149 ex_2149 => ?_)
                            refine lv_ldc2 (v := 96) hx hb hown (hts (.constantLong RX12 264 (96)) (List.mem_cons_of_mem _ (List.mem_append_left _ (List.mem_of_getElem? (i := 7) rfl)))) dX12_next_217 ?_
                            refine lv_lsub hx hb dX12_next_220 ?_
                            refine lv_topl (fun x_2150 ex_2150 => ?_)
                            refine lv_goto (tgt := 227) hx hb dX12_next_221 (by decide) ?_
                            refine va_put (ci := 12) (v := .long x_2150) (ty := .long) (C := RX12) (T := TX12) (N := 60) hx hb hts hw12 tyX12 tyX12_ok nmX12 hown hK hP hD hS 0 rfl rfl 17 (by decide) (hts (.fieldLink RX12 249 "SmokeTuneModel" "worth" "J") (List.mem_cons_of_mem _ (List.mem_append_left _ (List.mem_of_getElem? (i := 4) rfl)))) (fun _ h9 => h9) rfl (by decide +kernel) (by first | rfl | decide) (by first | rfl | decide) (Nat.le_of_ble_eq_true rfl) dX12_next_227 (fun H locs hP hD hS => ?_)
                            have hP : va_P D vwCl [(m0, .inr (12, [m_0, m_1, m_2, m_3, m_4, m_5, m_6, m_7, m_8, m_9, m_10, m_11, .ref t0, .int ta, .int v_1852, .int v_2091, .int 1, .long x_2150, m_18, m_19, m_20, m_21, m_22, m_23, m_24, m_25, m_26, m_27, m_28, m_29, m_30, m_31, m_32, m_33, m_34, m_35, m_36, m_37, m_38, m_39, m_40, m_41, m_42, m_43, m_44, m_45, m_46, m_47, m_48, m_49, m_50, m_51, m_52, m_53, m_54, m_55, m_56, m_57, m_58, m_59])), (t0, .inl (K 0, 400, .inl ft))] H := hP
                            have hD : va_D A [(m0, .inr (12, [m_0, m_1, m_2, m_3, m_4, m_5, m_6, m_7, m_8, m_9, m_10, m_11, .ref t0, .int ta, .int v_1852, .int v_2091, .int 1, .long x_2150, m_18, m_19, m_20, m_21, m_22, m_23, m_24, m_25, m_26, m_27, m_28, m_29, m_30, m_31, m_32, m_33, m_34, m_35, m_36, m_37, m_38, m_39, m_40, m_41, m_42, m_43, m_44, m_45, m_46, m_47, m_48, m_49, m_50, m_51, m_52, m_53, m_54, m_55, m_56, m_57, m_58, m_59])), (t0, .inl (K 0, 400, .inl ft))] := hD
                            refine lv_aload_n hx hb dX12_next_230 rfl (lv_at hl 0 rfl) ?_
                            refine lv_dup hx hb dX12_next_231 rfl ?_
                            refine va_get (ci := 12) (v := .int v_2091) (C := RX12) (T := TX12) (N := 60) hx hb hts hw12 hown hK hP 0 rfl rfl 15 (by decide) (hts (.fieldLink RX12 236 "SmokeTuneModel" "to" "I") (List.mem_cons_of_mem _ (List.mem_append_left _ (List.mem_of_getElem? (i := 0) rfl)))) (fun _ h9 => h9) rfl dX12_next_232 ?_
                            refine lv_iconst (v := 1) hx hb dX12_next_235 (by decide) ?_
                            refine lv_iadd hx hb dX12_next_236 ?_
                            refine lv_topi (fun x_2151 ex_2151 => ?_)
                            have hx_2151 : x_2151.toInt = (v_2091.toInt + 1) := by rw [ex_2151]; exact i_add rfl (show (1 : Int32).toInt = 1 from rfl) (by omega)
                            refine va_put (ci := 12) (v := .int x_2151) (ty := .int) (C := RX12) (T := TX12) (N := 60) hx hb hts hw12 tyX12 tyX12_ok nmX12 hown hK hP hD hS 0 rfl rfl 15 (by decide) (hts (.fieldLink RX12 236 "SmokeTuneModel" "to" "I") (List.mem_cons_of_mem _ (List.mem_append_left _ (List.mem_of_getElem? (i := 0) rfl)))) (fun _ h9 => h9) rfl (by decide +kernel) (by first | rfl | decide) (by first | rfl | decide) (Nat.le_of_ble_eq_true rfl) dX12_next_237 (fun H locs hP hD hS => ?_)
                            have hP : va_P D vwCl [(m0, .inr (12, [m_0, m_1, m_2, m_3, m_4, m_5, m_6, m_7, m_8, m_9, m_10, m_11, .ref t0, .int ta, .int v_1852, .int x_2151, .int 1, .long x_2150, m_18, m_19, m_20, m_21, m_22, m_23, m_24, m_25, m_26, m_27, m_28, m_29, m_30, m_31, m_32, m_33, m_34, m_35, m_36, m_37, m_38, m_39, m_40, m_41, m_42, m_43, m_44, m_45, m_46, m_47, m_48, m_49, m_50, m_51, m_52, m_53, m_54, m_55, m_56, m_57, m_58, m_59])), (t0, .inl (K 0, 400, .inl ft))] H := hP
                            have hD : va_D A [(m0, .inr (12, [m_0, m_1, m_2, m_3, m_4, m_5, m_6, m_7, m_8, m_9, m_10, m_11, .ref t0, .int ta, .int v_1852, .int x_2151, .int 1, .long x_2150, m_18, m_19, m_20, m_21, m_22, m_23, m_24, m_25, m_26, m_27, m_28, m_29, m_30, m_31, m_32, m_33, m_34, m_35, m_36, m_37, m_38, m_39, m_40, m_41, m_42, m_43, m_44, m_45, m_46, m_47, m_48, m_49, m_50, m_51, m_52, m_53, m_54, m_55, m_56, m_57, m_58, m_59])), (t0, .inl (K 0, 400, .inl ft))] := hD
                            refine lv_goto (tgt := 149) hx hb dX12_next_240 (by decide) ?_
                            exact ih_2132 x_2151 x_2150 (by rw [hx_2151]; omega) (show v_1852.toInt < (x_2151 : Int32).toInt ∧ (x_2151 : Int32).toInt ≤ ta.toInt ∧ (v_1852.toInt + 1 < (x_2151 : Int32).toInt ∨ (x_2150 : Int64).toInt ≤ 26) by omega) (by omega) _ _ hP hD hS ls (lv_sub hl [0] rfl)
                        · refine lv_if_eq (tgt := 243) hx hb dX12_next_180 (by decide) (fun c_2152 => ?_) (fun c_2152 => absurd (by decide) c_2152)
                          refine lv_aload_n hx hb dX12_next_243 rfl (lv_at hl 0 rfl) ?_
                          refine va_get (ci := 12) (v := .int 1) (C := RX12) (T := TX12) (N := 60) hx hb hts hw12 hown hK hP 0 rfl rfl 16 (by decide) (hts (.fieldLink RX12 259 "SmokeTuneModel" "sort" "I") (List.mem_cons_of_mem _ (List.mem_append_left _ (List.mem_of_getElem? (i := 5) rfl)))) (fun _ h9 => h9) rfl dX12_next_244 ?_
                          refine lv_iconst (v := 2) hx hb dX12_next_247 (by decide) ?_
                          refine lv_icmp_ne (tgt := 335) hx hb dX12_next_248 (by decide) (fun c_2153 => ?_) (fun c_2153 => absurd c_2153 (by decide))
                          rw [← hQ]
                          have hP9 := hP.sub (ws' := [(m0, .inr (12, [m_0, m_1, m_2, m_3, m_4, m_5, m_6, m_7, m_8, m_9, m_10, m_11, .ref t0, .int ta, .int v_1852, .int v_2091, .int 1, .long v_2092, m_18, m_19, m_20, m_21, m_22, m_23, m_24, m_25, m_26, m_27, m_28, m_29, m_30, m_31, m_32, m_33, m_34, m_35, m_36, m_37, m_38, m_39, m_40, m_41, m_42, m_43, m_44, m_45, m_46, m_47, m_48, m_49, m_50, m_51, m_52, m_53, m_54, m_55, m_56, m_57, m_58, m_59])), (t0, .inl (K 0, 400, .inl ft))]) [0, 1] rfl
                          have hD9 := hD.sub (ws' := [(m0, .inr (12, [m_0, m_1, m_2, m_3, m_4, m_5, m_6, m_7, m_8, m_9, m_10, m_11, .ref t0, .int ta, .int v_1852, .int v_2091, .int 1, .long v_2092, m_18, m_19, m_20, m_21, m_22, m_23, m_24, m_25, m_26, m_27, m_28, m_29, m_30, m_31, m_32, m_33, m_34, m_35, m_36, m_37, m_38, m_39, m_40, m_41, m_42, m_43, m_44, m_45, m_46, m_47, m_48, m_49, m_50, m_51, m_52, m_53, m_54, m_55, m_56, m_57, m_58, m_59])), (t0, .inl (K 0, 400, .inl ft))]) [0, 1] (by decide) rfl
                          exact W.vret hx hb hr (fun t ht hW => ⟨⟨((fun _ => 0, fun _ => fun _ => 0, fun _ => fun _ => 0, fun i => match i with | 0 => v_1852 | 1 => v_2091 | _ => 1, fun i => match i with | _ => v_2092, fun _ => fun _ => none) : Su), rfl, ⟨(show 0 ≤ (v_1852 : Int32).toInt ∧ (v_1852 : Int32).toInt ≤ 400 by omega), (show 0 ≤ (v_2091 : Int32).toInt ∧ (v_2091 : Int32).toInt ≤ 401 by omega), (show 0 ≤ (1 : Int32).toInt ∧ (1 : Int32).toInt ≤ 3 by decide), (show ((0 ≤ (v_1852 : Int32).toInt ∧ (v_1852 : Int32).toInt ≤ (v_2091 : Int32).toInt ∧ (v_2091 : Int32).toInt ≤ ta.toInt) ∧ (1 = 0 ∨ (v_1852 : Int32).toInt < (v_2091 : Int32).toInt) ∧ (1 ≠ 1 ∨ (v_1852 : Int32).toInt + 1 < (v_2091 : Int32).toInt ∨ (v_2092 : Int64).toInt ≤ 26)) by omega), (show to.toInt ≤ (v_1852 : Int32).toInt by omega), trivial⟩, (⟨by rw [ht]; exact hP9, hD9⟩ : Wd D A _ t)⟩, hS.F ht⟩) hS.2.2 dX12_next_335
                  exact lp_2131 ((ta.toInt - (x_2032 : Int32).toInt : Int).toNat + 1) x_2032 x_2031 (by rw [hx_2032]; omega) (show v_1852.toInt < (x_2032 : Int32).toInt ∧ (x_2032 : Int32).toInt ≤ ta.toInt ∧ (v_1852.toInt + 1 < (x_2032 : Int32).toInt ∨ (x_2031 : Int64).toInt ≤ 26) by omega) (Nat.lt_succ_self _) _ _ hP hD hS ls (lv_sub hl [0] rfl)
              · exfalso; omega
          · refine lv_if_eq (tgt := 94) hx hb dX12_next_87 (by decide) (fun c_2154 => ?_) (fun c_2154 => absurd (by decide) c_2154)
            refine lv_aload_n hx hb dX12_next_94 rfl (lv_at hl 0 rfl) ?_
            refine va_get (ci := 12) (v := .ref t0) (C := RX12) (T := TX12) (N := 60) hx hb hts hw12 hown hK hP 0 rfl rfl 12 (by decide) (hts (.fieldLink RX12 35 "SmokeTuneModel" "tape" "[I") (List.mem_cons_of_mem _ (List.mem_append_left _ (List.mem_of_getElem? (i := 3) rfl)))) (fun _ h9 => h9) rfl dX12_next_95 ?_
            refine lv_aload_n hx hb dX12_next_98 rfl (lv_at hl 0 rfl) ?_
            refine va_get (ci := 12) (v := .int v_1852) (C := RX12) (T := TX12) (N := 60) hx hb hts hw12 hown hK hP 0 rfl rfl 14 (by decide) (hts (.fieldLink RX12 246 "SmokeTuneModel" "from" "I") (List.mem_cons_of_mem _ (List.mem_append_left _ (List.mem_of_getElem? (i := 1) rfl)))) (fun _ h9 => h9) rfl dX12_next_99 ?_
            refine va_iald hx hb hK hP 1 0 rfl rfl (i_in rfl (by omega)) dX12_next_102 ?_
            refine lv_topi (fun x_2155 ex_2155 => ?_)
            have erx_2155 : x_2155 = x_1866 := ex_2155.trans (by rw [i_clamp rfl]; exact kx_1866)
            have hrx_2155 : x_2155.toInt = x_1866.toInt := (congrArg Int32.toInt erx_2155).trans rfl
            refine pci (va_runS (As := [.int x_2155]) (rest := [.ref m0]) ⟨hx, hb, hml, hown, hts⟩ (v_isDigit l D K x_1866.toInt x_2155 H.size hrx_2155) (va_cwS 1 hts gX12_next_X12_isDigit rfl rfl rfl (by decide +kernel) ⟨Nat.le_of_ble_eq_true rfl, Nat.le_of_ble_eq_true rfl⟩) (mkS hK hN (va_P.nil) (va_D.nil (A := fun _ => True))) rfl rfl hl.1 rfl (lv_room (Nat.le_of_ble_eq_true rfl)) dX12_next_103 ⟨Nat.le_of_ble_eq_true rfl, Nat.le_of_ble_eq_true rfl⟩) (fun r_2156 hw => ?_)
            obtain ⟨hw, -⟩ := hw
            rcases hw with ⟨rfl, h_2157, h_2158⟩ | ⟨rfl, h_2159⟩
            · refine lv_if_eq (tgt := 113) hx hb dX12_next_106 (by decide) (fun c_2160 => absurd c_2160 (by decide)) (fun c_2160 => ?_)
              refine lv_iconst (v := 2) hx hb dX12_next_109 (by decide) ?_
              refine lv_goto (tgt := 114) hx hb dX12_next_110 (by decide) ?_
              refine va_put (ci := 12) (v := .int 2) (ty := .int) (C := RX12) (T := TX12) (N := 60) hx hb hts hw12 tyX12 tyX12_ok nmX12 hown hK hP hD hS 0 rfl rfl 16 (by decide) (hts (.fieldLink RX12 259 "SmokeTuneModel" "sort" "I") (List.mem_cons_of_mem _ (List.mem_append_left _ (List.mem_of_getElem? (i := 5) rfl)))) (fun _ h9 => h9) rfl (by decide +kernel) (by first | rfl | decide) (by first | rfl | decide) (Nat.le_of_ble_eq_true rfl) dX12_next_114 (fun H locs hP hD hS => ?_)
              have hP : va_P D vwCl [(m0, .inr (12, [m_0, m_1, m_2, m_3, m_4, m_5, m_6, m_7, m_8, m_9, m_10, m_11, .ref t0, .int ta, .int v_1852, .int v_1852, .int 2, .long 0, m_18, m_19, m_20, m_21, m_22, m_23, m_24, m_25, m_26, m_27, m_28, m_29, m_30, m_31, m_32, m_33, m_34, m_35, m_36, m_37, m_38, m_39, m_40, m_41, m_42, m_43, m_44, m_45, m_46, m_47, m_48, m_49, m_50, m_51, m_52, m_53, m_54, m_55, m_56, m_57, m_58, m_59])), (t0, .inl (K 0, 400, .inl ft))] H := hP
              have hD : va_D A [(m0, .inr (12, [m_0, m_1, m_2, m_3, m_4, m_5, m_6, m_7, m_8, m_9, m_10, m_11, .ref t0, .int ta, .int v_1852, .int v_1852, .int 2, .long 0, m_18, m_19, m_20, m_21, m_22, m_23, m_24, m_25, m_26, m_27, m_28, m_29, m_30, m_31, m_32, m_33, m_34, m_35, m_36, m_37, m_38, m_39, m_40, m_41, m_42, m_43, m_44, m_45, m_46, m_47, m_48, m_49, m_50, m_51, m_52, m_53, m_54, m_55, m_56, m_57, m_58, m_59])), (t0, .inl (K 0, 400, .inl ft))] := hD
              refine lv_aload_n hx hb dX12_next_117 rfl (lv_at hl 0 rfl) ?_
              refine va_get (ci := 12) (v := .int 2) (C := RX12) (T := TX12) (N := 60) hx hb hts hw12 hown hK hP 0 rfl rfl 16 (by decide) (hts (.fieldLink RX12 259 "SmokeTuneModel" "sort" "I") (List.mem_cons_of_mem _ (List.mem_append_left _ (List.mem_of_getElem? (i := 5) rfl)))) (fun _ h9 => h9) rfl dX12_next_118 ?_
              refine lv_iconst (v := 3) hx hb dX12_next_121 (by decide) ?_
              refine lv_icmp_ne (tgt := 149) hx hb dX12_next_122 (by decide) (fun c_2161 => ?_) (fun c_2161 => absurd c_2161 (by decide))
              refine lv_aload_n hx hb dX12_next_149 rfl (lv_at hl 0 rfl) ?_
              refine va_get (ci := 12) (v := .int 2) (C := RX12) (T := TX12) (N := 60) hx hb hts hw12 hown hK hP 0 rfl rfl 16 (by decide) (hts (.fieldLink RX12 259 "SmokeTuneModel" "sort" "I") (List.mem_cons_of_mem _ (List.mem_append_left _ (List.mem_of_getElem? (i := 5) rfl)))) (fun _ h9 => h9) rfl dX12_next_150 ?_
              refine lv_iconst (v := 1) hx hb dX12_next_153 (by decide) ?_
              refine lv_icmp_ne (tgt := 243) hx hb dX12_next_154 (by decide) (fun c_2162 => ?_) (fun c_2162 => absurd c_2162 (by decide))
              refine lv_aload_n hx hb dX12_next_243 rfl (lv_at hl 0 rfl) ?_
              refine va_get (ci := 12) (v := .int 2) (C := RX12) (T := TX12) (N := 60) hx hb hts hw12 hown hK hP 0 rfl rfl 16 (by decide) (hts (.fieldLink RX12 259 "SmokeTuneModel" "sort" "I") (List.mem_cons_of_mem _ (List.mem_append_left _ (List.mem_of_getElem? (i := 5) rfl)))) (fun _ h9 => h9) rfl dX12_next_244 ?_
              refine lv_iconst (v := 2) hx hb dX12_next_247 (by decide) ?_
              refine lv_icmp_ne (tgt := 335) hx hb dX12_next_248 (by decide) (fun c_2163 => absurd (by decide) c_2163) (fun c_2163 => ?_)
              refine lv_aload_n hx hb dX12_next_251 rfl (lv_at hl 0 rfl) ?_
              refine va_get (ci := 12) (v := .int v_1852) (C := RX12) (T := TX12) (N := 60) hx hb hts hw12 hown hK hP 0 rfl rfl 15 (by decide) (hts (.fieldLink RX12 236 "SmokeTuneModel" "to" "I") (List.mem_cons_of_mem _ (List.mem_append_left _ (List.mem_of_getElem? (i := 0) rfl)))) (fun _ h9 => h9) rfl dX12_next_252 ?_
              refine lv_aload_n hx hb dX12_next_255 rfl (lv_at hl 0 rfl) ?_
              refine va_get (ci := 12) (v := .int ta) (C := RX12) (T := TX12) (N := 60) hx hb hts hw12 hown hK hP 0 rfl rfl 13 (by decide) (hts (.fieldLink RX12 227 "SmokeTuneModel" "taped" "I") (List.mem_cons_of_mem _ (List.mem_append_left _ (List.mem_of_getElem? (i := 2) rfl)))) (fun _ h9 => h9) rfl dX12_next_256 ?_
              refine lv_icmp_ge (tgt := 335) hx hb dX12_next_259 (by decide) (fun c_2164 => ?_) (fun c_2164 => ?_)
              · have c_2164i := i_le (x := ta.toInt) (y := v_1852.toInt) rfl rfl c_2164
                rw [← hQ]
                have hP9 := hP.sub (ws' := [(m0, .inr (12, [m_0, m_1, m_2, m_3, m_4, m_5, m_6, m_7, m_8, m_9, m_10, m_11, .ref t0, .int ta, .int v_1852, .int v_1852, .int 2, .long 0, m_18, m_19, m_20, m_21, m_22, m_23, m_24, m_25, m_26, m_27, m_28, m_29, m_30, m_31, m_32, m_33, m_34, m_35, m_36, m_37, m_38, m_39, m_40, m_41, m_42, m_43, m_44, m_45, m_46, m_47, m_48, m_49, m_50, m_51, m_52, m_53, m_54, m_55, m_56, m_57, m_58, m_59])), (t0, .inl (K 0, 400, .inl ft))]) [0, 1] rfl
                have hD9 := hD.sub (ws' := [(m0, .inr (12, [m_0, m_1, m_2, m_3, m_4, m_5, m_6, m_7, m_8, m_9, m_10, m_11, .ref t0, .int ta, .int v_1852, .int v_1852, .int 2, .long 0, m_18, m_19, m_20, m_21, m_22, m_23, m_24, m_25, m_26, m_27, m_28, m_29, m_30, m_31, m_32, m_33, m_34, m_35, m_36, m_37, m_38, m_39, m_40, m_41, m_42, m_43, m_44, m_45, m_46, m_47, m_48, m_49, m_50, m_51, m_52, m_53, m_54, m_55, m_56, m_57, m_58, m_59])), (t0, .inl (K 0, 400, .inl ft))]) [0, 1] (by decide) rfl
                exact W.vret hx hb hr (fun t ht hW => ⟨⟨((fun _ => 0, fun _ => fun _ => 0, fun _ => fun _ => 0, fun i => match i with | 0 => v_1852 | 1 => v_1852 | _ => 2, fun i => match i with | _ => 0, fun _ => fun _ => none) : Su), rfl, ⟨(show 0 ≤ (v_1852 : Int32).toInt ∧ (v_1852 : Int32).toInt ≤ 400 by omega), (show 0 ≤ (v_1852 : Int32).toInt ∧ (v_1852 : Int32).toInt ≤ 401 by omega), (show 0 ≤ (2 : Int32).toInt ∧ (2 : Int32).toInt ≤ 3 by decide), (show ((0 ≤ (v_1852 : Int32).toInt ∧ (v_1852 : Int32).toInt ≤ (v_1852 : Int32).toInt ∧ (v_1852 : Int32).toInt ≤ ta.toInt) ∧ (2 = 0 ∨ (v_1852 : Int32).toInt < (v_1852 : Int32).toInt) ∧ (2 ≠ 1 ∨ (v_1852 : Int32).toInt + 1 < (v_1852 : Int32).toInt ∨ 0 ≤ 26)) by omega), (show to.toInt ≤ (v_1852 : Int32).toInt by omega), trivial⟩, (⟨by rw [ht]; exact hP9, hD9⟩ : Wd D A _ t)⟩, hS.F ht⟩) hS.2.2 dX12_next_335
              · have c_2164i := i_nle (x := ta.toInt) (y := v_1852.toInt) rfl rfl c_2164
                refine lv_aload_n hx hb dX12_next_262 rfl (lv_at hl 0 rfl) ?_
                refine va_get (ci := 12) (v := .ref t0) (C := RX12) (T := TX12) (N := 60) hx hb hts hw12 hown hK hP 0 rfl rfl 12 (by decide) (hts (.fieldLink RX12 35 "SmokeTuneModel" "tape" "[I") (List.mem_cons_of_mem _ (List.mem_append_left _ (List.mem_of_getElem? (i := 3) rfl)))) (fun _ h9 => h9) rfl dX12_next_263 ?_
                refine lv_aload_n hx hb dX12_next_266 rfl (lv_at hl 0 rfl) ?_
                refine va_get (ci := 12) (v := .int v_1852) (C := RX12) (T := TX12) (N := 60) hx hb hts hw12 hown hK hP 0 rfl rfl 15 (by decide) (hts (.fieldLink RX12 236 "SmokeTuneModel" "to" "I") (List.mem_cons_of_mem _ (List.mem_append_left _ (List.mem_of_getElem? (i := 0) rfl)))) (fun _ h9 => h9) rfl dX12_next_267 ?_
                refine va_iald hx hb hK hP 1 0 rfl rfl (i_in rfl (by omega)) dX12_next_270 ?_
                refine lv_topi (fun x_2165 ex_2165 => ?_)
                have erx_2165 : x_2165 = x_1866 := ex_2165.trans (by rw [i_clamp rfl]; exact kx_1866)
                have hrx_2165 : x_2165.toInt = x_1866.toInt := (congrArg Int32.toInt erx_2165).trans rfl
                refine pci (va_runS (As := [.int x_2165]) (rest := []) ⟨hx, hb, hml, hown, hts⟩ (v_isDigit l D K x_1866.toInt x_2165 H.size hrx_2165) (va_cwS 1 hts gX12_next_X12_isDigit rfl rfl rfl (by decide +kernel) ⟨Nat.le_of_ble_eq_true rfl, Nat.le_of_ble_eq_true rfl⟩) (mkS hK hN (va_P.nil) (va_D.nil (A := fun _ => True))) rfl rfl hl.1 rfl (lv_room (Nat.le_of_ble_eq_true rfl)) dX12_next_271 ⟨Nat.le_of_ble_eq_true rfl, Nat.le_of_ble_eq_true rfl⟩) (fun r_2166 hw => ?_)
                obtain ⟨hw, -⟩ := hw
                rcases hw with ⟨rfl, h_2167, h_2168⟩ | ⟨rfl, h_2169⟩
                · refine lv_if_eq (tgt := 335) hx hb dX12_next_274 (by decide) (fun c_2170 => absurd c_2170 (by decide)) (fun c_2170 => ?_)
                  refine lv_aload_n hx hb dX12_next_277 rfl (lv_at hl 0 rfl) ?_
                  refine lv_aload_n hx hb dX12_next_278 rfl (lv_at hl 0 rfl) ?_
                  refine va_get (ci := 12) (v := .long 0) (C := RX12) (T := TX12) (N := 60) hx hb hts hw12 hown hK hP 0 rfl rfl 17 (by decide) (hts (.fieldLink RX12 249 "SmokeTuneModel" "worth" "J") (List.mem_cons_of_mem _ (List.mem_append_left _ (List.mem_of_getElem? (i := 4) rfl)))) (fun _ h9 => h9) rfl dX12_next_279 ?_
                  refine lv_ldc2 (v := 1000000) hx hb hown (hts (.constantLong RX12 268 (1000000)) (List.mem_cons_of_mem _ (List.mem_append_left _ (List.mem_of_getElem? (i := 9) rfl)))) dX12_next_282 ?_
                  refine W.lcmp hx hb dX12_next_285 ?_
                  refine lv_if_le (tgt := 296) hx hb dX12_next_286 (by decide) (fun c_2171 => ?_) (fun c_2171 => absurd (by decide) c_2171)
                  refine lv_aload_n hx hb dX12_next_296 rfl (lv_at hl 0 rfl) ?_
                  refine va_get (ci := 12) (v := .long 0) (C := RX12) (T := TX12) (N := 60) hx hb hts hw12 hown hK hP 0 rfl rfl 17 (by decide) (hts (.fieldLink RX12 249 "SmokeTuneModel" "worth" "J") (List.mem_cons_of_mem _ (List.mem_append_left _ (List.mem_of_getElem? (i := 4) rfl)))) (fun _ h9 => h9) rfl dX12_next_297 ?_
                  refine lv_ldc2 (v := 10) hx hb hown (hts (.constantLong RX12 219 (10)) (List.mem_cons_of_mem _ (List.mem_append_left _ (List.mem_of_getElem? (i := 10) rfl)))) dX12_next_300 ?_
                  refine lv_lmul hx hb dX12_next_303 ?_
                  refine lv_topl (fun x_2172 ex_2172 => ?_)
                  obtain rfl : x_2172 = 0 := ex_2172.trans (by first | rfl | decide)
                  refine lv_aload_n hx hb dX12_next_304 rfl (lv_at hl 0 rfl) ?_
                  refine va_get (ci := 12) (v := .ref t0) (C := RX12) (T := TX12) (N := 60) hx hb hts hw12 hown hK hP 0 rfl rfl 12 (by decide) (hts (.fieldLink RX12 35 "SmokeTuneModel" "tape" "[I") (List.mem_cons_of_mem _ (List.mem_append_left _ (List.mem_of_getElem? (i := 3) rfl)))) (fun _ h9 => h9) rfl dX12_next_305 ?_
                  refine lv_aload_n hx hb dX12_next_308 rfl (lv_at hl 0 rfl) ?_
                  refine va_get (ci := 12) (v := .int v_1852) (C := RX12) (T := TX12) (N := 60) hx hb hts hw12 hown hK hP 0 rfl rfl 15 (by decide) (hts (.fieldLink RX12 236 "SmokeTuneModel" "to" "I") (List.mem_cons_of_mem _ (List.mem_append_left _ (List.mem_of_getElem? (i := 0) rfl)))) (fun _ h9 => h9) rfl dX12_next_309 ?_
                  refine va_iald hx hb hK hP 1 0 rfl rfl (i_in rfl (by omega)) dX12_next_312 ?_
                  refine lv_topi (fun x_2173 ex_2173 => ?_)
                  have erx_2173 : x_2173 = x_1866 := ex_2173.trans (by rw [i_clamp rfl]; exact kx_1866)
                  have hrx_2173 : x_2173.toInt = x_1866.toInt := (congrArg Int32.toInt erx_2173).trans rfl
                  refine lv_i2l hx hb dX12_next_313 rfl ?_
                  refine lv_topl (fun x_2174 ex_2174 => ?_)
                  have hx_2174 : x_2174.toInt = x_1866.toInt := by rw [ex_2174]; exact i_wide hrx_2173
                  refine lv_ladd hx hb dX12_next_314 ?_
                  refine lv_topl (fun x_2175 ex_2175 => ?_)
                  have hx_2175 : x_2175.toInt = (0 + x_1866.toInt) := by rw [ex_2175]; exact l_add (show (0 : Int64).toInt = 0 from rfl) hx_2174 (by omega)
                  refine lv_ldc2 (v := 48) hx hb hown (hts (.constantLong RX12 270 (48)) (List.mem_cons_of_mem _ (List.mem_append_left _ (List.mem_of_getElem? (i := 11) rfl)))) dX12_next_315 ?_
                  refine lv_lsub hx hb dX12_next_318 ?_
                  refine lv_topl (fun x_2176 ex_2176 => ?_)
                  have hx_2176 : x_2176.toInt = ((0 + x_1866.toInt) - 48) := by rw [ex_2176]; exact l_sub hx_2175 (show (48 : Int64).toInt = 48 from rfl) (by omega)
                  refine va_put (ci := 12) (v := .long x_2176) (ty := .long) (C := RX12) (T := TX12) (N := 60) hx hb hts hw12 tyX12 tyX12_ok nmX12 hown hK hP hD hS 0 rfl rfl 17 (by decide) (hts (.fieldLink RX12 249 "SmokeTuneModel" "worth" "J") (List.mem_cons_of_mem _ (List.mem_append_left _ (List.mem_of_getElem? (i := 4) rfl)))) (fun _ h9 => h9) rfl (by decide +kernel) (by first | rfl | decide) (by first | rfl | decide) (Nat.le_of_ble_eq_true rfl) dX12_next_319 (fun H locs hP hD hS => ?_)
                  have hP : va_P D vwCl [(m0, .inr (12, [m_0, m_1, m_2, m_3, m_4, m_5, m_6, m_7, m_8, m_9, m_10, m_11, .ref t0, .int ta, .int v_1852, .int v_1852, .int 2, .long x_2176, m_18, m_19, m_20, m_21, m_22, m_23, m_24, m_25, m_26, m_27, m_28, m_29, m_30, m_31, m_32, m_33, m_34, m_35, m_36, m_37, m_38, m_39, m_40, m_41, m_42, m_43, m_44, m_45, m_46, m_47, m_48, m_49, m_50, m_51, m_52, m_53, m_54, m_55, m_56, m_57, m_58, m_59])), (t0, .inl (K 0, 400, .inl ft))] H := hP
                  have hD : va_D A [(m0, .inr (12, [m_0, m_1, m_2, m_3, m_4, m_5, m_6, m_7, m_8, m_9, m_10, m_11, .ref t0, .int ta, .int v_1852, .int v_1852, .int 2, .long x_2176, m_18, m_19, m_20, m_21, m_22, m_23, m_24, m_25, m_26, m_27, m_28, m_29, m_30, m_31, m_32, m_33, m_34, m_35, m_36, m_37, m_38, m_39, m_40, m_41, m_42, m_43, m_44, m_45, m_46, m_47, m_48, m_49, m_50, m_51, m_52, m_53, m_54, m_55, m_56, m_57, m_58, m_59])), (t0, .inl (K 0, 400, .inl ft))] := hD
                  refine lv_aload_n hx hb dX12_next_322 rfl (lv_at hl 0 rfl) ?_
                  refine lv_dup hx hb dX12_next_323 rfl ?_
                  refine va_get (ci := 12) (v := .int v_1852) (C := RX12) (T := TX12) (N := 60) hx hb hts hw12 hown hK hP 0 rfl rfl 15 (by decide) (hts (.fieldLink RX12 236 "SmokeTuneModel" "to" "I") (List.mem_cons_of_mem _ (List.mem_append_left _ (List.mem_of_getElem? (i := 0) rfl)))) (fun _ h9 => h9) rfl dX12_next_324 ?_
                  refine lv_iconst (v := 1) hx hb dX12_next_327 (by decide) ?_
                  refine lv_iadd hx hb dX12_next_328 ?_
                  refine lv_topi (fun x_2177 ex_2177 => ?_)
                  have hx_2177 : x_2177.toInt = (v_1852.toInt + 1) := by rw [ex_2177]; exact i_add rfl (show (1 : Int32).toInt = 1 from rfl) (by omega)
                  refine va_put (ci := 12) (v := .int x_2177) (ty := .int) (C := RX12) (T := TX12) (N := 60) hx hb hts hw12 tyX12 tyX12_ok nmX12 hown hK hP hD hS 0 rfl rfl 15 (by decide) (hts (.fieldLink RX12 236 "SmokeTuneModel" "to" "I") (List.mem_cons_of_mem _ (List.mem_append_left _ (List.mem_of_getElem? (i := 0) rfl)))) (fun _ h9 => h9) rfl (by decide +kernel) (by first | rfl | decide) (by first | rfl | decide) (Nat.le_of_ble_eq_true rfl) dX12_next_329 (fun H locs hP hD hS => ?_)
                  have hP : va_P D vwCl [(m0, .inr (12, [m_0, m_1, m_2, m_3, m_4, m_5, m_6, m_7, m_8, m_9, m_10, m_11, .ref t0, .int ta, .int v_1852, .int x_2177, .int 2, .long x_2176, m_18, m_19, m_20, m_21, m_22, m_23, m_24, m_25, m_26, m_27, m_28, m_29, m_30, m_31, m_32, m_33, m_34, m_35, m_36, m_37, m_38, m_39, m_40, m_41, m_42, m_43, m_44, m_45, m_46, m_47, m_48, m_49, m_50, m_51, m_52, m_53, m_54, m_55, m_56, m_57, m_58, m_59])), (t0, .inl (K 0, 400, .inl ft))] H := hP
                  have hD : va_D A [(m0, .inr (12, [m_0, m_1, m_2, m_3, m_4, m_5, m_6, m_7, m_8, m_9, m_10, m_11, .ref t0, .int ta, .int v_1852, .int x_2177, .int 2, .long x_2176, m_18, m_19, m_20, m_21, m_22, m_23, m_24, m_25, m_26, m_27, m_28, m_29, m_30, m_31, m_32, m_33, m_34, m_35, m_36, m_37, m_38, m_39, m_40, m_41, m_42, m_43, m_44, m_45, m_46, m_47, m_48, m_49, m_50, m_51, m_52, m_53, m_54, m_55, m_56, m_57, m_58, m_59])), (t0, .inl (K 0, 400, .inl ft))] := hD
                  refine lv_goto (tgt := 243) hx hb dX12_next_332 (by decide) ?_
                  have lp_2269 : ∀ (nn_ : Nat) (v_2231 : Int32) (v_2232 : Int64) (hv_2231 : 1 ≤ v_2231.toInt ∧ v_2231.toInt ≤ 400) (hv_2232 : 0 ≤ v_2232.toInt) (hr0_lp_2269 : v_1852.toInt < v_2231.toInt ∧ v_2231.toInt ≤ ta.toInt) (hn : (ta.toInt - v_2231.toInt : Int).toNat < nn_) (H : Heap) (locs : List Loc) (hP : va_P D vwCl [(m0, .inr (12, [m_0, m_1, m_2, m_3, m_4, m_5, m_6, m_7, m_8, m_9, m_10, m_11, .ref t0, .int ta, .int v_1852, .int v_2231, .int 2, .long v_2232, m_18, m_19, m_20, m_21, m_22, m_23, m_24, m_25, m_26, m_27, m_28, m_29, m_30, m_31, m_32, m_33, m_34, m_35, m_36, m_37, m_38, m_39, m_40, m_41, m_42, m_43, m_44, m_45, m_46, m_47, m_48, m_49, m_50, m_51, m_52, m_53, m_54, m_55, m_56, m_57, m_58, m_59])), (t0, .inl (K 0, 400, .inl ft))] H) (hD : va_D A [(m0, .inr (12, [m_0, m_1, m_2, m_3, m_4, m_5, m_6, m_7, m_8, m_9, m_10, m_11, .ref t0, .int ta, .int v_1852, .int v_2231, .int 2, .long v_2232, m_18, m_19, m_20, m_21, m_22, m_23, m_24, m_25, m_26, m_27, m_28, m_29, m_30, m_31, m_32, m_33, m_34, m_35, m_36, m_37, m_38, m_39, m_40, m_41, m_42, m_43, m_44, m_45, m_46, m_47, m_48, m_49, m_50, m_51, m_52, m_53, m_54, m_55, m_56, m_57, m_58, m_59])), (t0, .inl (K 0, 400, .inl ft))]) (hS : va_S A s.heap H locs) (ls : Array Slot) (hl : lv_has ls 1 [(0, .ref m0)]), W p l e ({ frames := 1, cells := 0, slots := 0, locals := 20 }) s m (([.ref m0] : List Value).toArray) below meth c H locs 0 0 Q (F0 m 243 ls []) := by
                    intro nn_
                    induction nn_ with
                    | zero =>
                      intro v_2231 v_2232 hv_2231 hv_2232 hr0_lp_2269 hn H locs hP hD hS ls hl
                      exact absurd hn (Nat.not_lt_zero _)
                    | succ nn_ ih_2270 =>
                      intro v_2231 v_2232 hv_2231 hv_2232 hr0_lp_2269 hn H locs hP hD hS ls hl
                      refine lv_aload_n hx hb dX12_next_243 rfl (lv_at hl 0 rfl) ?_
                      refine va_get (ci := 12) (v := .int 2) (C := RX12) (T := TX12) (N := 60) hx hb hts hw12 hown hK hP 0 rfl rfl 16 (by decide) (hts (.fieldLink RX12 259 "SmokeTuneModel" "sort" "I") (List.mem_cons_of_mem _ (List.mem_append_left _ (List.mem_of_getElem? (i := 5) rfl)))) (fun _ h9 => h9) rfl dX12_next_244 ?_
                      refine lv_iconst (v := 2) hx hb dX12_next_247 (by decide) ?_
                      refine lv_icmp_ne (tgt := 335) hx hb dX12_next_248 (by decide) (fun c_2271 => absurd (by decide) c_2271) (fun c_2271 => ?_)
                      refine lv_aload_n hx hb dX12_next_251 rfl (lv_at hl 0 rfl) ?_
                      refine va_get (ci := 12) (v := .int v_2231) (C := RX12) (T := TX12) (N := 60) hx hb hts hw12 hown hK hP 0 rfl rfl 15 (by decide) (hts (.fieldLink RX12 236 "SmokeTuneModel" "to" "I") (List.mem_cons_of_mem _ (List.mem_append_left _ (List.mem_of_getElem? (i := 0) rfl)))) (fun _ h9 => h9) rfl dX12_next_252 ?_
                      refine lv_aload_n hx hb dX12_next_255 rfl (lv_at hl 0 rfl) ?_
                      refine va_get (ci := 12) (v := .int ta) (C := RX12) (T := TX12) (N := 60) hx hb hts hw12 hown hK hP 0 rfl rfl 13 (by decide) (hts (.fieldLink RX12 227 "SmokeTuneModel" "taped" "I") (List.mem_cons_of_mem _ (List.mem_append_left _ (List.mem_of_getElem? (i := 2) rfl)))) (fun _ h9 => h9) rfl dX12_next_256 ?_
                      refine lv_icmp_ge (tgt := 335) hx hb dX12_next_259 (by decide) (fun c_2272 => ?_) (fun c_2272 => ?_)
                      · have c_2272i := i_le (x := ta.toInt) (y := v_2231.toInt) rfl rfl c_2272
                        rw [← hQ]
                        have hP9 := hP.sub (ws' := [(m0, .inr (12, [m_0, m_1, m_2, m_3, m_4, m_5, m_6, m_7, m_8, m_9, m_10, m_11, .ref t0, .int ta, .int v_1852, .int v_2231, .int 2, .long v_2232, m_18, m_19, m_20, m_21, m_22, m_23, m_24, m_25, m_26, m_27, m_28, m_29, m_30, m_31, m_32, m_33, m_34, m_35, m_36, m_37, m_38, m_39, m_40, m_41, m_42, m_43, m_44, m_45, m_46, m_47, m_48, m_49, m_50, m_51, m_52, m_53, m_54, m_55, m_56, m_57, m_58, m_59])), (t0, .inl (K 0, 400, .inl ft))]) [0, 1] rfl
                        have hD9 := hD.sub (ws' := [(m0, .inr (12, [m_0, m_1, m_2, m_3, m_4, m_5, m_6, m_7, m_8, m_9, m_10, m_11, .ref t0, .int ta, .int v_1852, .int v_2231, .int 2, .long v_2232, m_18, m_19, m_20, m_21, m_22, m_23, m_24, m_25, m_26, m_27, m_28, m_29, m_30, m_31, m_32, m_33, m_34, m_35, m_36, m_37, m_38, m_39, m_40, m_41, m_42, m_43, m_44, m_45, m_46, m_47, m_48, m_49, m_50, m_51, m_52, m_53, m_54, m_55, m_56, m_57, m_58, m_59])), (t0, .inl (K 0, 400, .inl ft))]) [0, 1] (by decide) rfl
                        exact W.vret hx hb hr (fun t ht hW => ⟨⟨((fun _ => 0, fun _ => fun _ => 0, fun _ => fun _ => 0, fun i => match i with | 0 => v_1852 | 1 => v_2231 | _ => 2, fun i => match i with | _ => v_2232, fun _ => fun _ => none) : Su), rfl, ⟨(show 0 ≤ (v_1852 : Int32).toInt ∧ (v_1852 : Int32).toInt ≤ 400 by omega), (show 0 ≤ (v_2231 : Int32).toInt ∧ (v_2231 : Int32).toInt ≤ 401 by omega), (show 0 ≤ (2 : Int32).toInt ∧ (2 : Int32).toInt ≤ 3 by decide), (show ((0 ≤ (v_1852 : Int32).toInt ∧ (v_1852 : Int32).toInt ≤ (v_2231 : Int32).toInt ∧ (v_2231 : Int32).toInt ≤ ta.toInt) ∧ (2 = 0 ∨ (v_1852 : Int32).toInt < (v_2231 : Int32).toInt) ∧ (2 ≠ 1 ∨ (v_1852 : Int32).toInt + 1 < (v_2231 : Int32).toInt ∨ (v_2232 : Int64).toInt ≤ 26)) by omega), (show to.toInt ≤ (v_1852 : Int32).toInt by omega), trivial⟩, (⟨by rw [ht]; exact hP9, hD9⟩ : Wd D A _ t)⟩, hS.F ht⟩) hS.2.2 dX12_next_335
                      · have c_2272i := i_nle (x := ta.toInt) (y := v_2231.toInt) rfl rfl c_2272
                        refine lv_aload_n hx hb dX12_next_262 rfl (lv_at hl 0 rfl) ?_
                        refine va_get (ci := 12) (v := .ref t0) (C := RX12) (T := TX12) (N := 60) hx hb hts hw12 hown hK hP 0 rfl rfl 12 (by decide) (hts (.fieldLink RX12 35 "SmokeTuneModel" "tape" "[I") (List.mem_cons_of_mem _ (List.mem_append_left _ (List.mem_of_getElem? (i := 3) rfl)))) (fun _ h9 => h9) rfl dX12_next_263 ?_
                        refine lv_aload_n hx hb dX12_next_266 rfl (lv_at hl 0 rfl) ?_
                        refine va_get (ci := 12) (v := .int v_2231) (C := RX12) (T := TX12) (N := 60) hx hb hts hw12 hown hK hP 0 rfl rfl 15 (by decide) (hts (.fieldLink RX12 236 "SmokeTuneModel" "to" "I") (List.mem_cons_of_mem _ (List.mem_append_left _ (List.mem_of_getElem? (i := 0) rfl)))) (fun _ h9 => h9) rfl dX12_next_267 ?_
                        refine va_iald hx hb hK hP 1 0 rfl rfl (i_in rfl (by omega)) dX12_next_270 ?_
                        refine lv_topi (fun x_2273 ex_2273 => ?_)
                        have kx_2273 : ft (v_2231.toInt).toNat = x_2273 := by rw [ex_2273, i_clamp rfl]
                        refine pci (va_runS (As := [.int x_2273]) (rest := []) ⟨hx, hb, hml, hown, hts⟩ (v_isDigit l D K x_2273.toInt x_2273 H.size rfl) (va_cwS 1 hts gX12_next_X12_isDigit rfl rfl rfl (by decide +kernel) ⟨Nat.le_of_ble_eq_true rfl, Nat.le_of_ble_eq_true rfl⟩) (mkS hK hN (va_P.nil) (va_D.nil (A := fun _ => True))) rfl rfl hl.1 rfl (lv_room (Nat.le_of_ble_eq_true rfl)) dX12_next_271 ⟨Nat.le_of_ble_eq_true rfl, Nat.le_of_ble_eq_true rfl⟩) (fun r_2274 hw => ?_)
                        obtain ⟨hw, -⟩ := hw
                        rcases hw with ⟨rfl, h_2275, h_2276⟩ | ⟨rfl, h_2277⟩
                        · refine lv_if_eq (tgt := 335) hx hb dX12_next_274 (by decide) (fun c_2278 => absurd c_2278 (by decide)) (fun c_2278 => ?_)
                          refine lv_aload_n hx hb dX12_next_277 rfl (lv_at hl 0 rfl) ?_
                          refine lv_aload_n hx hb dX12_next_278 rfl (lv_at hl 0 rfl) ?_
                          refine va_get (ci := 12) (v := .long v_2232) (C := RX12) (T := TX12) (N := 60) hx hb hts hw12 hown hK hP 0 rfl rfl 17 (by decide) (hts (.fieldLink RX12 249 "SmokeTuneModel" "worth" "J") (List.mem_cons_of_mem _ (List.mem_append_left _ (List.mem_of_getElem? (i := 4) rfl)))) (fun _ h9 => h9) rfl dX12_next_279 ?_
                          refine lv_ldc2 (v := 1000000) hx hb hown (hts (.constantLong RX12 268 (1000000)) (List.mem_cons_of_mem _ (List.mem_append_left _ (List.mem_of_getElem? (i := 9) rfl)))) dX12_next_282 ?_
                          refine W.lcmp hx hb dX12_next_285 ?_
                          refine lv_if_le (tgt := 296) hx hb dX12_next_286 (by decide) (fun c_2279 => ?_) (fun c_2279 => ?_)
                          · have c_2279i := l_le (x := v_2232.toInt) (y := 1000000) rfl rfl ((lg_cmp_le v_2232 1000000).mp c_2279)
                            refine lv_aload_n hx hb dX12_next_296 rfl (lv_at hl 0 rfl) ?_
                            refine va_get (ci := 12) (v := .long v_2232) (C := RX12) (T := TX12) (N := 60) hx hb hts hw12 hown hK hP 0 rfl rfl 17 (by decide) (hts (.fieldLink RX12 249 "SmokeTuneModel" "worth" "J") (List.mem_cons_of_mem _ (List.mem_append_left _ (List.mem_of_getElem? (i := 4) rfl)))) (fun _ h9 => h9) rfl dX12_next_297 ?_
                            refine lv_ldc2 (v := 10) hx hb hown (hts (.constantLong RX12 219 (10)) (List.mem_cons_of_mem _ (List.mem_append_left _ (List.mem_of_getElem? (i := 10) rfl)))) dX12_next_300 ?_
                            refine lv_lmul hx hb dX12_next_303 ?_
                            refine lv_topl (fun x_2280 ex_2280 => ?_)
                            have hx_2280 : x_2280.toInt = (v_2232.toInt * 10) := by rw [ex_2280]; exact l_mul rfl (show (10 : Int64).toInt = 10 from rfl) (by omega)
                            refine lv_aload_n hx hb dX12_next_304 rfl (lv_at hl 0 rfl) ?_
                            refine va_get (ci := 12) (v := .ref t0) (C := RX12) (T := TX12) (N := 60) hx hb hts hw12 hown hK hP 0 rfl rfl 12 (by decide) (hts (.fieldLink RX12 35 "SmokeTuneModel" "tape" "[I") (List.mem_cons_of_mem _ (List.mem_append_left _ (List.mem_of_getElem? (i := 3) rfl)))) (fun _ h9 => h9) rfl dX12_next_305 ?_
                            refine lv_aload_n hx hb dX12_next_308 rfl (lv_at hl 0 rfl) ?_
                            refine va_get (ci := 12) (v := .int v_2231) (C := RX12) (T := TX12) (N := 60) hx hb hts hw12 hown hK hP 0 rfl rfl 15 (by decide) (hts (.fieldLink RX12 236 "SmokeTuneModel" "to" "I") (List.mem_cons_of_mem _ (List.mem_append_left _ (List.mem_of_getElem? (i := 0) rfl)))) (fun _ h9 => h9) rfl dX12_next_309 ?_
                            refine va_iald hx hb hK hP 1 0 rfl rfl (i_in rfl (by omega)) dX12_next_312 ?_
                            refine lv_topi (fun x_2281 ex_2281 => ?_)
                            have erx_2281 : x_2281 = x_2273 := ex_2281.trans (by rw [i_clamp rfl]; exact kx_2273)
                            have hrx_2281 : x_2281.toInt = x_2273.toInt := (congrArg Int32.toInt erx_2281).trans rfl
                            refine lv_i2l hx hb dX12_next_313 rfl ?_
                            refine lv_topl (fun x_2282 ex_2282 => ?_)
                            have hx_2282 : x_2282.toInt = x_2273.toInt := by rw [ex_2282]; exact i_wide hrx_2281
                            refine lv_ladd hx hb dX12_next_314 ?_
                            refine lv_topl (fun x_2283 ex_2283 => ?_)
                            have hx_2283 : x_2283.toInt = ((v_2232.toInt * 10) + x_2273.toInt) := by rw [ex_2283]; exact l_add hx_2280 hx_2282 (by omega)
                            refine lv_ldc2 (v := 48) hx hb hown (hts (.constantLong RX12 270 (48)) (List.mem_cons_of_mem _ (List.mem_append_left _ (List.mem_of_getElem? (i := 11) rfl)))) dX12_next_315 ?_
                            refine lv_lsub hx hb dX12_next_318 ?_
                            refine lv_topl (fun x_2284 ex_2284 => ?_)
                            have hx_2284 : x_2284.toInt = (((v_2232.toInt * 10) + x_2273.toInt) - 48) := by rw [ex_2284]; exact l_sub hx_2283 (show (48 : Int64).toInt = 48 from rfl) (by omega)
                            refine va_put (ci := 12) (v := .long x_2284) (ty := .long) (C := RX12) (T := TX12) (N := 60) hx hb hts hw12 tyX12 tyX12_ok nmX12 hown hK hP hD hS 0 rfl rfl 17 (by decide) (hts (.fieldLink RX12 249 "SmokeTuneModel" "worth" "J") (List.mem_cons_of_mem _ (List.mem_append_left _ (List.mem_of_getElem? (i := 4) rfl)))) (fun _ h9 => h9) rfl (by decide +kernel) (by first | rfl | decide) (by first | rfl | decide) (Nat.le_of_ble_eq_true rfl) dX12_next_319 (fun H locs hP hD hS => ?_)
                            have hP : va_P D vwCl [(m0, .inr (12, [m_0, m_1, m_2, m_3, m_4, m_5, m_6, m_7, m_8, m_9, m_10, m_11, .ref t0, .int ta, .int v_1852, .int v_2231, .int 2, .long x_2284, m_18, m_19, m_20, m_21, m_22, m_23, m_24, m_25, m_26, m_27, m_28, m_29, m_30, m_31, m_32, m_33, m_34, m_35, m_36, m_37, m_38, m_39, m_40, m_41, m_42, m_43, m_44, m_45, m_46, m_47, m_48, m_49, m_50, m_51, m_52, m_53, m_54, m_55, m_56, m_57, m_58, m_59])), (t0, .inl (K 0, 400, .inl ft))] H := hP
                            have hD : va_D A [(m0, .inr (12, [m_0, m_1, m_2, m_3, m_4, m_5, m_6, m_7, m_8, m_9, m_10, m_11, .ref t0, .int ta, .int v_1852, .int v_2231, .int 2, .long x_2284, m_18, m_19, m_20, m_21, m_22, m_23, m_24, m_25, m_26, m_27, m_28, m_29, m_30, m_31, m_32, m_33, m_34, m_35, m_36, m_37, m_38, m_39, m_40, m_41, m_42, m_43, m_44, m_45, m_46, m_47, m_48, m_49, m_50, m_51, m_52, m_53, m_54, m_55, m_56, m_57, m_58, m_59])), (t0, .inl (K 0, 400, .inl ft))] := hD
                            refine lv_aload_n hx hb dX12_next_322 rfl (lv_at hl 0 rfl) ?_
                            refine lv_dup hx hb dX12_next_323 rfl ?_
                            refine va_get (ci := 12) (v := .int v_2231) (C := RX12) (T := TX12) (N := 60) hx hb hts hw12 hown hK hP 0 rfl rfl 15 (by decide) (hts (.fieldLink RX12 236 "SmokeTuneModel" "to" "I") (List.mem_cons_of_mem _ (List.mem_append_left _ (List.mem_of_getElem? (i := 0) rfl)))) (fun _ h9 => h9) rfl dX12_next_324 ?_
                            refine lv_iconst (v := 1) hx hb dX12_next_327 (by decide) ?_
                            refine lv_iadd hx hb dX12_next_328 ?_
                            refine lv_topi (fun x_2285 ex_2285 => ?_)
                            have hx_2285 : x_2285.toInt = (v_2231.toInt + 1) := by rw [ex_2285]; exact i_add rfl (show (1 : Int32).toInt = 1 from rfl) (by omega)
                            refine va_put (ci := 12) (v := .int x_2285) (ty := .int) (C := RX12) (T := TX12) (N := 60) hx hb hts hw12 tyX12 tyX12_ok nmX12 hown hK hP hD hS 0 rfl rfl 15 (by decide) (hts (.fieldLink RX12 236 "SmokeTuneModel" "to" "I") (List.mem_cons_of_mem _ (List.mem_append_left _ (List.mem_of_getElem? (i := 0) rfl)))) (fun _ h9 => h9) rfl (by decide +kernel) (by first | rfl | decide) (by first | rfl | decide) (Nat.le_of_ble_eq_true rfl) dX12_next_329 (fun H locs hP hD hS => ?_)
                            have hP : va_P D vwCl [(m0, .inr (12, [m_0, m_1, m_2, m_3, m_4, m_5, m_6, m_7, m_8, m_9, m_10, m_11, .ref t0, .int ta, .int v_1852, .int x_2285, .int 2, .long x_2284, m_18, m_19, m_20, m_21, m_22, m_23, m_24, m_25, m_26, m_27, m_28, m_29, m_30, m_31, m_32, m_33, m_34, m_35, m_36, m_37, m_38, m_39, m_40, m_41, m_42, m_43, m_44, m_45, m_46, m_47, m_48, m_49, m_50, m_51, m_52, m_53, m_54, m_55, m_56, m_57, m_58, m_59])), (t0, .inl (K 0, 400, .inl ft))] H := hP
                            have hD : va_D A [(m0, .inr (12, [m_0, m_1, m_2, m_3, m_4, m_5, m_6, m_7, m_8, m_9, m_10, m_11, .ref t0, .int ta, .int v_1852, .int x_2285, .int 2, .long x_2284, m_18, m_19, m_20, m_21, m_22, m_23, m_24, m_25, m_26, m_27, m_28, m_29, m_30, m_31, m_32, m_33, m_34, m_35, m_36, m_37, m_38, m_39, m_40, m_41, m_42, m_43, m_44, m_45, m_46, m_47, m_48, m_49, m_50, m_51, m_52, m_53, m_54, m_55, m_56, m_57, m_58, m_59])), (t0, .inl (K 0, 400, .inl ft))] := hD
                            refine lv_goto (tgt := 243) hx hb dX12_next_332 (by decide) ?_
                            exact ih_2270 x_2285 x_2284 (by rw [hx_2285]; omega) (by rw [hx_2284]; omega) (show v_1852.toInt < (x_2285 : Int32).toInt ∧ (x_2285 : Int32).toInt ≤ ta.toInt by omega) (by omega) _ _ hP hD hS ls (lv_sub hl [0] rfl)
                          · have c_2279i := l_nle (x := v_2232.toInt) (y := 1000000) rfl rfl (fun q => c_2279 ((lg_cmp_le v_2232 1000000).mpr q))
                            refine lv_aload_n hx hb dX12_next_289 rfl (lv_at hl 0 rfl) ?_
                            refine va_get (ci := 12) (v := .long v_2232) (C := RX12) (T := TX12) (N := 60) hx hb hts hw12 hown hK hP 0 rfl rfl 17 (by decide) (hts (.fieldLink RX12 249 "SmokeTuneModel" "worth" "J") (List.mem_cons_of_mem _ (List.mem_append_left _ (List.mem_of_getElem? (i := 4) rfl)))) (fun _ h9 => h9) rfl dX12_next_290 ?_
                            refine lv_goto (tgt := 319) hx hb dX12_next_293 (by decide) ?_
                            refine va_put (ci := 12) (v := .long v_2232) (ty := .long) (C := RX12) (T := TX12) (N := 60) hx hb hts hw12 tyX12 tyX12_ok nmX12 hown hK hP hD hS 0 rfl rfl 17 (by decide) (hts (.fieldLink RX12 249 "SmokeTuneModel" "worth" "J") (List.mem_cons_of_mem _ (List.mem_append_left _ (List.mem_of_getElem? (i := 4) rfl)))) (fun _ h9 => h9) rfl (by decide +kernel) (by first | rfl | decide) (by first | rfl | decide) (Nat.le_of_ble_eq_true rfl) dX12_next_319 (fun H locs hP hD hS => ?_)
                            have hP : va_P D vwCl [(m0, .inr (12, [m_0, m_1, m_2, m_3, m_4, m_5, m_6, m_7, m_8, m_9, m_10, m_11, .ref t0, .int ta, .int v_1852, .int v_2231, .int 2, .long v_2232, m_18, m_19, m_20, m_21, m_22, m_23, m_24, m_25, m_26, m_27, m_28, m_29, m_30, m_31, m_32, m_33, m_34, m_35, m_36, m_37, m_38, m_39, m_40, m_41, m_42, m_43, m_44, m_45, m_46, m_47, m_48, m_49, m_50, m_51, m_52, m_53, m_54, m_55, m_56, m_57, m_58, m_59])), (t0, .inl (K 0, 400, .inl ft))] H := hP
                            have hD : va_D A [(m0, .inr (12, [m_0, m_1, m_2, m_3, m_4, m_5, m_6, m_7, m_8, m_9, m_10, m_11, .ref t0, .int ta, .int v_1852, .int v_2231, .int 2, .long v_2232, m_18, m_19, m_20, m_21, m_22, m_23, m_24, m_25, m_26, m_27, m_28, m_29, m_30, m_31, m_32, m_33, m_34, m_35, m_36, m_37, m_38, m_39, m_40, m_41, m_42, m_43, m_44, m_45, m_46, m_47, m_48, m_49, m_50, m_51, m_52, m_53, m_54, m_55, m_56, m_57, m_58, m_59])), (t0, .inl (K 0, 400, .inl ft))] := hD
                            refine lv_aload_n hx hb dX12_next_322 rfl (lv_at hl 0 rfl) ?_
                            refine lv_dup hx hb dX12_next_323 rfl ?_
                            refine va_get (ci := 12) (v := .int v_2231) (C := RX12) (T := TX12) (N := 60) hx hb hts hw12 hown hK hP 0 rfl rfl 15 (by decide) (hts (.fieldLink RX12 236 "SmokeTuneModel" "to" "I") (List.mem_cons_of_mem _ (List.mem_append_left _ (List.mem_of_getElem? (i := 0) rfl)))) (fun _ h9 => h9) rfl dX12_next_324 ?_
                            refine lv_iconst (v := 1) hx hb dX12_next_327 (by decide) ?_
                            refine lv_iadd hx hb dX12_next_328 ?_
                            refine lv_topi (fun x_2286 ex_2286 => ?_)
                            have hx_2286 : x_2286.toInt = (v_2231.toInt + 1) := by rw [ex_2286]; exact i_add rfl (show (1 : Int32).toInt = 1 from rfl) (by omega)
                            refine va_put (ci := 12) (v := .int x_2286) (ty := .int) (C := RX12) (T := TX12) (N := 60) hx hb hts hw12 tyX12 tyX12_ok nmX12 hown hK hP hD hS 0 rfl rfl 15 (by decide) (hts (.fieldLink RX12 236 "SmokeTuneModel" "to" "I") (List.mem_cons_of_mem _ (List.mem_append_left _ (List.mem_of_getElem? (i := 0) rfl)))) (fun _ h9 => h9) rfl (by decide +kernel) (by first | rfl | decide) (by first | rfl | decide) (Nat.le_of_ble_eq_true rfl) dX12_next_329 (fun H locs hP hD hS => ?_)
                            have hP : va_P D vwCl [(m0, .inr (12, [m_0, m_1, m_2, m_3, m_4, m_5, m_6, m_7, m_8, m_9, m_10, m_11, .ref t0, .int ta, .int v_1852, .int x_2286, .int 2, .long v_2232, m_18, m_19, m_20, m_21, m_22, m_23, m_24, m_25, m_26, m_27, m_28, m_29, m_30, m_31, m_32, m_33, m_34, m_35, m_36, m_37, m_38, m_39, m_40, m_41, m_42, m_43, m_44, m_45, m_46, m_47, m_48, m_49, m_50, m_51, m_52, m_53, m_54, m_55, m_56, m_57, m_58, m_59])), (t0, .inl (K 0, 400, .inl ft))] H := hP
                            have hD : va_D A [(m0, .inr (12, [m_0, m_1, m_2, m_3, m_4, m_5, m_6, m_7, m_8, m_9, m_10, m_11, .ref t0, .int ta, .int v_1852, .int x_2286, .int 2, .long v_2232, m_18, m_19, m_20, m_21, m_22, m_23, m_24, m_25, m_26, m_27, m_28, m_29, m_30, m_31, m_32, m_33, m_34, m_35, m_36, m_37, m_38, m_39, m_40, m_41, m_42, m_43, m_44, m_45, m_46, m_47, m_48, m_49, m_50, m_51, m_52, m_53, m_54, m_55, m_56, m_57, m_58, m_59])), (t0, .inl (K 0, 400, .inl ft))] := hD
                            refine lv_goto (tgt := 243) hx hb dX12_next_332 (by decide) ?_
                            exact ih_2270 x_2286 v_2232 (by rw [hx_2286]; omega) (by omega) (show v_1852.toInt < (x_2286 : Int32).toInt ∧ (x_2286 : Int32).toInt ≤ ta.toInt by omega) (by omega) _ _ hP hD hS ls (lv_sub hl [0] rfl)
                        · refine lv_if_eq (tgt := 335) hx hb dX12_next_274 (by decide) (fun c_2287 => ?_) (fun c_2287 => absurd (by decide) c_2287)
                          rw [← hQ]
                          have hP9 := hP.sub (ws' := [(m0, .inr (12, [m_0, m_1, m_2, m_3, m_4, m_5, m_6, m_7, m_8, m_9, m_10, m_11, .ref t0, .int ta, .int v_1852, .int v_2231, .int 2, .long v_2232, m_18, m_19, m_20, m_21, m_22, m_23, m_24, m_25, m_26, m_27, m_28, m_29, m_30, m_31, m_32, m_33, m_34, m_35, m_36, m_37, m_38, m_39, m_40, m_41, m_42, m_43, m_44, m_45, m_46, m_47, m_48, m_49, m_50, m_51, m_52, m_53, m_54, m_55, m_56, m_57, m_58, m_59])), (t0, .inl (K 0, 400, .inl ft))]) [0, 1] rfl
                          have hD9 := hD.sub (ws' := [(m0, .inr (12, [m_0, m_1, m_2, m_3, m_4, m_5, m_6, m_7, m_8, m_9, m_10, m_11, .ref t0, .int ta, .int v_1852, .int v_2231, .int 2, .long v_2232, m_18, m_19, m_20, m_21, m_22, m_23, m_24, m_25, m_26, m_27, m_28, m_29, m_30, m_31, m_32, m_33, m_34, m_35, m_36, m_37, m_38, m_39, m_40, m_41, m_42, m_43, m_44, m_45, m_46, m_47, m_48, m_49, m_50, m_51, m_52, m_53, m_54, m_55, m_56, m_57, m_58, m_59])), (t0, .inl (K 0, 400, .inl ft))]) [0, 1] (by decide) rfl
                          exact W.vret hx hb hr (fun t ht hW => ⟨⟨((fun _ => 0, fun _ => fun _ => 0, fun _ => fun _ => 0, fun i => match i with | 0 => v_1852 | 1 => v_2231 | _ => 2, fun i => match i with | _ => v_2232, fun _ => fun _ => none) : Su), rfl, ⟨(show 0 ≤ (v_1852 : Int32).toInt ∧ (v_1852 : Int32).toInt ≤ 400 by omega), (show 0 ≤ (v_2231 : Int32).toInt ∧ (v_2231 : Int32).toInt ≤ 401 by omega), (show 0 ≤ (2 : Int32).toInt ∧ (2 : Int32).toInt ≤ 3 by decide), (show ((0 ≤ (v_1852 : Int32).toInt ∧ (v_1852 : Int32).toInt ≤ (v_2231 : Int32).toInt ∧ (v_2231 : Int32).toInt ≤ ta.toInt) ∧ (2 = 0 ∨ (v_1852 : Int32).toInt < (v_2231 : Int32).toInt) ∧ (2 ≠ 1 ∨ (v_1852 : Int32).toInt + 1 < (v_2231 : Int32).toInt ∨ (v_2232 : Int64).toInt ≤ 26)) by omega), (show to.toInt ≤ (v_1852 : Int32).toInt by omega), trivial⟩, (⟨by rw [ht]; exact hP9, hD9⟩ : Wd D A _ t)⟩, hS.F ht⟩) hS.2.2 dX12_next_335
                  exact lp_2269 ((ta.toInt - (x_2177 : Int32).toInt : Int).toNat + 1) x_2177 x_2176 (by rw [hx_2177]; omega) (by rw [hx_2176]; omega) (show v_1852.toInt < (x_2177 : Int32).toInt ∧ (x_2177 : Int32).toInt ≤ ta.toInt by omega) (Nat.lt_succ_self _) _ _ hP hD hS ls (lv_sub hl [0] rfl)
                · exfalso; omega
            · refine lv_if_eq (tgt := 113) hx hb dX12_next_106 (by decide) (fun c_2288 => ?_) (fun c_2288 => absurd (by decide) c_2288)
              refine lv_iconst (v := 3) hx hb dX12_next_113 (by decide) ?_
              refine va_put (ci := 12) (v := .int 3) (ty := .int) (C := RX12) (T := TX12) (N := 60) hx hb hts hw12 tyX12 tyX12_ok nmX12 hown hK hP hD hS 0 rfl rfl 16 (by decide) (hts (.fieldLink RX12 259 "SmokeTuneModel" "sort" "I") (List.mem_cons_of_mem _ (List.mem_append_left _ (List.mem_of_getElem? (i := 5) rfl)))) (fun _ h9 => h9) rfl (by decide +kernel) (by first | rfl | decide) (by first | rfl | decide) (Nat.le_of_ble_eq_true rfl) dX12_next_114 (fun H locs hP hD hS => ?_)
              have hP : va_P D vwCl [(m0, .inr (12, [m_0, m_1, m_2, m_3, m_4, m_5, m_6, m_7, m_8, m_9, m_10, m_11, .ref t0, .int ta, .int v_1852, .int v_1852, .int 3, .long 0, m_18, m_19, m_20, m_21, m_22, m_23, m_24, m_25, m_26, m_27, m_28, m_29, m_30, m_31, m_32, m_33, m_34, m_35, m_36, m_37, m_38, m_39, m_40, m_41, m_42, m_43, m_44, m_45, m_46, m_47, m_48, m_49, m_50, m_51, m_52, m_53, m_54, m_55, m_56, m_57, m_58, m_59])), (t0, .inl (K 0, 400, .inl ft))] H := hP
              have hD : va_D A [(m0, .inr (12, [m_0, m_1, m_2, m_3, m_4, m_5, m_6, m_7, m_8, m_9, m_10, m_11, .ref t0, .int ta, .int v_1852, .int v_1852, .int 3, .long 0, m_18, m_19, m_20, m_21, m_22, m_23, m_24, m_25, m_26, m_27, m_28, m_29, m_30, m_31, m_32, m_33, m_34, m_35, m_36, m_37, m_38, m_39, m_40, m_41, m_42, m_43, m_44, m_45, m_46, m_47, m_48, m_49, m_50, m_51, m_52, m_53, m_54, m_55, m_56, m_57, m_58, m_59])), (t0, .inl (K 0, 400, .inl ft))] := hD
              refine lv_aload_n hx hb dX12_next_117 rfl (lv_at hl 0 rfl) ?_
              refine va_get (ci := 12) (v := .int 3) (C := RX12) (T := TX12) (N := 60) hx hb hts hw12 hown hK hP 0 rfl rfl 16 (by decide) (hts (.fieldLink RX12 259 "SmokeTuneModel" "sort" "I") (List.mem_cons_of_mem _ (List.mem_append_left _ (List.mem_of_getElem? (i := 5) rfl)))) (fun _ h9 => h9) rfl dX12_next_118 ?_
              refine lv_iconst (v := 3) hx hb dX12_next_121 (by decide) ?_
              refine lv_icmp_ne (tgt := 149) hx hb dX12_next_122 (by decide) (fun c_2289 => absurd (by decide) c_2289) (fun c_2289 => ?_)
              refine lv_aload_n hx hb dX12_next_125 rfl (lv_at hl 0 rfl) ?_
              refine lv_aload_n hx hb dX12_next_126 rfl (lv_at hl 0 rfl) ?_
              refine va_get (ci := 12) (v := .ref t0) (C := RX12) (T := TX12) (N := 60) hx hb hts hw12 hown hK hP 0 rfl rfl 12 (by decide) (hts (.fieldLink RX12 35 "SmokeTuneModel" "tape" "[I") (List.mem_cons_of_mem _ (List.mem_append_left _ (List.mem_of_getElem? (i := 3) rfl)))) (fun _ h9 => h9) rfl dX12_next_127 ?_
              refine lv_aload_n hx hb dX12_next_130 rfl (lv_at hl 0 rfl) ?_
              refine va_get (ci := 12) (v := .int v_1852) (C := RX12) (T := TX12) (N := 60) hx hb hts hw12 hown hK hP 0 rfl rfl 14 (by decide) (hts (.fieldLink RX12 246 "SmokeTuneModel" "from" "I") (List.mem_cons_of_mem _ (List.mem_append_left _ (List.mem_of_getElem? (i := 1) rfl)))) (fun _ h9 => h9) rfl dX12_next_131 ?_
              refine va_iald hx hb hK hP 1 0 rfl rfl (i_in rfl (by omega)) dX12_next_134 ?_
              refine lv_topi (fun x_2290 ex_2290 => ?_)
              have erx_2290 : x_2290 = x_1866 := ex_2290.trans (by rw [i_clamp rfl]; exact kx_1866)
              have hrx_2290 : x_2290.toInt = x_1866.toInt := (congrArg Int32.toInt erx_2290).trans rfl
              refine lv_i2l hx hb dX12_next_135 rfl ?_
              refine lv_topl (fun x_2291 ex_2291 => ?_)
              have hx_2291 : x_2291.toInt = x_1866.toInt := by rw [ex_2291]; exact i_wide hrx_2290
              have hbx_2291 := i_rng (a := x_2290) hrx_2290
              refine va_put (ci := 12) (v := .long x_2291) (ty := .long) (C := RX12) (T := TX12) (N := 60) hx hb hts hw12 tyX12 tyX12_ok nmX12 hown hK hP hD hS 0 rfl rfl 17 (by decide) (hts (.fieldLink RX12 249 "SmokeTuneModel" "worth" "J") (List.mem_cons_of_mem _ (List.mem_append_left _ (List.mem_of_getElem? (i := 4) rfl)))) (fun _ h9 => h9) rfl (by decide +kernel) (by first | rfl | decide) (by first | rfl | decide) (Nat.le_of_ble_eq_true rfl) dX12_next_136 (fun H locs hP hD hS => ?_)
              have hP : va_P D vwCl [(m0, .inr (12, [m_0, m_1, m_2, m_3, m_4, m_5, m_6, m_7, m_8, m_9, m_10, m_11, .ref t0, .int ta, .int v_1852, .int v_1852, .int 3, .long x_2291, m_18, m_19, m_20, m_21, m_22, m_23, m_24, m_25, m_26, m_27, m_28, m_29, m_30, m_31, m_32, m_33, m_34, m_35, m_36, m_37, m_38, m_39, m_40, m_41, m_42, m_43, m_44, m_45, m_46, m_47, m_48, m_49, m_50, m_51, m_52, m_53, m_54, m_55, m_56, m_57, m_58, m_59])), (t0, .inl (K 0, 400, .inl ft))] H := hP
              have hD : va_D A [(m0, .inr (12, [m_0, m_1, m_2, m_3, m_4, m_5, m_6, m_7, m_8, m_9, m_10, m_11, .ref t0, .int ta, .int v_1852, .int v_1852, .int 3, .long x_2291, m_18, m_19, m_20, m_21, m_22, m_23, m_24, m_25, m_26, m_27, m_28, m_29, m_30, m_31, m_32, m_33, m_34, m_35, m_36, m_37, m_38, m_39, m_40, m_41, m_42, m_43, m_44, m_45, m_46, m_47, m_48, m_49, m_50, m_51, m_52, m_53, m_54, m_55, m_56, m_57, m_58, m_59])), (t0, .inl (K 0, 400, .inl ft))] := hD
              refine lv_aload_n hx hb dX12_next_139 rfl (lv_at hl 0 rfl) ?_
              refine lv_dup hx hb dX12_next_140 rfl ?_
              refine va_get (ci := 12) (v := .int v_1852) (C := RX12) (T := TX12) (N := 60) hx hb hts hw12 hown hK hP 0 rfl rfl 15 (by decide) (hts (.fieldLink RX12 236 "SmokeTuneModel" "to" "I") (List.mem_cons_of_mem _ (List.mem_append_left _ (List.mem_of_getElem? (i := 0) rfl)))) (fun _ h9 => h9) rfl dX12_next_141 ?_
              refine lv_iconst (v := 1) hx hb dX12_next_144 (by decide) ?_
              refine lv_iadd hx hb dX12_next_145 ?_
              refine lv_topi (fun x_2292 ex_2292 => ?_)
              have hx_2292 : x_2292.toInt = (v_1852.toInt + 1) := by rw [ex_2292]; exact i_add rfl (show (1 : Int32).toInt = 1 from rfl) (by omega)
              refine va_put (ci := 12) (v := .int x_2292) (ty := .int) (C := RX12) (T := TX12) (N := 60) hx hb hts hw12 tyX12 tyX12_ok nmX12 hown hK hP hD hS 0 rfl rfl 15 (by decide) (hts (.fieldLink RX12 236 "SmokeTuneModel" "to" "I") (List.mem_cons_of_mem _ (List.mem_append_left _ (List.mem_of_getElem? (i := 0) rfl)))) (fun _ h9 => h9) rfl (by decide +kernel) (by first | rfl | decide) (by first | rfl | decide) (Nat.le_of_ble_eq_true rfl) dX12_next_146 (fun H locs hP hD hS => ?_)
              have hP : va_P D vwCl [(m0, .inr (12, [m_0, m_1, m_2, m_3, m_4, m_5, m_6, m_7, m_8, m_9, m_10, m_11, .ref t0, .int ta, .int v_1852, .int x_2292, .int 3, .long x_2291, m_18, m_19, m_20, m_21, m_22, m_23, m_24, m_25, m_26, m_27, m_28, m_29, m_30, m_31, m_32, m_33, m_34, m_35, m_36, m_37, m_38, m_39, m_40, m_41, m_42, m_43, m_44, m_45, m_46, m_47, m_48, m_49, m_50, m_51, m_52, m_53, m_54, m_55, m_56, m_57, m_58, m_59])), (t0, .inl (K 0, 400, .inl ft))] H := hP
              have hD : va_D A [(m0, .inr (12, [m_0, m_1, m_2, m_3, m_4, m_5, m_6, m_7, m_8, m_9, m_10, m_11, .ref t0, .int ta, .int v_1852, .int x_2292, .int 3, .long x_2291, m_18, m_19, m_20, m_21, m_22, m_23, m_24, m_25, m_26, m_27, m_28, m_29, m_30, m_31, m_32, m_33, m_34, m_35, m_36, m_37, m_38, m_39, m_40, m_41, m_42, m_43, m_44, m_45, m_46, m_47, m_48, m_49, m_50, m_51, m_52, m_53, m_54, m_55, m_56, m_57, m_58, m_59])), (t0, .inl (K 0, 400, .inl ft))] := hD
              refine lv_aload_n hx hb dX12_next_149 rfl (lv_at hl 0 rfl) ?_
              refine va_get (ci := 12) (v := .int 3) (C := RX12) (T := TX12) (N := 60) hx hb hts hw12 hown hK hP 0 rfl rfl 16 (by decide) (hts (.fieldLink RX12 259 "SmokeTuneModel" "sort" "I") (List.mem_cons_of_mem _ (List.mem_append_left _ (List.mem_of_getElem? (i := 5) rfl)))) (fun _ h9 => h9) rfl dX12_next_150 ?_
              refine lv_iconst (v := 1) hx hb dX12_next_153 (by decide) ?_
              refine lv_icmp_ne (tgt := 243) hx hb dX12_next_154 (by decide) (fun c_2293 => ?_) (fun c_2293 => absurd c_2293 (by decide))
              refine lv_aload_n hx hb dX12_next_243 rfl (lv_at hl 0 rfl) ?_
              refine va_get (ci := 12) (v := .int 3) (C := RX12) (T := TX12) (N := 60) hx hb hts hw12 hown hK hP 0 rfl rfl 16 (by decide) (hts (.fieldLink RX12 259 "SmokeTuneModel" "sort" "I") (List.mem_cons_of_mem _ (List.mem_append_left _ (List.mem_of_getElem? (i := 5) rfl)))) (fun _ h9 => h9) rfl dX12_next_244 ?_
              refine lv_iconst (v := 2) hx hb dX12_next_247 (by decide) ?_
              refine lv_icmp_ne (tgt := 335) hx hb dX12_next_248 (by decide) (fun c_2294 => ?_) (fun c_2294 => absurd c_2294 (by decide))
              rw [← hQ]
              have hP9 := hP.sub (ws' := [(m0, .inr (12, [m_0, m_1, m_2, m_3, m_4, m_5, m_6, m_7, m_8, m_9, m_10, m_11, .ref t0, .int ta, .int v_1852, .int x_2292, .int 3, .long x_2291, m_18, m_19, m_20, m_21, m_22, m_23, m_24, m_25, m_26, m_27, m_28, m_29, m_30, m_31, m_32, m_33, m_34, m_35, m_36, m_37, m_38, m_39, m_40, m_41, m_42, m_43, m_44, m_45, m_46, m_47, m_48, m_49, m_50, m_51, m_52, m_53, m_54, m_55, m_56, m_57, m_58, m_59])), (t0, .inl (K 0, 400, .inl ft))]) [0, 1] rfl
              have hD9 := hD.sub (ws' := [(m0, .inr (12, [m_0, m_1, m_2, m_3, m_4, m_5, m_6, m_7, m_8, m_9, m_10, m_11, .ref t0, .int ta, .int v_1852, .int x_2292, .int 3, .long x_2291, m_18, m_19, m_20, m_21, m_22, m_23, m_24, m_25, m_26, m_27, m_28, m_29, m_30, m_31, m_32, m_33, m_34, m_35, m_36, m_37, m_38, m_39, m_40, m_41, m_42, m_43, m_44, m_45, m_46, m_47, m_48, m_49, m_50, m_51, m_52, m_53, m_54, m_55, m_56, m_57, m_58, m_59])), (t0, .inl (K 0, 400, .inl ft))]) [0, 1] (by decide) rfl
              exact W.vret hx hb hr (fun t ht hW => ⟨⟨((fun _ => 0, fun _ => fun _ => 0, fun _ => fun _ => 0, fun i => match i with | 0 => v_1852 | 1 => x_2292 | _ => 3, fun i => match i with | _ => x_2291, fun _ => fun _ => none) : Su), rfl, ⟨(show 0 ≤ (v_1852 : Int32).toInt ∧ (v_1852 : Int32).toInt ≤ 400 by omega), (show 0 ≤ (x_2292 : Int32).toInt ∧ (x_2292 : Int32).toInt ≤ 401 by rw [hx_2292]; omega), (show 0 ≤ (3 : Int32).toInt ∧ (3 : Int32).toInt ≤ 3 by decide), (show ((0 ≤ (v_1852 : Int32).toInt ∧ (v_1852 : Int32).toInt ≤ (x_2292 : Int32).toInt ∧ (x_2292 : Int32).toInt ≤ ta.toInt) ∧ (3 = 0 ∨ (v_1852 : Int32).toInt < (x_2292 : Int32).toInt) ∧ (3 ≠ 1 ∨ (v_1852 : Int32).toInt + 1 < (x_2292 : Int32).toInt ∨ (x_2291 : Int64).toInt ≤ 26)) by omega), (show to.toInt ≤ (v_1852 : Int32).toInt by omega), trivial⟩, (⟨by rw [ht]; exact hP9, hD9⟩ : Wd D A _ t)⟩, hS.F ht⟩) hS.2.2 dX12_next_335
        · have c_1865i := i_eq (x := v_1852.toInt) (y := ta.toInt) rfl rfl c_1865
          refine lv_iconst (v := 0) hx hb dX12_next_71 (by decide) ?_
          refine lv_goto (tgt := 114) hx hb dX12_next_72 (by decide) ?_
          refine va_put (ci := 12) (v := .int 0) (ty := .int) (C := RX12) (T := TX12) (N := 60) hx hb hts hw12 tyX12 tyX12_ok nmX12 hown hK hP hD hS 0 rfl rfl 16 (by decide) (hts (.fieldLink RX12 259 "SmokeTuneModel" "sort" "I") (List.mem_cons_of_mem _ (List.mem_append_left _ (List.mem_of_getElem? (i := 5) rfl)))) (fun _ h9 => h9) rfl (by decide +kernel) (by first | rfl | decide) (by first | rfl | decide) (Nat.le_of_ble_eq_true rfl) dX12_next_114 (fun H locs hP hD hS => ?_)
          have hP : va_P D vwCl [(m0, .inr (12, [m_0, m_1, m_2, m_3, m_4, m_5, m_6, m_7, m_8, m_9, m_10, m_11, .ref t0, .int ta, .int v_1852, .int v_1852, .int 0, .long 0, m_18, m_19, m_20, m_21, m_22, m_23, m_24, m_25, m_26, m_27, m_28, m_29, m_30, m_31, m_32, m_33, m_34, m_35, m_36, m_37, m_38, m_39, m_40, m_41, m_42, m_43, m_44, m_45, m_46, m_47, m_48, m_49, m_50, m_51, m_52, m_53, m_54, m_55, m_56, m_57, m_58, m_59])), (t0, .inl (K 0, 400, .inl ft))] H := hP
          have hD : va_D A [(m0, .inr (12, [m_0, m_1, m_2, m_3, m_4, m_5, m_6, m_7, m_8, m_9, m_10, m_11, .ref t0, .int ta, .int v_1852, .int v_1852, .int 0, .long 0, m_18, m_19, m_20, m_21, m_22, m_23, m_24, m_25, m_26, m_27, m_28, m_29, m_30, m_31, m_32, m_33, m_34, m_35, m_36, m_37, m_38, m_39, m_40, m_41, m_42, m_43, m_44, m_45, m_46, m_47, m_48, m_49, m_50, m_51, m_52, m_53, m_54, m_55, m_56, m_57, m_58, m_59])), (t0, .inl (K 0, 400, .inl ft))] := hD
          refine lv_aload_n hx hb dX12_next_117 rfl (lv_at hl 0 rfl) ?_
          refine va_get (ci := 12) (v := .int 0) (C := RX12) (T := TX12) (N := 60) hx hb hts hw12 hown hK hP 0 rfl rfl 16 (by decide) (hts (.fieldLink RX12 259 "SmokeTuneModel" "sort" "I") (List.mem_cons_of_mem _ (List.mem_append_left _ (List.mem_of_getElem? (i := 5) rfl)))) (fun _ h9 => h9) rfl dX12_next_118 ?_
          refine lv_iconst (v := 3) hx hb dX12_next_121 (by decide) ?_
          refine lv_icmp_ne (tgt := 149) hx hb dX12_next_122 (by decide) (fun c_2295 => ?_) (fun c_2295 => absurd c_2295 (by decide))
          refine lv_aload_n hx hb dX12_next_149 rfl (lv_at hl 0 rfl) ?_
          refine va_get (ci := 12) (v := .int 0) (C := RX12) (T := TX12) (N := 60) hx hb hts hw12 hown hK hP 0 rfl rfl 16 (by decide) (hts (.fieldLink RX12 259 "SmokeTuneModel" "sort" "I") (List.mem_cons_of_mem _ (List.mem_append_left _ (List.mem_of_getElem? (i := 5) rfl)))) (fun _ h9 => h9) rfl dX12_next_150 ?_
          refine lv_iconst (v := 1) hx hb dX12_next_153 (by decide) ?_
          refine lv_icmp_ne (tgt := 243) hx hb dX12_next_154 (by decide) (fun c_2296 => ?_) (fun c_2296 => absurd c_2296 (by decide))
          refine lv_aload_n hx hb dX12_next_243 rfl (lv_at hl 0 rfl) ?_
          refine va_get (ci := 12) (v := .int 0) (C := RX12) (T := TX12) (N := 60) hx hb hts hw12 hown hK hP 0 rfl rfl 16 (by decide) (hts (.fieldLink RX12 259 "SmokeTuneModel" "sort" "I") (List.mem_cons_of_mem _ (List.mem_append_left _ (List.mem_of_getElem? (i := 5) rfl)))) (fun _ h9 => h9) rfl dX12_next_244 ?_
          refine lv_iconst (v := 2) hx hb dX12_next_247 (by decide) ?_
          refine lv_icmp_ne (tgt := 335) hx hb dX12_next_248 (by decide) (fun c_2297 => ?_) (fun c_2297 => absurd c_2297 (by decide))
          rw [← hQ]
          have hP9 := hP.sub (ws' := [(m0, .inr (12, [m_0, m_1, m_2, m_3, m_4, m_5, m_6, m_7, m_8, m_9, m_10, m_11, .ref t0, .int ta, .int v_1852, .int v_1852, .int 0, .long 0, m_18, m_19, m_20, m_21, m_22, m_23, m_24, m_25, m_26, m_27, m_28, m_29, m_30, m_31, m_32, m_33, m_34, m_35, m_36, m_37, m_38, m_39, m_40, m_41, m_42, m_43, m_44, m_45, m_46, m_47, m_48, m_49, m_50, m_51, m_52, m_53, m_54, m_55, m_56, m_57, m_58, m_59])), (t0, .inl (K 0, 400, .inl ft))]) [0, 1] rfl
          have hD9 := hD.sub (ws' := [(m0, .inr (12, [m_0, m_1, m_2, m_3, m_4, m_5, m_6, m_7, m_8, m_9, m_10, m_11, .ref t0, .int ta, .int v_1852, .int v_1852, .int 0, .long 0, m_18, m_19, m_20, m_21, m_22, m_23, m_24, m_25, m_26, m_27, m_28, m_29, m_30, m_31, m_32, m_33, m_34, m_35, m_36, m_37, m_38, m_39, m_40, m_41, m_42, m_43, m_44, m_45, m_46, m_47, m_48, m_49, m_50, m_51, m_52, m_53, m_54, m_55, m_56, m_57, m_58, m_59])), (t0, .inl (K 0, 400, .inl ft))]) [0, 1] (by decide) rfl
          exact W.vret hx hb hr (fun t ht hW => ⟨⟨((fun _ => 0, fun _ => fun _ => 0, fun _ => fun _ => 0, fun i => match i with | 0 => v_1852 | 1 => v_1852 | _ => 0, fun i => match i with | _ => 0, fun _ => fun _ => none) : Su), rfl, ⟨(show 0 ≤ (v_1852 : Int32).toInt ∧ (v_1852 : Int32).toInt ≤ 400 by omega), (show 0 ≤ (v_1852 : Int32).toInt ∧ (v_1852 : Int32).toInt ≤ 401 by omega), (show 0 ≤ (0 : Int32).toInt ∧ (0 : Int32).toInt ≤ 3 by decide), (show ((0 ≤ (v_1852 : Int32).toInt ∧ (v_1852 : Int32).toInt ≤ (v_1852 : Int32).toInt ∧ (v_1852 : Int32).toInt ≤ ta.toInt) ∧ (0 = 0 ∨ (v_1852 : Int32).toInt < (v_1852 : Int32).toInt) ∧ (0 ≠ 1 ∨ (v_1852 : Int32).toInt + 1 < (v_1852 : Int32).toInt ∨ 0 ≤ 26)) by omega), (show to.toInt ≤ (v_1852 : Int32).toInt by omega), trivial⟩, (⟨by rw [ht]; exact hP9, hD9⟩ : Wd D A _ t)⟩, hS.F ht⟩) hS.2.2 dX12_next_335
      · have c_1864i := i_nle (x := ta.toInt) (y := v_1852.toInt) rfl rfl c_1864
        refine lv_aload_n hx hb dX12_next_19 rfl (lv_at hl 0 rfl) ?_
        refine va_get (ci := 12) (v := .ref t0) (C := RX12) (T := TX12) (N := 60) hx hb hts hw12 hown hK hP 0 rfl rfl 12 (by decide) (hts (.fieldLink RX12 35 "SmokeTuneModel" "tape" "[I") (List.mem_cons_of_mem _ (List.mem_append_left _ (List.mem_of_getElem? (i := 3) rfl)))) (fun _ h9 => h9) rfl dX12_next_20 ?_
        refine lv_aload_n hx hb dX12_next_23 rfl (lv_at hl 0 rfl) ?_
        refine va_get (ci := 12) (v := .int v_1852) (C := RX12) (T := TX12) (N := 60) hx hb hts hw12 hown hK hP 0 rfl rfl 14 (by decide) (hts (.fieldLink RX12 246 "SmokeTuneModel" "from" "I") (List.mem_cons_of_mem _ (List.mem_append_left _ (List.mem_of_getElem? (i := 1) rfl)))) (fun _ h9 => h9) rfl dX12_next_24 ?_
        refine va_iald hx hb hK hP 1 0 rfl rfl (i_in rfl (by omega)) dX12_next_27 ?_
        refine lv_topi (fun x_2298 ex_2298 => ?_)
        have kx_2298 : ft (v_1852.toInt).toNat = x_2298 := by rw [ex_2298, i_clamp rfl]
        refine lv_bipush (v := 32) hx hb dX12_next_28 (by decide) ?_
        refine lv_icmp_ne (tgt := 46) hx hb dX12_next_30 (by decide) (fun c_2299 => ?_) (fun c_2299 => ?_)
        · have c_2299i := i_ne (x := x_2298.toInt) (y := 32) rfl rfl c_2299
          refine lv_aload_n hx hb dX12_next_46 rfl (lv_at hl 0 rfl) ?_
          refine lv_aload_n hx hb dX12_next_47 rfl (lv_at hl 0 rfl) ?_
          refine va_get (ci := 12) (v := .int v_1852) (C := RX12) (T := TX12) (N := 60) hx hb hts hw12 hown hK hP 0 rfl rfl 14 (by decide) (hts (.fieldLink RX12 246 "SmokeTuneModel" "from" "I") (List.mem_cons_of_mem _ (List.mem_append_left _ (List.mem_of_getElem? (i := 1) rfl)))) (fun _ h9 => h9) rfl dX12_next_48 ?_
          refine va_put (ci := 12) (v := .int v_1852) (ty := .int) (C := RX12) (T := TX12) (N := 60) hx hb hts hw12 tyX12 tyX12_ok nmX12 hown hK hP hD hS 0 rfl rfl 15 (by decide) (hts (.fieldLink RX12 236 "SmokeTuneModel" "to" "I") (List.mem_cons_of_mem _ (List.mem_append_left _ (List.mem_of_getElem? (i := 0) rfl)))) (fun _ h9 => h9) rfl (by decide +kernel) (by first | rfl | decide) (by first | rfl | decide) (Nat.le_of_ble_eq_true rfl) dX12_next_51 (fun H locs hP hD hS => ?_)
          have hP : va_P D vwCl [(m0, .inr (12, [m_0, m_1, m_2, m_3, m_4, m_5, m_6, m_7, m_8, m_9, m_10, m_11, .ref t0, .int ta, .int v_1852, .int v_1852, .int so, .long wo, m_18, m_19, m_20, m_21, m_22, m_23, m_24, m_25, m_26, m_27, m_28, m_29, m_30, m_31, m_32, m_33, m_34, m_35, m_36, m_37, m_38, m_39, m_40, m_41, m_42, m_43, m_44, m_45, m_46, m_47, m_48, m_49, m_50, m_51, m_52, m_53, m_54, m_55, m_56, m_57, m_58, m_59])), (t0, .inl (K 0, 400, .inl ft))] H := hP
          have hD : va_D A [(m0, .inr (12, [m_0, m_1, m_2, m_3, m_4, m_5, m_6, m_7, m_8, m_9, m_10, m_11, .ref t0, .int ta, .int v_1852, .int v_1852, .int so, .long wo, m_18, m_19, m_20, m_21, m_22, m_23, m_24, m_25, m_26, m_27, m_28, m_29, m_30, m_31, m_32, m_33, m_34, m_35, m_36, m_37, m_38, m_39, m_40, m_41, m_42, m_43, m_44, m_45, m_46, m_47, m_48, m_49, m_50, m_51, m_52, m_53, m_54, m_55, m_56, m_57, m_58, m_59])), (t0, .inl (K 0, 400, .inl ft))] := hD
          refine lv_aload_n hx hb dX12_next_54 rfl (lv_at hl 0 rfl) ?_
          refine lv_lconst (v := 0) hx hb dX12_next_55 (by decide) ?_
          refine va_put (ci := 12) (v := .long 0) (ty := .long) (C := RX12) (T := TX12) (N := 60) hx hb hts hw12 tyX12 tyX12_ok nmX12 hown hK hP hD hS 0 rfl rfl 17 (by decide) (hts (.fieldLink RX12 249 "SmokeTuneModel" "worth" "J") (List.mem_cons_of_mem _ (List.mem_append_left _ (List.mem_of_getElem? (i := 4) rfl)))) (fun _ h9 => h9) rfl (by decide +kernel) (by first | rfl | decide) (by first | rfl | decide) (Nat.le_of_ble_eq_true rfl) dX12_next_56 (fun H locs hP hD hS => ?_)
          have hP : va_P D vwCl [(m0, .inr (12, [m_0, m_1, m_2, m_3, m_4, m_5, m_6, m_7, m_8, m_9, m_10, m_11, .ref t0, .int ta, .int v_1852, .int v_1852, .int so, .long 0, m_18, m_19, m_20, m_21, m_22, m_23, m_24, m_25, m_26, m_27, m_28, m_29, m_30, m_31, m_32, m_33, m_34, m_35, m_36, m_37, m_38, m_39, m_40, m_41, m_42, m_43, m_44, m_45, m_46, m_47, m_48, m_49, m_50, m_51, m_52, m_53, m_54, m_55, m_56, m_57, m_58, m_59])), (t0, .inl (K 0, 400, .inl ft))] H := hP
          have hD : va_D A [(m0, .inr (12, [m_0, m_1, m_2, m_3, m_4, m_5, m_6, m_7, m_8, m_9, m_10, m_11, .ref t0, .int ta, .int v_1852, .int v_1852, .int so, .long 0, m_18, m_19, m_20, m_21, m_22, m_23, m_24, m_25, m_26, m_27, m_28, m_29, m_30, m_31, m_32, m_33, m_34, m_35, m_36, m_37, m_38, m_39, m_40, m_41, m_42, m_43, m_44, m_45, m_46, m_47, m_48, m_49, m_50, m_51, m_52, m_53, m_54, m_55, m_56, m_57, m_58, m_59])), (t0, .inl (K 0, 400, .inl ft))] := hD
          refine lv_aload_n hx hb dX12_next_59 rfl (lv_at hl 0 rfl) ?_
          refine lv_aload_n hx hb dX12_next_60 rfl (lv_at hl 0 rfl) ?_
          refine va_get (ci := 12) (v := .int v_1852) (C := RX12) (T := TX12) (N := 60) hx hb hts hw12 hown hK hP 0 rfl rfl 14 (by decide) (hts (.fieldLink RX12 246 "SmokeTuneModel" "from" "I") (List.mem_cons_of_mem _ (List.mem_append_left _ (List.mem_of_getElem? (i := 1) rfl)))) (fun _ h9 => h9) rfl dX12_next_61 ?_
          refine lv_aload_n hx hb dX12_next_64 rfl (lv_at hl 0 rfl) ?_
          refine va_get (ci := 12) (v := .int ta) (C := RX12) (T := TX12) (N := 60) hx hb hts hw12 hown hK hP 0 rfl rfl 13 (by decide) (hts (.fieldLink RX12 227 "SmokeTuneModel" "taped" "I") (List.mem_cons_of_mem _ (List.mem_append_left _ (List.mem_of_getElem? (i := 2) rfl)))) (fun _ h9 => h9) rfl dX12_next_65 ?_
          refine lv_icmp_ne (tgt := 75) hx hb dX12_next_68 (by decide) (fun c_2300 => ?_) (fun c_2300 => ?_)
          · have c_2300i := i_ne (x := v_1852.toInt) (y := ta.toInt) rfl rfl c_2300
            refine lv_aload_n hx hb dX12_next_75 rfl (lv_at hl 0 rfl) ?_
            refine va_get (ci := 12) (v := .ref t0) (C := RX12) (T := TX12) (N := 60) hx hb hts hw12 hown hK hP 0 rfl rfl 12 (by decide) (hts (.fieldLink RX12 35 "SmokeTuneModel" "tape" "[I") (List.mem_cons_of_mem _ (List.mem_append_left _ (List.mem_of_getElem? (i := 3) rfl)))) (fun _ h9 => h9) rfl dX12_next_76 ?_
            refine lv_aload_n hx hb dX12_next_79 rfl (lv_at hl 0 rfl) ?_
            refine va_get (ci := 12) (v := .int v_1852) (C := RX12) (T := TX12) (N := 60) hx hb hts hw12 hown hK hP 0 rfl rfl 14 (by decide) (hts (.fieldLink RX12 246 "SmokeTuneModel" "from" "I") (List.mem_cons_of_mem _ (List.mem_append_left _ (List.mem_of_getElem? (i := 1) rfl)))) (fun _ h9 => h9) rfl dX12_next_80 ?_
            refine va_iald hx hb hK hP 1 0 rfl rfl (i_in rfl (by omega)) dX12_next_83 ?_
            refine lv_topi (fun x_2301 ex_2301 => ?_)
            have erx_2301 : x_2301 = x_2298 := ex_2301.trans (by rw [i_clamp rfl]; exact kx_2298)
            have hrx_2301 : x_2301.toInt = x_2298.toInt := (congrArg Int32.toInt erx_2301).trans rfl
            refine pci (va_runS (As := [.int x_2301]) (rest := [.ref m0]) ⟨hx, hb, hml, hown, hts⟩ (v_isSmall l D K x_2298.toInt x_2301 H.size hrx_2301) (va_cwS 1 hts gX12_next_X12_isSmall rfl rfl rfl (by decide +kernel) ⟨Nat.le_of_ble_eq_true rfl, Nat.le_of_ble_eq_true rfl⟩) (mkS hK hN (va_P.nil) (va_D.nil (A := fun _ => True))) rfl rfl hl.1 rfl (lv_room (Nat.le_of_ble_eq_true rfl)) dX12_next_84 ⟨Nat.le_of_ble_eq_true rfl, Nat.le_of_ble_eq_true rfl⟩) (fun r_2302 hw => ?_)
            obtain ⟨hw, -⟩ := hw
            rcases hw with ⟨rfl, h_2303, h_2304⟩ | ⟨rfl, h_2305⟩
            · refine lv_if_eq (tgt := 94) hx hb dX12_next_87 (by decide) (fun c_2306 => absurd c_2306 (by decide)) (fun c_2306 => ?_)
              refine lv_iconst (v := 1) hx hb dX12_next_90 (by decide) ?_
              refine lv_goto (tgt := 114) hx hb dX12_next_91 (by decide) ?_
              refine va_put (ci := 12) (v := .int 1) (ty := .int) (C := RX12) (T := TX12) (N := 60) hx hb hts hw12 tyX12 tyX12_ok nmX12 hown hK hP hD hS 0 rfl rfl 16 (by decide) (hts (.fieldLink RX12 259 "SmokeTuneModel" "sort" "I") (List.mem_cons_of_mem _ (List.mem_append_left _ (List.mem_of_getElem? (i := 5) rfl)))) (fun _ h9 => h9) rfl (by decide +kernel) (by first | rfl | decide) (by first | rfl | decide) (Nat.le_of_ble_eq_true rfl) dX12_next_114 (fun H locs hP hD hS => ?_)
              have hP : va_P D vwCl [(m0, .inr (12, [m_0, m_1, m_2, m_3, m_4, m_5, m_6, m_7, m_8, m_9, m_10, m_11, .ref t0, .int ta, .int v_1852, .int v_1852, .int 1, .long 0, m_18, m_19, m_20, m_21, m_22, m_23, m_24, m_25, m_26, m_27, m_28, m_29, m_30, m_31, m_32, m_33, m_34, m_35, m_36, m_37, m_38, m_39, m_40, m_41, m_42, m_43, m_44, m_45, m_46, m_47, m_48, m_49, m_50, m_51, m_52, m_53, m_54, m_55, m_56, m_57, m_58, m_59])), (t0, .inl (K 0, 400, .inl ft))] H := hP
              have hD : va_D A [(m0, .inr (12, [m_0, m_1, m_2, m_3, m_4, m_5, m_6, m_7, m_8, m_9, m_10, m_11, .ref t0, .int ta, .int v_1852, .int v_1852, .int 1, .long 0, m_18, m_19, m_20, m_21, m_22, m_23, m_24, m_25, m_26, m_27, m_28, m_29, m_30, m_31, m_32, m_33, m_34, m_35, m_36, m_37, m_38, m_39, m_40, m_41, m_42, m_43, m_44, m_45, m_46, m_47, m_48, m_49, m_50, m_51, m_52, m_53, m_54, m_55, m_56, m_57, m_58, m_59])), (t0, .inl (K 0, 400, .inl ft))] := hD
              refine lv_aload_n hx hb dX12_next_117 rfl (lv_at hl 0 rfl) ?_
              refine va_get (ci := 12) (v := .int 1) (C := RX12) (T := TX12) (N := 60) hx hb hts hw12 hown hK hP 0 rfl rfl 16 (by decide) (hts (.fieldLink RX12 259 "SmokeTuneModel" "sort" "I") (List.mem_cons_of_mem _ (List.mem_append_left _ (List.mem_of_getElem? (i := 5) rfl)))) (fun _ h9 => h9) rfl dX12_next_118 ?_
              refine lv_iconst (v := 3) hx hb dX12_next_121 (by decide) ?_
              refine lv_icmp_ne (tgt := 149) hx hb dX12_next_122 (by decide) (fun c_2307 => ?_) (fun c_2307 => absurd c_2307 (by decide))
              refine lv_aload_n hx hb dX12_next_149 rfl (lv_at hl 0 rfl) ?_
              refine va_get (ci := 12) (v := .int 1) (C := RX12) (T := TX12) (N := 60) hx hb hts hw12 hown hK hP 0 rfl rfl 16 (by decide) (hts (.fieldLink RX12 259 "SmokeTuneModel" "sort" "I") (List.mem_cons_of_mem _ (List.mem_append_left _ (List.mem_of_getElem? (i := 5) rfl)))) (fun _ h9 => h9) rfl dX12_next_150 ?_
              refine lv_iconst (v := 1) hx hb dX12_next_153 (by decide) ?_
              refine lv_icmp_ne (tgt := 243) hx hb dX12_next_154 (by decide) (fun c_2308 => absurd (by decide) c_2308) (fun c_2308 => ?_)
              refine lv_aload_n hx hb dX12_next_157 rfl (lv_at hl 0 rfl) ?_
              refine va_get (ci := 12) (v := .int v_1852) (C := RX12) (T := TX12) (N := 60) hx hb hts hw12 hown hK hP 0 rfl rfl 15 (by decide) (hts (.fieldLink RX12 236 "SmokeTuneModel" "to" "I") (List.mem_cons_of_mem _ (List.mem_append_left _ (List.mem_of_getElem? (i := 0) rfl)))) (fun _ h9 => h9) rfl dX12_next_158 ?_
              refine lv_aload_n hx hb dX12_next_161 rfl (lv_at hl 0 rfl) ?_
              refine va_get (ci := 12) (v := .int ta) (C := RX12) (T := TX12) (N := 60) hx hb hts hw12 hown hK hP 0 rfl rfl 13 (by decide) (hts (.fieldLink RX12 227 "SmokeTuneModel" "taped" "I") (List.mem_cons_of_mem _ (List.mem_append_left _ (List.mem_of_getElem? (i := 2) rfl)))) (fun _ h9 => h9) rfl dX12_next_162 ?_
              refine lv_icmp_ge (tgt := 243) hx hb dX12_next_165 (by decide) (fun c_2309 => ?_) (fun c_2309 => ?_)
              · have c_2309i := i_le (x := ta.toInt) (y := v_1852.toInt) rfl rfl c_2309
                refine lv_aload_n hx hb dX12_next_243 rfl (lv_at hl 0 rfl) ?_
                refine va_get (ci := 12) (v := .int 1) (C := RX12) (T := TX12) (N := 60) hx hb hts hw12 hown hK hP 0 rfl rfl 16 (by decide) (hts (.fieldLink RX12 259 "SmokeTuneModel" "sort" "I") (List.mem_cons_of_mem _ (List.mem_append_left _ (List.mem_of_getElem? (i := 5) rfl)))) (fun _ h9 => h9) rfl dX12_next_244 ?_
                refine lv_iconst (v := 2) hx hb dX12_next_247 (by decide) ?_
                refine lv_icmp_ne (tgt := 335) hx hb dX12_next_248 (by decide) (fun c_2310 => ?_) (fun c_2310 => absurd c_2310 (by decide))
                rw [← hQ]
                have hP9 := hP.sub (ws' := [(m0, .inr (12, [m_0, m_1, m_2, m_3, m_4, m_5, m_6, m_7, m_8, m_9, m_10, m_11, .ref t0, .int ta, .int v_1852, .int v_1852, .int 1, .long 0, m_18, m_19, m_20, m_21, m_22, m_23, m_24, m_25, m_26, m_27, m_28, m_29, m_30, m_31, m_32, m_33, m_34, m_35, m_36, m_37, m_38, m_39, m_40, m_41, m_42, m_43, m_44, m_45, m_46, m_47, m_48, m_49, m_50, m_51, m_52, m_53, m_54, m_55, m_56, m_57, m_58, m_59])), (t0, .inl (K 0, 400, .inl ft))]) [0, 1] rfl
                have hD9 := hD.sub (ws' := [(m0, .inr (12, [m_0, m_1, m_2, m_3, m_4, m_5, m_6, m_7, m_8, m_9, m_10, m_11, .ref t0, .int ta, .int v_1852, .int v_1852, .int 1, .long 0, m_18, m_19, m_20, m_21, m_22, m_23, m_24, m_25, m_26, m_27, m_28, m_29, m_30, m_31, m_32, m_33, m_34, m_35, m_36, m_37, m_38, m_39, m_40, m_41, m_42, m_43, m_44, m_45, m_46, m_47, m_48, m_49, m_50, m_51, m_52, m_53, m_54, m_55, m_56, m_57, m_58, m_59])), (t0, .inl (K 0, 400, .inl ft))]) [0, 1] (by decide) rfl
                exact W.vret hx hb hr (fun t ht hW => ⟨⟨((fun _ => 0, fun _ => fun _ => 0, fun _ => fun _ => 0, fun i => match i with | 0 => v_1852 | 1 => v_1852 | _ => 1, fun i => match i with | _ => 0, fun _ => fun _ => none) : Su), rfl, ⟨(show 0 ≤ (v_1852 : Int32).toInt ∧ (v_1852 : Int32).toInt ≤ 400 by omega), (show 0 ≤ (v_1852 : Int32).toInt ∧ (v_1852 : Int32).toInt ≤ 401 by omega), (show 0 ≤ (1 : Int32).toInt ∧ (1 : Int32).toInt ≤ 3 by decide), (show ((0 ≤ (v_1852 : Int32).toInt ∧ (v_1852 : Int32).toInt ≤ (v_1852 : Int32).toInt ∧ (v_1852 : Int32).toInt ≤ ta.toInt) ∧ (1 = 0 ∨ (v_1852 : Int32).toInt < (v_1852 : Int32).toInt) ∧ (1 ≠ 1 ∨ (v_1852 : Int32).toInt + 1 < (v_1852 : Int32).toInt ∨ 0 ≤ 26)) by omega), (show to.toInt ≤ (v_1852 : Int32).toInt by omega), trivial⟩, (⟨by rw [ht]; exact hP9, hD9⟩ : Wd D A _ t)⟩, hS.F ht⟩) hS.2.2 dX12_next_335
              · have c_2309i := i_nle (x := ta.toInt) (y := v_1852.toInt) rfl rfl c_2309
                refine lv_aload_n hx hb dX12_next_168 rfl (lv_at hl 0 rfl) ?_
                refine va_get (ci := 12) (v := .ref t0) (C := RX12) (T := TX12) (N := 60) hx hb hts hw12 hown hK hP 0 rfl rfl 12 (by decide) (hts (.fieldLink RX12 35 "SmokeTuneModel" "tape" "[I") (List.mem_cons_of_mem _ (List.mem_append_left _ (List.mem_of_getElem? (i := 3) rfl)))) (fun _ h9 => h9) rfl dX12_next_169 ?_
                refine lv_aload_n hx hb dX12_next_172 rfl (lv_at hl 0 rfl) ?_
                refine va_get (ci := 12) (v := .int v_1852) (C := RX12) (T := TX12) (N := 60) hx hb hts hw12 hown hK hP 0 rfl rfl 15 (by decide) (hts (.fieldLink RX12 236 "SmokeTuneModel" "to" "I") (List.mem_cons_of_mem _ (List.mem_append_left _ (List.mem_of_getElem? (i := 0) rfl)))) (fun _ h9 => h9) rfl dX12_next_173 ?_
                refine va_iald hx hb hK hP 1 0 rfl rfl (i_in rfl (by omega)) dX12_next_176 ?_
                refine lv_topi (fun x_2311 ex_2311 => ?_)
                have erx_2311 : x_2311 = x_2298 := ex_2311.trans (by rw [i_clamp rfl]; exact kx_2298)
                have hrx_2311 : x_2311.toInt = x_2298.toInt := (congrArg Int32.toInt erx_2311).trans rfl
                refine pci (va_runS (As := [.int x_2311]) (rest := []) ⟨hx, hb, hml, hown, hts⟩ (v_isSmall l D K x_2298.toInt x_2311 H.size hrx_2311) (va_cwS 1 hts gX12_next_X12_isSmall rfl rfl rfl (by decide +kernel) ⟨Nat.le_of_ble_eq_true rfl, Nat.le_of_ble_eq_true rfl⟩) (mkS hK hN (va_P.nil) (va_D.nil (A := fun _ => True))) rfl rfl hl.1 rfl (lv_room (Nat.le_of_ble_eq_true rfl)) dX12_next_177 ⟨Nat.le_of_ble_eq_true rfl, Nat.le_of_ble_eq_true rfl⟩) (fun r_2312 hw => ?_)
                obtain ⟨hw, -⟩ := hw
                rcases hw with ⟨rfl, h_2313, h_2314⟩ | ⟨rfl, h_2315⟩
                · refine lv_if_eq (tgt := 243) hx hb dX12_next_180 (by decide) (fun c_2316 => absurd c_2316 (by decide)) (fun c_2316 => ?_)
                  refine lv_aload_n hx hb dX12_next_183 rfl (lv_at hl 0 rfl) ?_
                  refine lv_aload_n hx hb dX12_next_184 rfl (lv_at hl 0 rfl) ?_
                  refine va_get (ci := 12) (v := .int v_1852) (C := RX12) (T := TX12) (N := 60) hx hb hts hw12 hown hK hP 0 rfl rfl 15 (by decide) (hts (.fieldLink RX12 236 "SmokeTuneModel" "to" "I") (List.mem_cons_of_mem _ (List.mem_append_left _ (List.mem_of_getElem? (i := 0) rfl)))) (fun _ h9 => h9) rfl dX12_next_185 ?_
                  refine lv_aload_n hx hb dX12_next_188 rfl (lv_at hl 0 rfl) ?_
                  refine va_get (ci := 12) (v := .int v_1852) (C := RX12) (T := TX12) (N := 60) hx hb hts hw12 hown hK hP 0 rfl rfl 14 (by decide) (hts (.fieldLink RX12 246 "SmokeTuneModel" "from" "I") (List.mem_cons_of_mem _ (List.mem_append_left _ (List.mem_of_getElem? (i := 1) rfl)))) (fun _ h9 => h9) rfl dX12_next_189 ?_
                  refine lv_isub hx hb dX12_next_192 ?_
                  refine lv_topi (fun x_2317 ex_2317 => ?_)
                  have hx_2317 : x_2317.toInt = (v_1852.toInt - v_1852.toInt) := by rw [ex_2317]; exact i_sub rfl rfl (by omega)
                  refine lv_bipush (v := 10) hx hb dX12_next_193 (by decide) ?_
                  refine lv_icmp_ge (tgt := 224) hx hb dX12_next_195 (by decide) (fun c_2318 => ?_) (fun c_2318 => ?_)
                  · have c_2318i := i_le (x := 10) (y := (v_1852.toInt - v_1852.toInt)) rfl hx_2317 c_2318
                    refine lv_ldc2 (v := (-1)) hx hb hown (hts (.constantLong RX12 266 (-1)) (List.mem_cons_of_mem _ (List.mem_append_left _ (List.mem_of_getElem? (i := 8) rfl)))) dX12_next_224 ?_
                    refine va_put (ci := 12) (v := .long (-1)) (ty := .long) (C := RX12) (T := TX12) (N := 60) hx hb hts hw12 tyX12 tyX12_ok nmX12 hown hK hP hD hS 0 rfl rfl 17 (by decide) (hts (.fieldLink RX12 249 "SmokeTuneModel" "worth" "J") (List.mem_cons_of_mem _ (List.mem_append_left _ (List.mem_of_getElem? (i := 4) rfl)))) (fun _ h9 => h9) rfl (by decide +kernel) (by first | rfl | decide) (by first | rfl | decide) (Nat.le_of_ble_eq_true rfl) dX12_next_227 (fun H locs hP hD hS => ?_)
                    have hP : va_P D vwCl [(m0, .inr (12, [m_0, m_1, m_2, m_3, m_4, m_5, m_6, m_7, m_8, m_9, m_10, m_11, .ref t0, .int ta, .int v_1852, .int v_1852, .int 1, .long (-1), m_18, m_19, m_20, m_21, m_22, m_23, m_24, m_25, m_26, m_27, m_28, m_29, m_30, m_31, m_32, m_33, m_34, m_35, m_36, m_37, m_38, m_39, m_40, m_41, m_42, m_43, m_44, m_45, m_46, m_47, m_48, m_49, m_50, m_51, m_52, m_53, m_54, m_55, m_56, m_57, m_58, m_59])), (t0, .inl (K 0, 400, .inl ft))] H := hP
                    have hD : va_D A [(m0, .inr (12, [m_0, m_1, m_2, m_3, m_4, m_5, m_6, m_7, m_8, m_9, m_10, m_11, .ref t0, .int ta, .int v_1852, .int v_1852, .int 1, .long (-1), m_18, m_19, m_20, m_21, m_22, m_23, m_24, m_25, m_26, m_27, m_28, m_29, m_30, m_31, m_32, m_33, m_34, m_35, m_36, m_37, m_38, m_39, m_40, m_41, m_42, m_43, m_44, m_45, m_46, m_47, m_48, m_49, m_50, m_51, m_52, m_53, m_54, m_55, m_56, m_57, m_58, m_59])), (t0, .inl (K 0, 400, .inl ft))] := hD
                    refine lv_aload_n hx hb dX12_next_230 rfl (lv_at hl 0 rfl) ?_
                    refine lv_dup hx hb dX12_next_231 rfl ?_
                    refine va_get (ci := 12) (v := .int v_1852) (C := RX12) (T := TX12) (N := 60) hx hb hts hw12 hown hK hP 0 rfl rfl 15 (by decide) (hts (.fieldLink RX12 236 "SmokeTuneModel" "to" "I") (List.mem_cons_of_mem _ (List.mem_append_left _ (List.mem_of_getElem? (i := 0) rfl)))) (fun _ h9 => h9) rfl dX12_next_232 ?_
                    refine lv_iconst (v := 1) hx hb dX12_next_235 (by decide) ?_
                    refine lv_iadd hx hb dX12_next_236 ?_
                    refine lv_topi (fun x_2319 ex_2319 => ?_)
                    have hx_2319 : x_2319.toInt = (v_1852.toInt + 1) := by rw [ex_2319]; exact i_add rfl (show (1 : Int32).toInt = 1 from rfl) (by omega)
                    refine va_put (ci := 12) (v := .int x_2319) (ty := .int) (C := RX12) (T := TX12) (N := 60) hx hb hts hw12 tyX12 tyX12_ok nmX12 hown hK hP hD hS 0 rfl rfl 15 (by decide) (hts (.fieldLink RX12 236 "SmokeTuneModel" "to" "I") (List.mem_cons_of_mem _ (List.mem_append_left _ (List.mem_of_getElem? (i := 0) rfl)))) (fun _ h9 => h9) rfl (by decide +kernel) (by first | rfl | decide) (by first | rfl | decide) (Nat.le_of_ble_eq_true rfl) dX12_next_237 (fun H locs hP hD hS => ?_)
                    have hP : va_P D vwCl [(m0, .inr (12, [m_0, m_1, m_2, m_3, m_4, m_5, m_6, m_7, m_8, m_9, m_10, m_11, .ref t0, .int ta, .int v_1852, .int x_2319, .int 1, .long (-1), m_18, m_19, m_20, m_21, m_22, m_23, m_24, m_25, m_26, m_27, m_28, m_29, m_30, m_31, m_32, m_33, m_34, m_35, m_36, m_37, m_38, m_39, m_40, m_41, m_42, m_43, m_44, m_45, m_46, m_47, m_48, m_49, m_50, m_51, m_52, m_53, m_54, m_55, m_56, m_57, m_58, m_59])), (t0, .inl (K 0, 400, .inl ft))] H := hP
                    have hD : va_D A [(m0, .inr (12, [m_0, m_1, m_2, m_3, m_4, m_5, m_6, m_7, m_8, m_9, m_10, m_11, .ref t0, .int ta, .int v_1852, .int x_2319, .int 1, .long (-1), m_18, m_19, m_20, m_21, m_22, m_23, m_24, m_25, m_26, m_27, m_28, m_29, m_30, m_31, m_32, m_33, m_34, m_35, m_36, m_37, m_38, m_39, m_40, m_41, m_42, m_43, m_44, m_45, m_46, m_47, m_48, m_49, m_50, m_51, m_52, m_53, m_54, m_55, m_56, m_57, m_58, m_59])), (t0, .inl (K 0, 400, .inl ft))] := hD
                    refine lv_goto (tgt := 149) hx hb dX12_next_240 (by decide) ?_
                    have lp_2438 : ∀ (nn_ : Nat) (v_2398 : Int32) (v_2399 : Int64) (hv_2398 : 1 ≤ v_2398.toInt ∧ v_2398.toInt ≤ 400) (hr0_lp_2438 : v_1852.toInt < v_2398.toInt ∧ v_2398.toInt ≤ ta.toInt ∧ (v_1852.toInt + 1 < v_2398.toInt ∨ v_2399.toInt ≤ 26)) (hn : (ta.toInt - v_2398.toInt : Int).toNat < nn_) (H : Heap) (locs : List Loc) (hP : va_P D vwCl [(m0, .inr (12, [m_0, m_1, m_2, m_3, m_4, m_5, m_6, m_7, m_8, m_9, m_10, m_11, .ref t0, .int ta, .int v_1852, .int v_2398, .int 1, .long v_2399, m_18, m_19, m_20, m_21, m_22, m_23, m_24, m_25, m_26, m_27, m_28, m_29, m_30, m_31, m_32, m_33, m_34, m_35, m_36, m_37, m_38, m_39, m_40, m_41, m_42, m_43, m_44, m_45, m_46, m_47, m_48, m_49, m_50, m_51, m_52, m_53, m_54, m_55, m_56, m_57, m_58, m_59])), (t0, .inl (K 0, 400, .inl ft))] H) (hD : va_D A [(m0, .inr (12, [m_0, m_1, m_2, m_3, m_4, m_5, m_6, m_7, m_8, m_9, m_10, m_11, .ref t0, .int ta, .int v_1852, .int v_2398, .int 1, .long v_2399, m_18, m_19, m_20, m_21, m_22, m_23, m_24, m_25, m_26, m_27, m_28, m_29, m_30, m_31, m_32, m_33, m_34, m_35, m_36, m_37, m_38, m_39, m_40, m_41, m_42, m_43, m_44, m_45, m_46, m_47, m_48, m_49, m_50, m_51, m_52, m_53, m_54, m_55, m_56, m_57, m_58, m_59])), (t0, .inl (K 0, 400, .inl ft))]) (hS : va_S A s.heap H locs) (ls : Array Slot) (hl : lv_has ls 1 [(0, .ref m0)]), W p l e ({ frames := 1, cells := 0, slots := 0, locals := 20 }) s m (([.ref m0] : List Value).toArray) below meth c H locs 0 0 Q (F0 m 149 ls []) := by
                      intro nn_
                      induction nn_ with
                      | zero =>
                        intro v_2398 v_2399 hv_2398 hr0_lp_2438 hn H locs hP hD hS ls hl
                        exact absurd hn (Nat.not_lt_zero _)
                      | succ nn_ ih_2439 =>
                        intro v_2398 v_2399 hv_2398 hr0_lp_2438 hn H locs hP hD hS ls hl
                        refine lv_aload_n hx hb dX12_next_149 rfl (lv_at hl 0 rfl) ?_
                        refine va_get (ci := 12) (v := .int 1) (C := RX12) (T := TX12) (N := 60) hx hb hts hw12 hown hK hP 0 rfl rfl 16 (by decide) (hts (.fieldLink RX12 259 "SmokeTuneModel" "sort" "I") (List.mem_cons_of_mem _ (List.mem_append_left _ (List.mem_of_getElem? (i := 5) rfl)))) (fun _ h9 => h9) rfl dX12_next_150 ?_
                        refine lv_iconst (v := 1) hx hb dX12_next_153 (by decide) ?_
                        refine lv_icmp_ne (tgt := 243) hx hb dX12_next_154 (by decide) (fun c_2440 => absurd (by decide) c_2440) (fun c_2440 => ?_)
                        refine lv_aload_n hx hb dX12_next_157 rfl (lv_at hl 0 rfl) ?_
                        refine va_get (ci := 12) (v := .int v_2398) (C := RX12) (T := TX12) (N := 60) hx hb hts hw12 hown hK hP 0 rfl rfl 15 (by decide) (hts (.fieldLink RX12 236 "SmokeTuneModel" "to" "I") (List.mem_cons_of_mem _ (List.mem_append_left _ (List.mem_of_getElem? (i := 0) rfl)))) (fun _ h9 => h9) rfl dX12_next_158 ?_
                        refine lv_aload_n hx hb dX12_next_161 rfl (lv_at hl 0 rfl) ?_
                        refine va_get (ci := 12) (v := .int ta) (C := RX12) (T := TX12) (N := 60) hx hb hts hw12 hown hK hP 0 rfl rfl 13 (by decide) (hts (.fieldLink RX12 227 "SmokeTuneModel" "taped" "I") (List.mem_cons_of_mem _ (List.mem_append_left _ (List.mem_of_getElem? (i := 2) rfl)))) (fun _ h9 => h9) rfl dX12_next_162 ?_
                        refine lv_icmp_ge (tgt := 243) hx hb dX12_next_165 (by decide) (fun c_2441 => ?_) (fun c_2441 => ?_)
                        · have c_2441i := i_le (x := ta.toInt) (y := v_2398.toInt) rfl rfl c_2441
                          refine lv_aload_n hx hb dX12_next_243 rfl (lv_at hl 0 rfl) ?_
                          refine va_get (ci := 12) (v := .int 1) (C := RX12) (T := TX12) (N := 60) hx hb hts hw12 hown hK hP 0 rfl rfl 16 (by decide) (hts (.fieldLink RX12 259 "SmokeTuneModel" "sort" "I") (List.mem_cons_of_mem _ (List.mem_append_left _ (List.mem_of_getElem? (i := 5) rfl)))) (fun _ h9 => h9) rfl dX12_next_244 ?_
                          refine lv_iconst (v := 2) hx hb dX12_next_247 (by decide) ?_
                          refine lv_icmp_ne (tgt := 335) hx hb dX12_next_248 (by decide) (fun c_2442 => ?_) (fun c_2442 => absurd c_2442 (by decide))
                          rw [← hQ]
                          have hP9 := hP.sub (ws' := [(m0, .inr (12, [m_0, m_1, m_2, m_3, m_4, m_5, m_6, m_7, m_8, m_9, m_10, m_11, .ref t0, .int ta, .int v_1852, .int v_2398, .int 1, .long v_2399, m_18, m_19, m_20, m_21, m_22, m_23, m_24, m_25, m_26, m_27, m_28, m_29, m_30, m_31, m_32, m_33, m_34, m_35, m_36, m_37, m_38, m_39, m_40, m_41, m_42, m_43, m_44, m_45, m_46, m_47, m_48, m_49, m_50, m_51, m_52, m_53, m_54, m_55, m_56, m_57, m_58, m_59])), (t0, .inl (K 0, 400, .inl ft))]) [0, 1] rfl
                          have hD9 := hD.sub (ws' := [(m0, .inr (12, [m_0, m_1, m_2, m_3, m_4, m_5, m_6, m_7, m_8, m_9, m_10, m_11, .ref t0, .int ta, .int v_1852, .int v_2398, .int 1, .long v_2399, m_18, m_19, m_20, m_21, m_22, m_23, m_24, m_25, m_26, m_27, m_28, m_29, m_30, m_31, m_32, m_33, m_34, m_35, m_36, m_37, m_38, m_39, m_40, m_41, m_42, m_43, m_44, m_45, m_46, m_47, m_48, m_49, m_50, m_51, m_52, m_53, m_54, m_55, m_56, m_57, m_58, m_59])), (t0, .inl (K 0, 400, .inl ft))]) [0, 1] (by decide) rfl
                          exact W.vret hx hb hr (fun t ht hW => ⟨⟨((fun _ => 0, fun _ => fun _ => 0, fun _ => fun _ => 0, fun i => match i with | 0 => v_1852 | 1 => v_2398 | _ => 1, fun i => match i with | _ => v_2399, fun _ => fun _ => none) : Su), rfl, ⟨(show 0 ≤ (v_1852 : Int32).toInt ∧ (v_1852 : Int32).toInt ≤ 400 by omega), (show 0 ≤ (v_2398 : Int32).toInt ∧ (v_2398 : Int32).toInt ≤ 401 by omega), (show 0 ≤ (1 : Int32).toInt ∧ (1 : Int32).toInt ≤ 3 by decide), (show ((0 ≤ (v_1852 : Int32).toInt ∧ (v_1852 : Int32).toInt ≤ (v_2398 : Int32).toInt ∧ (v_2398 : Int32).toInt ≤ ta.toInt) ∧ (1 = 0 ∨ (v_1852 : Int32).toInt < (v_2398 : Int32).toInt) ∧ (1 ≠ 1 ∨ (v_1852 : Int32).toInt + 1 < (v_2398 : Int32).toInt ∨ (v_2399 : Int64).toInt ≤ 26)) by omega), (show to.toInt ≤ (v_1852 : Int32).toInt by omega), trivial⟩, (⟨by rw [ht]; exact hP9, hD9⟩ : Wd D A _ t)⟩, hS.F ht⟩) hS.2.2 dX12_next_335
                        · have c_2441i := i_nle (x := ta.toInt) (y := v_2398.toInt) rfl rfl c_2441
                          refine lv_aload_n hx hb dX12_next_168 rfl (lv_at hl 0 rfl) ?_
                          refine va_get (ci := 12) (v := .ref t0) (C := RX12) (T := TX12) (N := 60) hx hb hts hw12 hown hK hP 0 rfl rfl 12 (by decide) (hts (.fieldLink RX12 35 "SmokeTuneModel" "tape" "[I") (List.mem_cons_of_mem _ (List.mem_append_left _ (List.mem_of_getElem? (i := 3) rfl)))) (fun _ h9 => h9) rfl dX12_next_169 ?_
                          refine lv_aload_n hx hb dX12_next_172 rfl (lv_at hl 0 rfl) ?_
                          refine va_get (ci := 12) (v := .int v_2398) (C := RX12) (T := TX12) (N := 60) hx hb hts hw12 hown hK hP 0 rfl rfl 15 (by decide) (hts (.fieldLink RX12 236 "SmokeTuneModel" "to" "I") (List.mem_cons_of_mem _ (List.mem_append_left _ (List.mem_of_getElem? (i := 0) rfl)))) (fun _ h9 => h9) rfl dX12_next_173 ?_
                          refine va_iald hx hb hK hP 1 0 rfl rfl (i_in rfl (by omega)) dX12_next_176 ?_
                          refine lv_topi (fun x_2443 ex_2443 => ?_)
                          have kx_2443 : ft (v_2398.toInt).toNat = x_2443 := by rw [ex_2443, i_clamp rfl]
                          refine pci (va_runS (As := [.int x_2443]) (rest := []) ⟨hx, hb, hml, hown, hts⟩ (v_isSmall l D K x_2443.toInt x_2443 H.size rfl) (va_cwS 1 hts gX12_next_X12_isSmall rfl rfl rfl (by decide +kernel) ⟨Nat.le_of_ble_eq_true rfl, Nat.le_of_ble_eq_true rfl⟩) (mkS hK hN (va_P.nil) (va_D.nil (A := fun _ => True))) rfl rfl hl.1 rfl (lv_room (Nat.le_of_ble_eq_true rfl)) dX12_next_177 ⟨Nat.le_of_ble_eq_true rfl, Nat.le_of_ble_eq_true rfl⟩) (fun r_2444 hw => ?_)
                          obtain ⟨hw, -⟩ := hw
                          rcases hw with ⟨rfl, h_2445, h_2446⟩ | ⟨rfl, h_2447⟩
                          · refine lv_if_eq (tgt := 243) hx hb dX12_next_180 (by decide) (fun c_2448 => absurd c_2448 (by decide)) (fun c_2448 => ?_)
                            refine lv_aload_n hx hb dX12_next_183 rfl (lv_at hl 0 rfl) ?_
                            refine lv_aload_n hx hb dX12_next_184 rfl (lv_at hl 0 rfl) ?_
                            refine va_get (ci := 12) (v := .int v_2398) (C := RX12) (T := TX12) (N := 60) hx hb hts hw12 hown hK hP 0 rfl rfl 15 (by decide) (hts (.fieldLink RX12 236 "SmokeTuneModel" "to" "I") (List.mem_cons_of_mem _ (List.mem_append_left _ (List.mem_of_getElem? (i := 0) rfl)))) (fun _ h9 => h9) rfl dX12_next_185 ?_
                            refine lv_aload_n hx hb dX12_next_188 rfl (lv_at hl 0 rfl) ?_
                            refine va_get (ci := 12) (v := .int v_1852) (C := RX12) (T := TX12) (N := 60) hx hb hts hw12 hown hK hP 0 rfl rfl 14 (by decide) (hts (.fieldLink RX12 246 "SmokeTuneModel" "from" "I") (List.mem_cons_of_mem _ (List.mem_append_left _ (List.mem_of_getElem? (i := 1) rfl)))) (fun _ h9 => h9) rfl dX12_next_189 ?_
                            refine lv_isub hx hb dX12_next_192 ?_
                            refine lv_topi (fun x_2449 ex_2449 => ?_)
                            have hx_2449 : x_2449.toInt = (v_2398.toInt - v_1852.toInt) := by rw [ex_2449]; exact i_sub rfl rfl (by omega)
                            refine lv_bipush (v := 10) hx hb dX12_next_193 (by decide) ?_
                            refine lv_icmp_ge (tgt := 224) hx hb dX12_next_195 (by decide) (fun c_2450 => ?_) (fun c_2450 => ?_)
                            · have c_2450i := i_le (x := 10) (y := (v_2398.toInt - v_1852.toInt)) rfl hx_2449 c_2450
                              refine lv_ldc2 (v := (-1)) hx hb hown (hts (.constantLong RX12 266 (-1)) (List.mem_cons_of_mem _ (List.mem_append_left _ (List.mem_of_getElem? (i := 8) rfl)))) dX12_next_224 ?_
                              refine va_put (ci := 12) (v := .long (-1)) (ty := .long) (C := RX12) (T := TX12) (N := 60) hx hb hts hw12 tyX12 tyX12_ok nmX12 hown hK hP hD hS 0 rfl rfl 17 (by decide) (hts (.fieldLink RX12 249 "SmokeTuneModel" "worth" "J") (List.mem_cons_of_mem _ (List.mem_append_left _ (List.mem_of_getElem? (i := 4) rfl)))) (fun _ h9 => h9) rfl (by decide +kernel) (by first | rfl | decide) (by first | rfl | decide) (Nat.le_of_ble_eq_true rfl) dX12_next_227 (fun H locs hP hD hS => ?_)
                              have hP : va_P D vwCl [(m0, .inr (12, [m_0, m_1, m_2, m_3, m_4, m_5, m_6, m_7, m_8, m_9, m_10, m_11, .ref t0, .int ta, .int v_1852, .int v_2398, .int 1, .long (-1), m_18, m_19, m_20, m_21, m_22, m_23, m_24, m_25, m_26, m_27, m_28, m_29, m_30, m_31, m_32, m_33, m_34, m_35, m_36, m_37, m_38, m_39, m_40, m_41, m_42, m_43, m_44, m_45, m_46, m_47, m_48, m_49, m_50, m_51, m_52, m_53, m_54, m_55, m_56, m_57, m_58, m_59])), (t0, .inl (K 0, 400, .inl ft))] H := hP
                              have hD : va_D A [(m0, .inr (12, [m_0, m_1, m_2, m_3, m_4, m_5, m_6, m_7, m_8, m_9, m_10, m_11, .ref t0, .int ta, .int v_1852, .int v_2398, .int 1, .long (-1), m_18, m_19, m_20, m_21, m_22, m_23, m_24, m_25, m_26, m_27, m_28, m_29, m_30, m_31, m_32, m_33, m_34, m_35, m_36, m_37, m_38, m_39, m_40, m_41, m_42, m_43, m_44, m_45, m_46, m_47, m_48, m_49, m_50, m_51, m_52, m_53, m_54, m_55, m_56, m_57, m_58, m_59])), (t0, .inl (K 0, 400, .inl ft))] := hD
                              refine lv_aload_n hx hb dX12_next_230 rfl (lv_at hl 0 rfl) ?_
                              refine lv_dup hx hb dX12_next_231 rfl ?_
                              refine va_get (ci := 12) (v := .int v_2398) (C := RX12) (T := TX12) (N := 60) hx hb hts hw12 hown hK hP 0 rfl rfl 15 (by decide) (hts (.fieldLink RX12 236 "SmokeTuneModel" "to" "I") (List.mem_cons_of_mem _ (List.mem_append_left _ (List.mem_of_getElem? (i := 0) rfl)))) (fun _ h9 => h9) rfl dX12_next_232 ?_
                              refine lv_iconst (v := 1) hx hb dX12_next_235 (by decide) ?_
                              refine lv_iadd hx hb dX12_next_236 ?_
                              refine lv_topi (fun x_2451 ex_2451 => ?_)
                              have hx_2451 : x_2451.toInt = (v_2398.toInt + 1) := by rw [ex_2451]; exact i_add rfl (show (1 : Int32).toInt = 1 from rfl) (by omega)
                              refine va_put (ci := 12) (v := .int x_2451) (ty := .int) (C := RX12) (T := TX12) (N := 60) hx hb hts hw12 tyX12 tyX12_ok nmX12 hown hK hP hD hS 0 rfl rfl 15 (by decide) (hts (.fieldLink RX12 236 "SmokeTuneModel" "to" "I") (List.mem_cons_of_mem _ (List.mem_append_left _ (List.mem_of_getElem? (i := 0) rfl)))) (fun _ h9 => h9) rfl (by decide +kernel) (by first | rfl | decide) (by first | rfl | decide) (Nat.le_of_ble_eq_true rfl) dX12_next_237 (fun H locs hP hD hS => ?_)
                              have hP : va_P D vwCl [(m0, .inr (12, [m_0, m_1, m_2, m_3, m_4, m_5, m_6, m_7, m_8, m_9, m_10, m_11, .ref t0, .int ta, .int v_1852, .int x_2451, .int 1, .long (-1), m_18, m_19, m_20, m_21, m_22, m_23, m_24, m_25, m_26, m_27, m_28, m_29, m_30, m_31, m_32, m_33, m_34, m_35, m_36, m_37, m_38, m_39, m_40, m_41, m_42, m_43, m_44, m_45, m_46, m_47, m_48, m_49, m_50, m_51, m_52, m_53, m_54, m_55, m_56, m_57, m_58, m_59])), (t0, .inl (K 0, 400, .inl ft))] H := hP
                              have hD : va_D A [(m0, .inr (12, [m_0, m_1, m_2, m_3, m_4, m_5, m_6, m_7, m_8, m_9, m_10, m_11, .ref t0, .int ta, .int v_1852, .int x_2451, .int 1, .long (-1), m_18, m_19, m_20, m_21, m_22, m_23, m_24, m_25, m_26, m_27, m_28, m_29, m_30, m_31, m_32, m_33, m_34, m_35, m_36, m_37, m_38, m_39, m_40, m_41, m_42, m_43, m_44, m_45, m_46, m_47, m_48, m_49, m_50, m_51, m_52, m_53, m_54, m_55, m_56, m_57, m_58, m_59])), (t0, .inl (K 0, 400, .inl ft))] := hD
                              refine lv_goto (tgt := 149) hx hb dX12_next_240 (by decide) ?_
                              have hz_2452 : ((-1) : Int64).toInt = (-1) := rfl
                              exact ih_2439 x_2451 (-1) (by rw [hx_2451]; omega) (show v_1852.toInt < (x_2451 : Int32).toInt ∧ (x_2451 : Int32).toInt ≤ ta.toInt ∧ (v_1852.toInt + 1 < (x_2451 : Int32).toInt ∨ ((-1) : Int64).toInt ≤ 26) by omega) (by omega) _ _ hP hD hS ls (lv_sub hl [0] rfl)
                            · have c_2450i := i_nle (x := 10) (y := (v_2398.toInt - v_1852.toInt)) rfl hx_2449 c_2450
                              refine lv_aload_n hx hb dX12_next_198 rfl (lv_at hl 0 rfl) ?_
                              refine va_get (ci := 12) (v := .long v_2399) (C := RX12) (T := TX12) (N := 60) hx hb hts hw12 hown hK hP 0 rfl rfl 17 (by decide) (hts (.fieldLink RX12 249 "SmokeTuneModel" "worth" "J") (List.mem_cons_of_mem _ (List.mem_append_left _ (List.mem_of_getElem? (i := 4) rfl)))) (fun _ h9 => h9) rfl dX12_next_199 ?_
                              refine lv_ldc2 (v := 32) hx hb hown (hts (.constantLong RX12 262 (32)) (List.mem_cons_of_mem _ (List.mem_append_left _ (List.mem_of_getElem? (i := 6) rfl)))) dX12_next_202 ?_
                              refine lv_lmul hx hb dX12_next_205 ?_
                              refine lv_topl (fun x_2453 ex_2453 => ?_)
                              refine lv_aload_n hx hb dX12_next_206 rfl (lv_at hl 0 rfl) ?_
                              refine va_get (ci := 12) (v := .ref t0) (C := RX12) (T := TX12) (N := 60) hx hb hts hw12 hown hK hP 0 rfl rfl 12 (by decide) (hts (.fieldLink RX12 35 "SmokeTuneModel" "tape" "[I") (List.mem_cons_of_mem _ (List.mem_append_left _ (List.mem_of_getElem? (i := 3) rfl)))) (fun _ h9 => h9) rfl dX12_next_207 ?_
                              refine lv_aload_n hx hb dX12_next_210 rfl (lv_at hl 0 rfl) ?_
                              refine va_get (ci := 12) (v := .int v_2398) (C := RX12) (T := TX12) (N := 60) hx hb hts hw12 hown hK hP 0 rfl rfl 15 (by decide) (hts (.fieldLink RX12 236 "SmokeTuneModel" "to" "I") (List.mem_cons_of_mem _ (List.mem_append_left _ (List.mem_of_getElem? (i := 0) rfl)))) (fun _ h9 => h9) rfl dX12_next_211 ?_
                              refine va_iald hx hb hK hP 1 0 rfl rfl (i_in rfl (by omega)) dX12_next_214 ?_
                              refine lv_topi (fun x_2454 ex_2454 => ?_)
                              have erx_2454 : x_2454 = x_2443 := ex_2454.trans (by rw [i_clamp rfl]; exact kx_2443)
                              have hrx_2454 : x_2454.toInt = x_2443.toInt := (congrArg Int32.toInt erx_2454).trans rfl
                              refine lv_i2l hx hb dX12_next_215 rfl ?_
                              refine lv_topl (fun x_2455 ex_2455 => ?_)
                              have hx_2455 : x_2455.toInt = x_2443.toInt := by rw [ex_2455]; exact i_wide hrx_2454
                              refine lv_ladd hx hb dX12_next_216 ?_
                              refine lv_topl (fun x_2456 ex_2456 => ?_)
                              refine lv_ldc2 (v := 96) hx hb hown (hts (.constantLong RX12 264 (96)) (List.mem_cons_of_mem _ (List.mem_append_left _ (List.mem_of_getElem? (i := 7) rfl)))) dX12_next_217 ?_
                              refine lv_lsub hx hb dX12_next_220 ?_
                              refine lv_topl (fun x_2457 ex_2457 => ?_)
                              refine lv_goto (tgt := 227) hx hb dX12_next_221 (by decide) ?_
                              refine va_put (ci := 12) (v := .long x_2457) (ty := .long) (C := RX12) (T := TX12) (N := 60) hx hb hts hw12 tyX12 tyX12_ok nmX12 hown hK hP hD hS 0 rfl rfl 17 (by decide) (hts (.fieldLink RX12 249 "SmokeTuneModel" "worth" "J") (List.mem_cons_of_mem _ (List.mem_append_left _ (List.mem_of_getElem? (i := 4) rfl)))) (fun _ h9 => h9) rfl (by decide +kernel) (by first | rfl | decide) (by first | rfl | decide) (Nat.le_of_ble_eq_true rfl) dX12_next_227 (fun H locs hP hD hS => ?_)
                              have hP : va_P D vwCl [(m0, .inr (12, [m_0, m_1, m_2, m_3, m_4, m_5, m_6, m_7, m_8, m_9, m_10, m_11, .ref t0, .int ta, .int v_1852, .int v_2398, .int 1, .long x_2457, m_18, m_19, m_20, m_21, m_22, m_23, m_24, m_25, m_26, m_27, m_28, m_29, m_30, m_31, m_32, m_33, m_34, m_35, m_36, m_37, m_38, m_39, m_40, m_41, m_42, m_43, m_44, m_45, m_46, m_47, m_48, m_49, m_50, m_51, m_52, m_53, m_54, m_55, m_56, m_57, m_58, m_59])), (t0, .inl (K 0, 400, .inl ft))] H := hP
                              have hD : va_D A [(m0, .inr (12, [m_0, m_1, m_2, m_3, m_4, m_5, m_6, m_7, m_8, m_9, m_10, m_11, .ref t0, .int ta, .int v_1852, .int v_2398, .int 1, .long x_2457, m_18, m_19, m_20, m_21, m_22, m_23, m_24, m_25, m_26, m_27, m_28, m_29, m_30, m_31, m_32, m_33, m_34, m_35, m_36, m_37, m_38, m_39, m_40, m_41, m_42, m_43, m_44, m_45, m_46, m_47, m_48, m_49, m_50, m_51, m_52, m_53, m_54, m_55, m_56, m_57, m_58, m_59])), (t0, .inl (K 0, 400, .inl ft))] := hD
                              refine lv_aload_n hx hb dX12_next_230 rfl (lv_at hl 0 rfl) ?_
                              refine lv_dup hx hb dX12_next_231 rfl ?_
                              refine va_get (ci := 12) (v := .int v_2398) (C := RX12) (T := TX12) (N := 60) hx hb hts hw12 hown hK hP 0 rfl rfl 15 (by decide) (hts (.fieldLink RX12 236 "SmokeTuneModel" "to" "I") (List.mem_cons_of_mem _ (List.mem_append_left _ (List.mem_of_getElem? (i := 0) rfl)))) (fun _ h9 => h9) rfl dX12_next_232 ?_
                              refine lv_iconst (v := 1) hx hb dX12_next_235 (by decide) ?_
                              refine lv_iadd hx hb dX12_next_236 ?_
                              refine lv_topi (fun x_2458 ex_2458 => ?_)
                              have hx_2458 : x_2458.toInt = (v_2398.toInt + 1) := by rw [ex_2458]; exact i_add rfl (show (1 : Int32).toInt = 1 from rfl) (by omega)
                              refine va_put (ci := 12) (v := .int x_2458) (ty := .int) (C := RX12) (T := TX12) (N := 60) hx hb hts hw12 tyX12 tyX12_ok nmX12 hown hK hP hD hS 0 rfl rfl 15 (by decide) (hts (.fieldLink RX12 236 "SmokeTuneModel" "to" "I") (List.mem_cons_of_mem _ (List.mem_append_left _ (List.mem_of_getElem? (i := 0) rfl)))) (fun _ h9 => h9) rfl (by decide +kernel) (by first | rfl | decide) (by first | rfl | decide) (Nat.le_of_ble_eq_true rfl) dX12_next_237 (fun H locs hP hD hS => ?_)
                              have hP : va_P D vwCl [(m0, .inr (12, [m_0, m_1, m_2, m_3, m_4, m_5, m_6, m_7, m_8, m_9, m_10, m_11, .ref t0, .int ta, .int v_1852, .int x_2458, .int 1, .long x_2457, m_18, m_19, m_20, m_21, m_22, m_23, m_24, m_25, m_26, m_27, m_28, m_29, m_30, m_31, m_32, m_33, m_34, m_35, m_36, m_37, m_38, m_39, m_40, m_41, m_42, m_43, m_44, m_45, m_46, m_47, m_48, m_49, m_50, m_51, m_52, m_53, m_54, m_55, m_56, m_57, m_58, m_59])), (t0, .inl (K 0, 400, .inl ft))] H := hP
                              have hD : va_D A [(m0, .inr (12, [m_0, m_1, m_2, m_3, m_4, m_5, m_6, m_7, m_8, m_9, m_10, m_11, .ref t0, .int ta, .int v_1852, .int x_2458, .int 1, .long x_2457, m_18, m_19, m_20, m_21, m_22, m_23, m_24, m_25, m_26, m_27, m_28, m_29, m_30, m_31, m_32, m_33, m_34, m_35, m_36, m_37, m_38, m_39, m_40, m_41, m_42, m_43, m_44, m_45, m_46, m_47, m_48, m_49, m_50, m_51, m_52, m_53, m_54, m_55, m_56, m_57, m_58, m_59])), (t0, .inl (K 0, 400, .inl ft))] := hD
                              refine lv_goto (tgt := 149) hx hb dX12_next_240 (by decide) ?_
                              exact ih_2439 x_2458 x_2457 (by rw [hx_2458]; omega) (show v_1852.toInt < (x_2458 : Int32).toInt ∧ (x_2458 : Int32).toInt ≤ ta.toInt ∧ (v_1852.toInt + 1 < (x_2458 : Int32).toInt ∨ (x_2457 : Int64).toInt ≤ 26) by omega) (by omega) _ _ hP hD hS ls (lv_sub hl [0] rfl)
                          · refine lv_if_eq (tgt := 243) hx hb dX12_next_180 (by decide) (fun c_2459 => ?_) (fun c_2459 => absurd (by decide) c_2459)
                            refine lv_aload_n hx hb dX12_next_243 rfl (lv_at hl 0 rfl) ?_
                            refine va_get (ci := 12) (v := .int 1) (C := RX12) (T := TX12) (N := 60) hx hb hts hw12 hown hK hP 0 rfl rfl 16 (by decide) (hts (.fieldLink RX12 259 "SmokeTuneModel" "sort" "I") (List.mem_cons_of_mem _ (List.mem_append_left _ (List.mem_of_getElem? (i := 5) rfl)))) (fun _ h9 => h9) rfl dX12_next_244 ?_
                            refine lv_iconst (v := 2) hx hb dX12_next_247 (by decide) ?_
                            refine lv_icmp_ne (tgt := 335) hx hb dX12_next_248 (by decide) (fun c_2460 => ?_) (fun c_2460 => absurd c_2460 (by decide))
                            rw [← hQ]
                            have hP9 := hP.sub (ws' := [(m0, .inr (12, [m_0, m_1, m_2, m_3, m_4, m_5, m_6, m_7, m_8, m_9, m_10, m_11, .ref t0, .int ta, .int v_1852, .int v_2398, .int 1, .long v_2399, m_18, m_19, m_20, m_21, m_22, m_23, m_24, m_25, m_26, m_27, m_28, m_29, m_30, m_31, m_32, m_33, m_34, m_35, m_36, m_37, m_38, m_39, m_40, m_41, m_42, m_43, m_44, m_45, m_46, m_47, m_48, m_49, m_50, m_51, m_52, m_53, m_54, m_55, m_56, m_57, m_58, m_59])), (t0, .inl (K 0, 400, .inl ft))]) [0, 1] rfl
                            have hD9 := hD.sub (ws' := [(m0, .inr (12, [m_0, m_1, m_2, m_3, m_4, m_5, m_6, m_7, m_8, m_9, m_10, m_11, .ref t0, .int ta, .int v_1852, .int v_2398, .int 1, .long v_2399, m_18, m_19, m_20, m_21, m_22, m_23, m_24, m_25, m_26, m_27, m_28, m_29, m_30, m_31, m_32, m_33, m_34, m_35, m_36, m_37, m_38, m_39, m_40, m_41, m_42, m_43, m_44, m_45, m_46, m_47, m_48, m_49, m_50, m_51, m_52, m_53, m_54, m_55, m_56, m_57, m_58, m_59])), (t0, .inl (K 0, 400, .inl ft))]) [0, 1] (by decide) rfl
                            exact W.vret hx hb hr (fun t ht hW => ⟨⟨((fun _ => 0, fun _ => fun _ => 0, fun _ => fun _ => 0, fun i => match i with | 0 => v_1852 | 1 => v_2398 | _ => 1, fun i => match i with | _ => v_2399, fun _ => fun _ => none) : Su), rfl, ⟨(show 0 ≤ (v_1852 : Int32).toInt ∧ (v_1852 : Int32).toInt ≤ 400 by omega), (show 0 ≤ (v_2398 : Int32).toInt ∧ (v_2398 : Int32).toInt ≤ 401 by omega), (show 0 ≤ (1 : Int32).toInt ∧ (1 : Int32).toInt ≤ 3 by decide), (show ((0 ≤ (v_1852 : Int32).toInt ∧ (v_1852 : Int32).toInt ≤ (v_2398 : Int32).toInt ∧ (v_2398 : Int32).toInt ≤ ta.toInt) ∧ (1 = 0 ∨ (v_1852 : Int32).toInt < (v_2398 : Int32).toInt) ∧ (1 ≠ 1 ∨ (v_1852 : Int32).toInt + 1 < (v_2398 : Int32).toInt ∨ (v_2399 : Int64).toInt ≤ 26)) by omega), (show to.toInt ≤ (v_1852 : Int32).toInt by omega), trivial⟩, (⟨by rw [ht]; exact hP9, hD9⟩ : Wd D A _ t)⟩, hS.F ht⟩) hS.2.2 dX12_next_335
                    have hz_2461 : ((-1) : Int64).toInt = (-1) := rfl
                    exact lp_2438 ((ta.toInt - (x_2319 : Int32).toInt : Int).toNat + 1) x_2319 (-1) (by rw [hx_2319]; omega) (show v_1852.toInt < (x_2319 : Int32).toInt ∧ (x_2319 : Int32).toInt ≤ ta.toInt ∧ (v_1852.toInt + 1 < (x_2319 : Int32).toInt ∨ ((-1) : Int64).toInt ≤ 26) by omega) (Nat.lt_succ_self _) _ _ hP hD hS ls (lv_sub hl [0] rfl)
                  · have c_2318i := i_nle (x := 10) (y := (v_1852.toInt - v_1852.toInt)) rfl hx_2317 c_2318
                    refine lv_aload_n hx hb dX12_next_198 rfl (lv_at hl 0 rfl) ?_
                    refine va_get (ci := 12) (v := .long 0) (C := RX12) (T := TX12) (N := 60) hx hb hts hw12 hown hK hP 0 rfl rfl 17 (by decide) (hts (.fieldLink RX12 249 "SmokeTuneModel" "worth" "J") (List.mem_cons_of_mem _ (List.mem_append_left _ (List.mem_of_getElem? (i := 4) rfl)))) (fun _ h9 => h9) rfl dX12_next_199 ?_
                    refine lv_ldc2 (v := 32) hx hb hown (hts (.constantLong RX12 262 (32)) (List.mem_cons_of_mem _ (List.mem_append_left _ (List.mem_of_getElem? (i := 6) rfl)))) dX12_next_202 ?_
                    refine lv_lmul hx hb dX12_next_205 ?_
                    refine lv_topl (fun x_2462 ex_2462 => ?_)
                    obtain rfl : x_2462 = 0 := ex_2462.trans (by first | rfl | decide)
                    refine lv_aload_n hx hb dX12_next_206 rfl (lv_at hl 0 rfl) ?_
                    refine va_get (ci := 12) (v := .ref t0) (C := RX12) (T := TX12) (N := 60) hx hb hts hw12 hown hK hP 0 rfl rfl 12 (by decide) (hts (.fieldLink RX12 35 "SmokeTuneModel" "tape" "[I") (List.mem_cons_of_mem _ (List.mem_append_left _ (List.mem_of_getElem? (i := 3) rfl)))) (fun _ h9 => h9) rfl dX12_next_207 ?_
                    refine lv_aload_n hx hb dX12_next_210 rfl (lv_at hl 0 rfl) ?_
                    refine va_get (ci := 12) (v := .int v_1852) (C := RX12) (T := TX12) (N := 60) hx hb hts hw12 hown hK hP 0 rfl rfl 15 (by decide) (hts (.fieldLink RX12 236 "SmokeTuneModel" "to" "I") (List.mem_cons_of_mem _ (List.mem_append_left _ (List.mem_of_getElem? (i := 0) rfl)))) (fun _ h9 => h9) rfl dX12_next_211 ?_
                    refine va_iald hx hb hK hP 1 0 rfl rfl (i_in rfl (by omega)) dX12_next_214 ?_
                    refine lv_topi (fun x_2463 ex_2463 => ?_)
                    have erx_2463 : x_2463 = x_2298 := ex_2463.trans (by rw [i_clamp rfl]; exact kx_2298)
                    have hrx_2463 : x_2463.toInt = x_2298.toInt := (congrArg Int32.toInt erx_2463).trans rfl
                    refine lv_i2l hx hb dX12_next_215 rfl ?_
                    refine lv_topl (fun x_2464 ex_2464 => ?_)
                    have hx_2464 : x_2464.toInt = x_2298.toInt := by rw [ex_2464]; exact i_wide hrx_2463
                    refine lv_ladd hx hb dX12_next_216 ?_
                    refine lv_topl (fun x_2465 ex_2465 => ?_)
                    have hx_2465 : x_2465.toInt = (0 + x_2298.toInt) := by rw [ex_2465]; exact l_add (show (0 : Int64).toInt = 0 from rfl) hx_2464 (by omega)
                    refine lv_ldc2 (v := 96) hx hb hown (hts (.constantLong RX12 264 (96)) (List.mem_cons_of_mem _ (List.mem_append_left _ (List.mem_of_getElem? (i := 7) rfl)))) dX12_next_217 ?_
                    refine lv_lsub hx hb dX12_next_220 ?_
                    refine lv_topl (fun x_2466 ex_2466 => ?_)
                    have hx_2466 : x_2466.toInt = ((0 + x_2298.toInt) - 96) := by rw [ex_2466]; exact l_sub hx_2465 (show (96 : Int64).toInt = 96 from rfl) (by omega)
                    refine lv_goto (tgt := 227) hx hb dX12_next_221 (by decide) ?_
                    refine va_put (ci := 12) (v := .long x_2466) (ty := .long) (C := RX12) (T := TX12) (N := 60) hx hb hts hw12 tyX12 tyX12_ok nmX12 hown hK hP hD hS 0 rfl rfl 17 (by decide) (hts (.fieldLink RX12 249 "SmokeTuneModel" "worth" "J") (List.mem_cons_of_mem _ (List.mem_append_left _ (List.mem_of_getElem? (i := 4) rfl)))) (fun _ h9 => h9) rfl (by decide +kernel) (by first | rfl | decide) (by first | rfl | decide) (Nat.le_of_ble_eq_true rfl) dX12_next_227 (fun H locs hP hD hS => ?_)
                    have hP : va_P D vwCl [(m0, .inr (12, [m_0, m_1, m_2, m_3, m_4, m_5, m_6, m_7, m_8, m_9, m_10, m_11, .ref t0, .int ta, .int v_1852, .int v_1852, .int 1, .long x_2466, m_18, m_19, m_20, m_21, m_22, m_23, m_24, m_25, m_26, m_27, m_28, m_29, m_30, m_31, m_32, m_33, m_34, m_35, m_36, m_37, m_38, m_39, m_40, m_41, m_42, m_43, m_44, m_45, m_46, m_47, m_48, m_49, m_50, m_51, m_52, m_53, m_54, m_55, m_56, m_57, m_58, m_59])), (t0, .inl (K 0, 400, .inl ft))] H := hP
                    have hD : va_D A [(m0, .inr (12, [m_0, m_1, m_2, m_3, m_4, m_5, m_6, m_7, m_8, m_9, m_10, m_11, .ref t0, .int ta, .int v_1852, .int v_1852, .int 1, .long x_2466, m_18, m_19, m_20, m_21, m_22, m_23, m_24, m_25, m_26, m_27, m_28, m_29, m_30, m_31, m_32, m_33, m_34, m_35, m_36, m_37, m_38, m_39, m_40, m_41, m_42, m_43, m_44, m_45, m_46, m_47, m_48, m_49, m_50, m_51, m_52, m_53, m_54, m_55, m_56, m_57, m_58, m_59])), (t0, .inl (K 0, 400, .inl ft))] := hD
                    refine lv_aload_n hx hb dX12_next_230 rfl (lv_at hl 0 rfl) ?_
                    refine lv_dup hx hb dX12_next_231 rfl ?_
                    refine va_get (ci := 12) (v := .int v_1852) (C := RX12) (T := TX12) (N := 60) hx hb hts hw12 hown hK hP 0 rfl rfl 15 (by decide) (hts (.fieldLink RX12 236 "SmokeTuneModel" "to" "I") (List.mem_cons_of_mem _ (List.mem_append_left _ (List.mem_of_getElem? (i := 0) rfl)))) (fun _ h9 => h9) rfl dX12_next_232 ?_
                    refine lv_iconst (v := 1) hx hb dX12_next_235 (by decide) ?_
                    refine lv_iadd hx hb dX12_next_236 ?_
                    refine lv_topi (fun x_2467 ex_2467 => ?_)
                    have hx_2467 : x_2467.toInt = (v_1852.toInt + 1) := by rw [ex_2467]; exact i_add rfl (show (1 : Int32).toInt = 1 from rfl) (by omega)
                    refine va_put (ci := 12) (v := .int x_2467) (ty := .int) (C := RX12) (T := TX12) (N := 60) hx hb hts hw12 tyX12 tyX12_ok nmX12 hown hK hP hD hS 0 rfl rfl 15 (by decide) (hts (.fieldLink RX12 236 "SmokeTuneModel" "to" "I") (List.mem_cons_of_mem _ (List.mem_append_left _ (List.mem_of_getElem? (i := 0) rfl)))) (fun _ h9 => h9) rfl (by decide +kernel) (by first | rfl | decide) (by first | rfl | decide) (Nat.le_of_ble_eq_true rfl) dX12_next_237 (fun H locs hP hD hS => ?_)
                    have hP : va_P D vwCl [(m0, .inr (12, [m_0, m_1, m_2, m_3, m_4, m_5, m_6, m_7, m_8, m_9, m_10, m_11, .ref t0, .int ta, .int v_1852, .int x_2467, .int 1, .long x_2466, m_18, m_19, m_20, m_21, m_22, m_23, m_24, m_25, m_26, m_27, m_28, m_29, m_30, m_31, m_32, m_33, m_34, m_35, m_36, m_37, m_38, m_39, m_40, m_41, m_42, m_43, m_44, m_45, m_46, m_47, m_48, m_49, m_50, m_51, m_52, m_53, m_54, m_55, m_56, m_57, m_58, m_59])), (t0, .inl (K 0, 400, .inl ft))] H := hP
                    have hD : va_D A [(m0, .inr (12, [m_0, m_1, m_2, m_3, m_4, m_5, m_6, m_7, m_8, m_9, m_10, m_11, .ref t0, .int ta, .int v_1852, .int x_2467, .int 1, .long x_2466, m_18, m_19, m_20, m_21, m_22, m_23, m_24, m_25, m_26, m_27, m_28, m_29, m_30, m_31, m_32, m_33, m_34, m_35, m_36, m_37, m_38, m_39, m_40, m_41, m_42, m_43, m_44, m_45, m_46, m_47, m_48, m_49, m_50, m_51, m_52, m_53, m_54, m_55, m_56, m_57, m_58, m_59])), (t0, .inl (K 0, 400, .inl ft))] := hD
                    refine lv_goto (tgt := 149) hx hb dX12_next_240 (by decide) ?_
                    have lp_2566 : ∀ (nn_ : Nat) (v_2526 : Int32) (v_2527 : Int64) (hv_2526 : 1 ≤ v_2526.toInt ∧ v_2526.toInt ≤ 400) (hr0_lp_2566 : v_1852.toInt < v_2526.toInt ∧ v_2526.toInt ≤ ta.toInt ∧ (v_1852.toInt + 1 < v_2526.toInt ∨ v_2527.toInt ≤ 26)) (hn : (ta.toInt - v_2526.toInt : Int).toNat < nn_) (H : Heap) (locs : List Loc) (hP : va_P D vwCl [(m0, .inr (12, [m_0, m_1, m_2, m_3, m_4, m_5, m_6, m_7, m_8, m_9, m_10, m_11, .ref t0, .int ta, .int v_1852, .int v_2526, .int 1, .long v_2527, m_18, m_19, m_20, m_21, m_22, m_23, m_24, m_25, m_26, m_27, m_28, m_29, m_30, m_31, m_32, m_33, m_34, m_35, m_36, m_37, m_38, m_39, m_40, m_41, m_42, m_43, m_44, m_45, m_46, m_47, m_48, m_49, m_50, m_51, m_52, m_53, m_54, m_55, m_56, m_57, m_58, m_59])), (t0, .inl (K 0, 400, .inl ft))] H) (hD : va_D A [(m0, .inr (12, [m_0, m_1, m_2, m_3, m_4, m_5, m_6, m_7, m_8, m_9, m_10, m_11, .ref t0, .int ta, .int v_1852, .int v_2526, .int 1, .long v_2527, m_18, m_19, m_20, m_21, m_22, m_23, m_24, m_25, m_26, m_27, m_28, m_29, m_30, m_31, m_32, m_33, m_34, m_35, m_36, m_37, m_38, m_39, m_40, m_41, m_42, m_43, m_44, m_45, m_46, m_47, m_48, m_49, m_50, m_51, m_52, m_53, m_54, m_55, m_56, m_57, m_58, m_59])), (t0, .inl (K 0, 400, .inl ft))]) (hS : va_S A s.heap H locs) (ls : Array Slot) (hl : lv_has ls 1 [(0, .ref m0)]), W p l e ({ frames := 1, cells := 0, slots := 0, locals := 20 }) s m (([.ref m0] : List Value).toArray) below meth c H locs 0 0 Q (F0 m 149 ls []) := by
                      intro nn_
                      induction nn_ with
                      | zero =>
                        intro v_2526 v_2527 hv_2526 hr0_lp_2566 hn H locs hP hD hS ls hl
                        exact absurd hn (Nat.not_lt_zero _)
                      | succ nn_ ih_2567 =>
                        intro v_2526 v_2527 hv_2526 hr0_lp_2566 hn H locs hP hD hS ls hl
                        refine lv_aload_n hx hb dX12_next_149 rfl (lv_at hl 0 rfl) ?_
                        refine va_get (ci := 12) (v := .int 1) (C := RX12) (T := TX12) (N := 60) hx hb hts hw12 hown hK hP 0 rfl rfl 16 (by decide) (hts (.fieldLink RX12 259 "SmokeTuneModel" "sort" "I") (List.mem_cons_of_mem _ (List.mem_append_left _ (List.mem_of_getElem? (i := 5) rfl)))) (fun _ h9 => h9) rfl dX12_next_150 ?_
                        refine lv_iconst (v := 1) hx hb dX12_next_153 (by decide) ?_
                        refine lv_icmp_ne (tgt := 243) hx hb dX12_next_154 (by decide) (fun c_2568 => absurd (by decide) c_2568) (fun c_2568 => ?_)
                        refine lv_aload_n hx hb dX12_next_157 rfl (lv_at hl 0 rfl) ?_
                        refine va_get (ci := 12) (v := .int v_2526) (C := RX12) (T := TX12) (N := 60) hx hb hts hw12 hown hK hP 0 rfl rfl 15 (by decide) (hts (.fieldLink RX12 236 "SmokeTuneModel" "to" "I") (List.mem_cons_of_mem _ (List.mem_append_left _ (List.mem_of_getElem? (i := 0) rfl)))) (fun _ h9 => h9) rfl dX12_next_158 ?_
                        refine lv_aload_n hx hb dX12_next_161 rfl (lv_at hl 0 rfl) ?_
                        refine va_get (ci := 12) (v := .int ta) (C := RX12) (T := TX12) (N := 60) hx hb hts hw12 hown hK hP 0 rfl rfl 13 (by decide) (hts (.fieldLink RX12 227 "SmokeTuneModel" "taped" "I") (List.mem_cons_of_mem _ (List.mem_append_left _ (List.mem_of_getElem? (i := 2) rfl)))) (fun _ h9 => h9) rfl dX12_next_162 ?_
                        refine lv_icmp_ge (tgt := 243) hx hb dX12_next_165 (by decide) (fun c_2569 => ?_) (fun c_2569 => ?_)
                        · have c_2569i := i_le (x := ta.toInt) (y := v_2526.toInt) rfl rfl c_2569
                          refine lv_aload_n hx hb dX12_next_243 rfl (lv_at hl 0 rfl) ?_
                          refine va_get (ci := 12) (v := .int 1) (C := RX12) (T := TX12) (N := 60) hx hb hts hw12 hown hK hP 0 rfl rfl 16 (by decide) (hts (.fieldLink RX12 259 "SmokeTuneModel" "sort" "I") (List.mem_cons_of_mem _ (List.mem_append_left _ (List.mem_of_getElem? (i := 5) rfl)))) (fun _ h9 => h9) rfl dX12_next_244 ?_
                          refine lv_iconst (v := 2) hx hb dX12_next_247 (by decide) ?_
                          refine lv_icmp_ne (tgt := 335) hx hb dX12_next_248 (by decide) (fun c_2570 => ?_) (fun c_2570 => absurd c_2570 (by decide))
                          rw [← hQ]
                          have hP9 := hP.sub (ws' := [(m0, .inr (12, [m_0, m_1, m_2, m_3, m_4, m_5, m_6, m_7, m_8, m_9, m_10, m_11, .ref t0, .int ta, .int v_1852, .int v_2526, .int 1, .long v_2527, m_18, m_19, m_20, m_21, m_22, m_23, m_24, m_25, m_26, m_27, m_28, m_29, m_30, m_31, m_32, m_33, m_34, m_35, m_36, m_37, m_38, m_39, m_40, m_41, m_42, m_43, m_44, m_45, m_46, m_47, m_48, m_49, m_50, m_51, m_52, m_53, m_54, m_55, m_56, m_57, m_58, m_59])), (t0, .inl (K 0, 400, .inl ft))]) [0, 1] rfl
                          have hD9 := hD.sub (ws' := [(m0, .inr (12, [m_0, m_1, m_2, m_3, m_4, m_5, m_6, m_7, m_8, m_9, m_10, m_11, .ref t0, .int ta, .int v_1852, .int v_2526, .int 1, .long v_2527, m_18, m_19, m_20, m_21, m_22, m_23, m_24, m_25, m_26, m_27, m_28, m_29, m_30, m_31, m_32, m_33, m_34, m_35, m_36, m_37, m_38, m_39, m_40, m_41, m_42, m_43, m_44, m_45, m_46, m_47, m_48, m_49, m_50, m_51, m_52, m_53, m_54, m_55, m_56, m_57, m_58, m_59])), (t0, .inl (K 0, 400, .inl ft))]) [0, 1] (by decide) rfl
                          exact W.vret hx hb hr (fun t ht hW => ⟨⟨((fun _ => 0, fun _ => fun _ => 0, fun _ => fun _ => 0, fun i => match i with | 0 => v_1852 | 1 => v_2526 | _ => 1, fun i => match i with | _ => v_2527, fun _ => fun _ => none) : Su), rfl, ⟨(show 0 ≤ (v_1852 : Int32).toInt ∧ (v_1852 : Int32).toInt ≤ 400 by omega), (show 0 ≤ (v_2526 : Int32).toInt ∧ (v_2526 : Int32).toInt ≤ 401 by omega), (show 0 ≤ (1 : Int32).toInt ∧ (1 : Int32).toInt ≤ 3 by decide), (show ((0 ≤ (v_1852 : Int32).toInt ∧ (v_1852 : Int32).toInt ≤ (v_2526 : Int32).toInt ∧ (v_2526 : Int32).toInt ≤ ta.toInt) ∧ (1 = 0 ∨ (v_1852 : Int32).toInt < (v_2526 : Int32).toInt) ∧ (1 ≠ 1 ∨ (v_1852 : Int32).toInt + 1 < (v_2526 : Int32).toInt ∨ (v_2527 : Int64).toInt ≤ 26)) by omega), (show to.toInt ≤ (v_1852 : Int32).toInt by omega), trivial⟩, (⟨by rw [ht]; exact hP9, hD9⟩ : Wd D A _ t)⟩, hS.F ht⟩) hS.2.2 dX12_next_335
                        · have c_2569i := i_nle (x := ta.toInt) (y := v_2526.toInt) rfl rfl c_2569
                          refine lv_aload_n hx hb dX12_next_168 rfl (lv_at hl 0 rfl) ?_
                          refine va_get (ci := 12) (v := .ref t0) (C := RX12) (T := TX12) (N := 60) hx hb hts hw12 hown hK hP 0 rfl rfl 12 (by decide) (hts (.fieldLink RX12 35 "SmokeTuneModel" "tape" "[I") (List.mem_cons_of_mem _ (List.mem_append_left _ (List.mem_of_getElem? (i := 3) rfl)))) (fun _ h9 => h9) rfl dX12_next_169 ?_
                          refine lv_aload_n hx hb dX12_next_172 rfl (lv_at hl 0 rfl) ?_
                          refine va_get (ci := 12) (v := .int v_2526) (C := RX12) (T := TX12) (N := 60) hx hb hts hw12 hown hK hP 0 rfl rfl 15 (by decide) (hts (.fieldLink RX12 236 "SmokeTuneModel" "to" "I") (List.mem_cons_of_mem _ (List.mem_append_left _ (List.mem_of_getElem? (i := 0) rfl)))) (fun _ h9 => h9) rfl dX12_next_173 ?_
                          refine va_iald hx hb hK hP 1 0 rfl rfl (i_in rfl (by omega)) dX12_next_176 ?_
                          refine lv_topi (fun x_2571 ex_2571 => ?_)
                          have kx_2571 : ft (v_2526.toInt).toNat = x_2571 := by rw [ex_2571, i_clamp rfl]
                          refine pci (va_runS (As := [.int x_2571]) (rest := []) ⟨hx, hb, hml, hown, hts⟩ (v_isSmall l D K x_2571.toInt x_2571 H.size rfl) (va_cwS 1 hts gX12_next_X12_isSmall rfl rfl rfl (by decide +kernel) ⟨Nat.le_of_ble_eq_true rfl, Nat.le_of_ble_eq_true rfl⟩) (mkS hK hN (va_P.nil) (va_D.nil (A := fun _ => True))) rfl rfl hl.1 rfl (lv_room (Nat.le_of_ble_eq_true rfl)) dX12_next_177 ⟨Nat.le_of_ble_eq_true rfl, Nat.le_of_ble_eq_true rfl⟩) (fun r_2572 hw => ?_)
                          obtain ⟨hw, -⟩ := hw
                          rcases hw with ⟨rfl, h_2573, h_2574⟩ | ⟨rfl, h_2575⟩
                          · refine lv_if_eq (tgt := 243) hx hb dX12_next_180 (by decide) (fun c_2576 => absurd c_2576 (by decide)) (fun c_2576 => ?_)
                            refine lv_aload_n hx hb dX12_next_183 rfl (lv_at hl 0 rfl) ?_
                            refine lv_aload_n hx hb dX12_next_184 rfl (lv_at hl 0 rfl) ?_
                            refine va_get (ci := 12) (v := .int v_2526) (C := RX12) (T := TX12) (N := 60) hx hb hts hw12 hown hK hP 0 rfl rfl 15 (by decide) (hts (.fieldLink RX12 236 "SmokeTuneModel" "to" "I") (List.mem_cons_of_mem _ (List.mem_append_left _ (List.mem_of_getElem? (i := 0) rfl)))) (fun _ h9 => h9) rfl dX12_next_185 ?_
                            refine lv_aload_n hx hb dX12_next_188 rfl (lv_at hl 0 rfl) ?_
                            refine va_get (ci := 12) (v := .int v_1852) (C := RX12) (T := TX12) (N := 60) hx hb hts hw12 hown hK hP 0 rfl rfl 14 (by decide) (hts (.fieldLink RX12 246 "SmokeTuneModel" "from" "I") (List.mem_cons_of_mem _ (List.mem_append_left _ (List.mem_of_getElem? (i := 1) rfl)))) (fun _ h9 => h9) rfl dX12_next_189 ?_
                            refine lv_isub hx hb dX12_next_192 ?_
                            refine lv_topi (fun x_2577 ex_2577 => ?_)
                            have hx_2577 : x_2577.toInt = (v_2526.toInt - v_1852.toInt) := by rw [ex_2577]; exact i_sub rfl rfl (by omega)
                            refine lv_bipush (v := 10) hx hb dX12_next_193 (by decide) ?_
                            refine lv_icmp_ge (tgt := 224) hx hb dX12_next_195 (by decide) (fun c_2578 => ?_) (fun c_2578 => ?_)
                            · have c_2578i := i_le (x := 10) (y := (v_2526.toInt - v_1852.toInt)) rfl hx_2577 c_2578
                              refine lv_ldc2 (v := (-1)) hx hb hown (hts (.constantLong RX12 266 (-1)) (List.mem_cons_of_mem _ (List.mem_append_left _ (List.mem_of_getElem? (i := 8) rfl)))) dX12_next_224 ?_
                              refine va_put (ci := 12) (v := .long (-1)) (ty := .long) (C := RX12) (T := TX12) (N := 60) hx hb hts hw12 tyX12 tyX12_ok nmX12 hown hK hP hD hS 0 rfl rfl 17 (by decide) (hts (.fieldLink RX12 249 "SmokeTuneModel" "worth" "J") (List.mem_cons_of_mem _ (List.mem_append_left _ (List.mem_of_getElem? (i := 4) rfl)))) (fun _ h9 => h9) rfl (by decide +kernel) (by first | rfl | decide) (by first | rfl | decide) (Nat.le_of_ble_eq_true rfl) dX12_next_227 (fun H locs hP hD hS => ?_)
                              have hP : va_P D vwCl [(m0, .inr (12, [m_0, m_1, m_2, m_3, m_4, m_5, m_6, m_7, m_8, m_9, m_10, m_11, .ref t0, .int ta, .int v_1852, .int v_2526, .int 1, .long (-1), m_18, m_19, m_20, m_21, m_22, m_23, m_24, m_25, m_26, m_27, m_28, m_29, m_30, m_31, m_32, m_33, m_34, m_35, m_36, m_37, m_38, m_39, m_40, m_41, m_42, m_43, m_44, m_45, m_46, m_47, m_48, m_49, m_50, m_51, m_52, m_53, m_54, m_55, m_56, m_57, m_58, m_59])), (t0, .inl (K 0, 400, .inl ft))] H := hP
                              have hD : va_D A [(m0, .inr (12, [m_0, m_1, m_2, m_3, m_4, m_5, m_6, m_7, m_8, m_9, m_10, m_11, .ref t0, .int ta, .int v_1852, .int v_2526, .int 1, .long (-1), m_18, m_19, m_20, m_21, m_22, m_23, m_24, m_25, m_26, m_27, m_28, m_29, m_30, m_31, m_32, m_33, m_34, m_35, m_36, m_37, m_38, m_39, m_40, m_41, m_42, m_43, m_44, m_45, m_46, m_47, m_48, m_49, m_50, m_51, m_52, m_53, m_54, m_55, m_56, m_57, m_58, m_59])), (t0, .inl (K 0, 400, .inl ft))] := hD
                              refine lv_aload_n hx hb dX12_next_230 rfl (lv_at hl 0 rfl) ?_
                              refine lv_dup hx hb dX12_next_231 rfl ?_
                              refine va_get (ci := 12) (v := .int v_2526) (C := RX12) (T := TX12) (N := 60) hx hb hts hw12 hown hK hP 0 rfl rfl 15 (by decide) (hts (.fieldLink RX12 236 "SmokeTuneModel" "to" "I") (List.mem_cons_of_mem _ (List.mem_append_left _ (List.mem_of_getElem? (i := 0) rfl)))) (fun _ h9 => h9) rfl dX12_next_232 ?_
                              refine lv_iconst (v := 1) hx hb dX12_next_235 (by decide) ?_
                              refine lv_iadd hx hb dX12_next_236 ?_
                              refine lv_topi (fun x_2579 ex_2579 => ?_)
                              have hx_2579 : x_2579.toInt = (v_2526.toInt + 1) := by rw [ex_2579]; exact i_add rfl (show (1 : Int32).toInt = 1 from rfl) (by omega)
                              refine va_put (ci := 12) (v := .int x_2579) (ty := .int) (C := RX12) (T := TX12) (N := 60) hx hb hts hw12 tyX12 tyX12_ok nmX12 hown hK hP hD hS 0 rfl rfl 15 (by decide) (hts (.fieldLink RX12 236 "SmokeTuneModel" "to" "I") (List.mem_cons_of_mem _ (List.mem_append_left _ (List.mem_of_getElem? (i := 0) rfl)))) (fun _ h9 => h9) rfl (by decide +kernel) (by first | rfl | decide) (by first | rfl | decide) (Nat.le_of_ble_eq_true rfl) dX12_next_237 (fun H locs hP hD hS => ?_)
                              have hP : va_P D vwCl [(m0, .inr (12, [m_0, m_1, m_2, m_3, m_4, m_5, m_6, m_7, m_8, m_9, m_10, m_11, .ref t0, .int ta, .int v_1852, .int x_2579, .int 1, .long (-1), m_18, m_19, m_20, m_21, m_22, m_23, m_24, m_25, m_26, m_27, m_28, m_29, m_30, m_31, m_32, m_33, m_34, m_35, m_36, m_37, m_38, m_39, m_40, m_41, m_42, m_43, m_44, m_45, m_46, m_47, m_48, m_49, m_50, m_51, m_52, m_53, m_54, m_55, m_56, m_57, m_58, m_59])), (t0, .inl (K 0, 400, .inl ft))] H := hP
                              have hD : va_D A [(m0, .inr (12, [m_0, m_1, m_2, m_3, m_4, m_5, m_6, m_7, m_8, m_9, m_10, m_11, .ref t0, .int ta, .int v_1852, .int x_2579, .int 1, .long (-1), m_18, m_19, m_20, m_21, m_22, m_23, m_24, m_25, m_26, m_27, m_28, m_29, m_30, m_31, m_32, m_33, m_34, m_35, m_36, m_37, m_38, m_39, m_40, m_41, m_42, m_43, m_44, m_45, m_46, m_47, m_48, m_49, m_50, m_51, m_52, m_53, m_54, m_55, m_56, m_57, m_58, m_59])), (t0, .inl (K 0, 400, .inl ft))] := hD
                              refine lv_goto (tgt := 149) hx hb dX12_next_240 (by decide) ?_
                              have hz_2580 : ((-1) : Int64).toInt = (-1) := rfl
                              exact ih_2567 x_2579 (-1) (by rw [hx_2579]; omega) (show v_1852.toInt < (x_2579 : Int32).toInt ∧ (x_2579 : Int32).toInt ≤ ta.toInt ∧ (v_1852.toInt + 1 < (x_2579 : Int32).toInt ∨ ((-1) : Int64).toInt ≤ 26) by omega) (by omega) _ _ hP hD hS ls (lv_sub hl [0] rfl)
                            · have c_2578i := i_nle (x := 10) (y := (v_2526.toInt - v_1852.toInt)) rfl hx_2577 c_2578
                              refine lv_aload_n hx hb dX12_next_198 rfl (lv_at hl 0 rfl) ?_
                              refine va_get (ci := 12) (v := .long v_2527) (C := RX12) (T := TX12) (N := 60) hx hb hts hw12 hown hK hP 0 rfl rfl 17 (by decide) (hts (.fieldLink RX12 249 "SmokeTuneModel" "worth" "J") (List.mem_cons_of_mem _ (List.mem_append_left _ (List.mem_of_getElem? (i := 4) rfl)))) (fun _ h9 => h9) rfl dX12_next_199 ?_
                              refine lv_ldc2 (v := 32) hx hb hown (hts (.constantLong RX12 262 (32)) (List.mem_cons_of_mem _ (List.mem_append_left _ (List.mem_of_getElem? (i := 6) rfl)))) dX12_next_202 ?_
                              refine lv_lmul hx hb dX12_next_205 ?_
                              refine lv_topl (fun x_2581 ex_2581 => ?_)
                              refine lv_aload_n hx hb dX12_next_206 rfl (lv_at hl 0 rfl) ?_
                              refine va_get (ci := 12) (v := .ref t0) (C := RX12) (T := TX12) (N := 60) hx hb hts hw12 hown hK hP 0 rfl rfl 12 (by decide) (hts (.fieldLink RX12 35 "SmokeTuneModel" "tape" "[I") (List.mem_cons_of_mem _ (List.mem_append_left _ (List.mem_of_getElem? (i := 3) rfl)))) (fun _ h9 => h9) rfl dX12_next_207 ?_
                              refine lv_aload_n hx hb dX12_next_210 rfl (lv_at hl 0 rfl) ?_
                              refine va_get (ci := 12) (v := .int v_2526) (C := RX12) (T := TX12) (N := 60) hx hb hts hw12 hown hK hP 0 rfl rfl 15 (by decide) (hts (.fieldLink RX12 236 "SmokeTuneModel" "to" "I") (List.mem_cons_of_mem _ (List.mem_append_left _ (List.mem_of_getElem? (i := 0) rfl)))) (fun _ h9 => h9) rfl dX12_next_211 ?_
                              refine va_iald hx hb hK hP 1 0 rfl rfl (i_in rfl (by omega)) dX12_next_214 ?_
                              refine lv_topi (fun x_2582 ex_2582 => ?_)
                              have erx_2582 : x_2582 = x_2571 := ex_2582.trans (by rw [i_clamp rfl]; exact kx_2571)
                              have hrx_2582 : x_2582.toInt = x_2571.toInt := (congrArg Int32.toInt erx_2582).trans rfl
                              refine lv_i2l hx hb dX12_next_215 rfl ?_
                              refine lv_topl (fun x_2583 ex_2583 => ?_)
                              have hx_2583 : x_2583.toInt = x_2571.toInt := by rw [ex_2583]; exact i_wide hrx_2582
                              refine lv_ladd hx hb dX12_next_216 ?_
                              refine lv_topl (fun x_2584 ex_2584 => ?_)
                              refine lv_ldc2 (v := 96) hx hb hown (hts (.constantLong RX12 264 (96)) (List.mem_cons_of_mem _ (List.mem_append_left _ (List.mem_of_getElem? (i := 7) rfl)))) dX12_next_217 ?_
                              refine lv_lsub hx hb dX12_next_220 ?_
                              refine lv_topl (fun x_2585 ex_2585 => ?_)
                              refine lv_goto (tgt := 227) hx hb dX12_next_221 (by decide) ?_
                              refine va_put (ci := 12) (v := .long x_2585) (ty := .long) (C := RX12) (T := TX12) (N := 60) hx hb hts hw12 tyX12 tyX12_ok nmX12 hown hK hP hD hS 0 rfl rfl 17 (by decide) (hts (.fieldLink RX12 249 "SmokeTuneModel" "worth" "J") (List.mem_cons_of_mem _ (List.mem_append_left _ (List.mem_of_getElem? (i := 4) rfl)))) (fun _ h9 => h9) rfl (by decide +kernel) (by first | rfl | decide) (by first | rfl | decide) (Nat.le_of_ble_eq_true rfl) dX12_next_227 (fun H locs hP hD hS => ?_)
                              have hP : va_P D vwCl [(m0, .inr (12, [m_0, m_1, m_2, m_3, m_4, m_5, m_6, m_7, m_8, m_9, m_10, m_11, .ref t0, .int ta, .int v_1852, .int v_2526, .int 1, .long x_2585, m_18, m_19, m_20, m_21, m_22, m_23, m_24, m_25, m_26, m_27, m_28, m_29, m_30, m_31, m_32, m_33, m_34, m_35, m_36, m_37, m_38, m_39, m_40, m_41, m_42, m_43, m_44, m_45, m_46, m_47, m_48, m_49, m_50, m_51, m_52, m_53, m_54, m_55, m_56, m_57, m_58, m_59])), (t0, .inl (K 0, 400, .inl ft))] H := hP
                              have hD : va_D A [(m0, .inr (12, [m_0, m_1, m_2, m_3, m_4, m_5, m_6, m_7, m_8, m_9, m_10, m_11, .ref t0, .int ta, .int v_1852, .int v_2526, .int 1, .long x_2585, m_18, m_19, m_20, m_21, m_22, m_23, m_24, m_25, m_26, m_27, m_28, m_29, m_30, m_31, m_32, m_33, m_34, m_35, m_36, m_37, m_38, m_39, m_40, m_41, m_42, m_43, m_44, m_45, m_46, m_47, m_48, m_49, m_50, m_51, m_52, m_53, m_54, m_55, m_56, m_57, m_58, m_59])), (t0, .inl (K 0, 400, .inl ft))] := hD
                              refine lv_aload_n hx hb dX12_next_230 rfl (lv_at hl 0 rfl) ?_
                              refine lv_dup hx hb dX12_next_231 rfl ?_
                              refine va_get (ci := 12) (v := .int v_2526) (C := RX12) (T := TX12) (N := 60) hx hb hts hw12 hown hK hP 0 rfl rfl 15 (by decide) (hts (.fieldLink RX12 236 "SmokeTuneModel" "to" "I") (List.mem_cons_of_mem _ (List.mem_append_left _ (List.mem_of_getElem? (i := 0) rfl)))) (fun _ h9 => h9) rfl dX12_next_232 ?_
                              refine lv_iconst (v := 1) hx hb dX12_next_235 (by decide) ?_
                              refine lv_iadd hx hb dX12_next_236 ?_
                              refine lv_topi (fun x_2586 ex_2586 => ?_)
                              have hx_2586 : x_2586.toInt = (v_2526.toInt + 1) := by rw [ex_2586]; exact i_add rfl (show (1 : Int32).toInt = 1 from rfl) (by omega)
                              refine va_put (ci := 12) (v := .int x_2586) (ty := .int) (C := RX12) (T := TX12) (N := 60) hx hb hts hw12 tyX12 tyX12_ok nmX12 hown hK hP hD hS 0 rfl rfl 15 (by decide) (hts (.fieldLink RX12 236 "SmokeTuneModel" "to" "I") (List.mem_cons_of_mem _ (List.mem_append_left _ (List.mem_of_getElem? (i := 0) rfl)))) (fun _ h9 => h9) rfl (by decide +kernel) (by first | rfl | decide) (by first | rfl | decide) (Nat.le_of_ble_eq_true rfl) dX12_next_237 (fun H locs hP hD hS => ?_)
                              have hP : va_P D vwCl [(m0, .inr (12, [m_0, m_1, m_2, m_3, m_4, m_5, m_6, m_7, m_8, m_9, m_10, m_11, .ref t0, .int ta, .int v_1852, .int x_2586, .int 1, .long x_2585, m_18, m_19, m_20, m_21, m_22, m_23, m_24, m_25, m_26, m_27, m_28, m_29, m_30, m_31, m_32, m_33, m_34, m_35, m_36, m_37, m_38, m_39, m_40, m_41, m_42, m_43, m_44, m_45, m_46, m_47, m_48, m_49, m_50, m_51, m_52, m_53, m_54, m_55, m_56, m_57, m_58, m_59])), (t0, .inl (K 0, 400, .inl ft))] H := hP
                              have hD : va_D A [(m0, .inr (12, [m_0, m_1, m_2, m_3, m_4, m_5, m_6, m_7, m_8, m_9, m_10, m_11, .ref t0, .int ta, .int v_1852, .int x_2586, .int 1, .long x_2585, m_18, m_19, m_20, m_21, m_22, m_23, m_24, m_25, m_26, m_27, m_28, m_29, m_30, m_31, m_32, m_33, m_34, m_35, m_36, m_37, m_38, m_39, m_40, m_41, m_42, m_43, m_44, m_45, m_46, m_47, m_48, m_49, m_50, m_51, m_52, m_53, m_54, m_55, m_56, m_57, m_58, m_59])), (t0, .inl (K 0, 400, .inl ft))] := hD
                              refine lv_goto (tgt := 149) hx hb dX12_next_240 (by decide) ?_
                              exact ih_2567 x_2586 x_2585 (by rw [hx_2586]; omega) (show v_1852.toInt < (x_2586 : Int32).toInt ∧ (x_2586 : Int32).toInt ≤ ta.toInt ∧ (v_1852.toInt + 1 < (x_2586 : Int32).toInt ∨ (x_2585 : Int64).toInt ≤ 26) by omega) (by omega) _ _ hP hD hS ls (lv_sub hl [0] rfl)
                          · refine lv_if_eq (tgt := 243) hx hb dX12_next_180 (by decide) (fun c_2587 => ?_) (fun c_2587 => absurd (by decide) c_2587)
                            refine lv_aload_n hx hb dX12_next_243 rfl (lv_at hl 0 rfl) ?_
                            refine va_get (ci := 12) (v := .int 1) (C := RX12) (T := TX12) (N := 60) hx hb hts hw12 hown hK hP 0 rfl rfl 16 (by decide) (hts (.fieldLink RX12 259 "SmokeTuneModel" "sort" "I") (List.mem_cons_of_mem _ (List.mem_append_left _ (List.mem_of_getElem? (i := 5) rfl)))) (fun _ h9 => h9) rfl dX12_next_244 ?_
                            refine lv_iconst (v := 2) hx hb dX12_next_247 (by decide) ?_
                            refine lv_icmp_ne (tgt := 335) hx hb dX12_next_248 (by decide) (fun c_2588 => ?_) (fun c_2588 => absurd c_2588 (by decide))
                            rw [← hQ]
                            have hP9 := hP.sub (ws' := [(m0, .inr (12, [m_0, m_1, m_2, m_3, m_4, m_5, m_6, m_7, m_8, m_9, m_10, m_11, .ref t0, .int ta, .int v_1852, .int v_2526, .int 1, .long v_2527, m_18, m_19, m_20, m_21, m_22, m_23, m_24, m_25, m_26, m_27, m_28, m_29, m_30, m_31, m_32, m_33, m_34, m_35, m_36, m_37, m_38, m_39, m_40, m_41, m_42, m_43, m_44, m_45, m_46, m_47, m_48, m_49, m_50, m_51, m_52, m_53, m_54, m_55, m_56, m_57, m_58, m_59])), (t0, .inl (K 0, 400, .inl ft))]) [0, 1] rfl
                            have hD9 := hD.sub (ws' := [(m0, .inr (12, [m_0, m_1, m_2, m_3, m_4, m_5, m_6, m_7, m_8, m_9, m_10, m_11, .ref t0, .int ta, .int v_1852, .int v_2526, .int 1, .long v_2527, m_18, m_19, m_20, m_21, m_22, m_23, m_24, m_25, m_26, m_27, m_28, m_29, m_30, m_31, m_32, m_33, m_34, m_35, m_36, m_37, m_38, m_39, m_40, m_41, m_42, m_43, m_44, m_45, m_46, m_47, m_48, m_49, m_50, m_51, m_52, m_53, m_54, m_55, m_56, m_57, m_58, m_59])), (t0, .inl (K 0, 400, .inl ft))]) [0, 1] (by decide) rfl
                            exact W.vret hx hb hr (fun t ht hW => ⟨⟨((fun _ => 0, fun _ => fun _ => 0, fun _ => fun _ => 0, fun i => match i with | 0 => v_1852 | 1 => v_2526 | _ => 1, fun i => match i with | _ => v_2527, fun _ => fun _ => none) : Su), rfl, ⟨(show 0 ≤ (v_1852 : Int32).toInt ∧ (v_1852 : Int32).toInt ≤ 400 by omega), (show 0 ≤ (v_2526 : Int32).toInt ∧ (v_2526 : Int32).toInt ≤ 401 by omega), (show 0 ≤ (1 : Int32).toInt ∧ (1 : Int32).toInt ≤ 3 by decide), (show ((0 ≤ (v_1852 : Int32).toInt ∧ (v_1852 : Int32).toInt ≤ (v_2526 : Int32).toInt ∧ (v_2526 : Int32).toInt ≤ ta.toInt) ∧ (1 = 0 ∨ (v_1852 : Int32).toInt < (v_2526 : Int32).toInt) ∧ (1 ≠ 1 ∨ (v_1852 : Int32).toInt + 1 < (v_2526 : Int32).toInt ∨ (v_2527 : Int64).toInt ≤ 26)) by omega), (show to.toInt ≤ (v_1852 : Int32).toInt by omega), trivial⟩, (⟨by rw [ht]; exact hP9, hD9⟩ : Wd D A _ t)⟩, hS.F ht⟩) hS.2.2 dX12_next_335
                    exact lp_2566 ((ta.toInt - (x_2467 : Int32).toInt : Int).toNat + 1) x_2467 x_2466 (by rw [hx_2467]; omega) (show v_1852.toInt < (x_2467 : Int32).toInt ∧ (x_2467 : Int32).toInt ≤ ta.toInt ∧ (v_1852.toInt + 1 < (x_2467 : Int32).toInt ∨ (x_2466 : Int64).toInt ≤ 26) by omega) (Nat.lt_succ_self _) _ _ hP hD hS ls (lv_sub hl [0] rfl)
                · exfalso; omega
            · refine lv_if_eq (tgt := 94) hx hb dX12_next_87 (by decide) (fun c_2589 => ?_) (fun c_2589 => absurd (by decide) c_2589)
              refine lv_aload_n hx hb dX12_next_94 rfl (lv_at hl 0 rfl) ?_
              refine va_get (ci := 12) (v := .ref t0) (C := RX12) (T := TX12) (N := 60) hx hb hts hw12 hown hK hP 0 rfl rfl 12 (by decide) (hts (.fieldLink RX12 35 "SmokeTuneModel" "tape" "[I") (List.mem_cons_of_mem _ (List.mem_append_left _ (List.mem_of_getElem? (i := 3) rfl)))) (fun _ h9 => h9) rfl dX12_next_95 ?_
              refine lv_aload_n hx hb dX12_next_98 rfl (lv_at hl 0 rfl) ?_
              refine va_get (ci := 12) (v := .int v_1852) (C := RX12) (T := TX12) (N := 60) hx hb hts hw12 hown hK hP 0 rfl rfl 14 (by decide) (hts (.fieldLink RX12 246 "SmokeTuneModel" "from" "I") (List.mem_cons_of_mem _ (List.mem_append_left _ (List.mem_of_getElem? (i := 1) rfl)))) (fun _ h9 => h9) rfl dX12_next_99 ?_
              refine va_iald hx hb hK hP 1 0 rfl rfl (i_in rfl (by omega)) dX12_next_102 ?_
              refine lv_topi (fun x_2590 ex_2590 => ?_)
              have erx_2590 : x_2590 = x_2298 := ex_2590.trans (by rw [i_clamp rfl]; exact kx_2298)
              have hrx_2590 : x_2590.toInt = x_2298.toInt := (congrArg Int32.toInt erx_2590).trans rfl
              refine pci (va_runS (As := [.int x_2590]) (rest := [.ref m0]) ⟨hx, hb, hml, hown, hts⟩ (v_isDigit l D K x_2298.toInt x_2590 H.size hrx_2590) (va_cwS 1 hts gX12_next_X12_isDigit rfl rfl rfl (by decide +kernel) ⟨Nat.le_of_ble_eq_true rfl, Nat.le_of_ble_eq_true rfl⟩) (mkS hK hN (va_P.nil) (va_D.nil (A := fun _ => True))) rfl rfl hl.1 rfl (lv_room (Nat.le_of_ble_eq_true rfl)) dX12_next_103 ⟨Nat.le_of_ble_eq_true rfl, Nat.le_of_ble_eq_true rfl⟩) (fun r_2591 hw => ?_)
              obtain ⟨hw, -⟩ := hw
              rcases hw with ⟨rfl, h_2592, h_2593⟩ | ⟨rfl, h_2594⟩
              · refine lv_if_eq (tgt := 113) hx hb dX12_next_106 (by decide) (fun c_2595 => absurd c_2595 (by decide)) (fun c_2595 => ?_)
                refine lv_iconst (v := 2) hx hb dX12_next_109 (by decide) ?_
                refine lv_goto (tgt := 114) hx hb dX12_next_110 (by decide) ?_
                refine va_put (ci := 12) (v := .int 2) (ty := .int) (C := RX12) (T := TX12) (N := 60) hx hb hts hw12 tyX12 tyX12_ok nmX12 hown hK hP hD hS 0 rfl rfl 16 (by decide) (hts (.fieldLink RX12 259 "SmokeTuneModel" "sort" "I") (List.mem_cons_of_mem _ (List.mem_append_left _ (List.mem_of_getElem? (i := 5) rfl)))) (fun _ h9 => h9) rfl (by decide +kernel) (by first | rfl | decide) (by first | rfl | decide) (Nat.le_of_ble_eq_true rfl) dX12_next_114 (fun H locs hP hD hS => ?_)
                have hP : va_P D vwCl [(m0, .inr (12, [m_0, m_1, m_2, m_3, m_4, m_5, m_6, m_7, m_8, m_9, m_10, m_11, .ref t0, .int ta, .int v_1852, .int v_1852, .int 2, .long 0, m_18, m_19, m_20, m_21, m_22, m_23, m_24, m_25, m_26, m_27, m_28, m_29, m_30, m_31, m_32, m_33, m_34, m_35, m_36, m_37, m_38, m_39, m_40, m_41, m_42, m_43, m_44, m_45, m_46, m_47, m_48, m_49, m_50, m_51, m_52, m_53, m_54, m_55, m_56, m_57, m_58, m_59])), (t0, .inl (K 0, 400, .inl ft))] H := hP
                have hD : va_D A [(m0, .inr (12, [m_0, m_1, m_2, m_3, m_4, m_5, m_6, m_7, m_8, m_9, m_10, m_11, .ref t0, .int ta, .int v_1852, .int v_1852, .int 2, .long 0, m_18, m_19, m_20, m_21, m_22, m_23, m_24, m_25, m_26, m_27, m_28, m_29, m_30, m_31, m_32, m_33, m_34, m_35, m_36, m_37, m_38, m_39, m_40, m_41, m_42, m_43, m_44, m_45, m_46, m_47, m_48, m_49, m_50, m_51, m_52, m_53, m_54, m_55, m_56, m_57, m_58, m_59])), (t0, .inl (K 0, 400, .inl ft))] := hD
                refine lv_aload_n hx hb dX12_next_117 rfl (lv_at hl 0 rfl) ?_
                refine va_get (ci := 12) (v := .int 2) (C := RX12) (T := TX12) (N := 60) hx hb hts hw12 hown hK hP 0 rfl rfl 16 (by decide) (hts (.fieldLink RX12 259 "SmokeTuneModel" "sort" "I") (List.mem_cons_of_mem _ (List.mem_append_left _ (List.mem_of_getElem? (i := 5) rfl)))) (fun _ h9 => h9) rfl dX12_next_118 ?_
                refine lv_iconst (v := 3) hx hb dX12_next_121 (by decide) ?_
                refine lv_icmp_ne (tgt := 149) hx hb dX12_next_122 (by decide) (fun c_2596 => ?_) (fun c_2596 => absurd c_2596 (by decide))
                refine lv_aload_n hx hb dX12_next_149 rfl (lv_at hl 0 rfl) ?_
                refine va_get (ci := 12) (v := .int 2) (C := RX12) (T := TX12) (N := 60) hx hb hts hw12 hown hK hP 0 rfl rfl 16 (by decide) (hts (.fieldLink RX12 259 "SmokeTuneModel" "sort" "I") (List.mem_cons_of_mem _ (List.mem_append_left _ (List.mem_of_getElem? (i := 5) rfl)))) (fun _ h9 => h9) rfl dX12_next_150 ?_
                refine lv_iconst (v := 1) hx hb dX12_next_153 (by decide) ?_
                refine lv_icmp_ne (tgt := 243) hx hb dX12_next_154 (by decide) (fun c_2597 => ?_) (fun c_2597 => absurd c_2597 (by decide))
                refine lv_aload_n hx hb dX12_next_243 rfl (lv_at hl 0 rfl) ?_
                refine va_get (ci := 12) (v := .int 2) (C := RX12) (T := TX12) (N := 60) hx hb hts hw12 hown hK hP 0 rfl rfl 16 (by decide) (hts (.fieldLink RX12 259 "SmokeTuneModel" "sort" "I") (List.mem_cons_of_mem _ (List.mem_append_left _ (List.mem_of_getElem? (i := 5) rfl)))) (fun _ h9 => h9) rfl dX12_next_244 ?_
                refine lv_iconst (v := 2) hx hb dX12_next_247 (by decide) ?_
                refine lv_icmp_ne (tgt := 335) hx hb dX12_next_248 (by decide) (fun c_2598 => absurd (by decide) c_2598) (fun c_2598 => ?_)
                refine lv_aload_n hx hb dX12_next_251 rfl (lv_at hl 0 rfl) ?_
                refine va_get (ci := 12) (v := .int v_1852) (C := RX12) (T := TX12) (N := 60) hx hb hts hw12 hown hK hP 0 rfl rfl 15 (by decide) (hts (.fieldLink RX12 236 "SmokeTuneModel" "to" "I") (List.mem_cons_of_mem _ (List.mem_append_left _ (List.mem_of_getElem? (i := 0) rfl)))) (fun _ h9 => h9) rfl dX12_next_252 ?_
                refine lv_aload_n hx hb dX12_next_255 rfl (lv_at hl 0 rfl) ?_
                refine va_get (ci := 12) (v := .int ta) (C := RX12) (T := TX12) (N := 60) hx hb hts hw12 hown hK hP 0 rfl rfl 13 (by decide) (hts (.fieldLink RX12 227 "SmokeTuneModel" "taped" "I") (List.mem_cons_of_mem _ (List.mem_append_left _ (List.mem_of_getElem? (i := 2) rfl)))) (fun _ h9 => h9) rfl dX12_next_256 ?_
                refine lv_icmp_ge (tgt := 335) hx hb dX12_next_259 (by decide) (fun c_2599 => ?_) (fun c_2599 => ?_)
                · have c_2599i := i_le (x := ta.toInt) (y := v_1852.toInt) rfl rfl c_2599
                  rw [← hQ]
                  have hP9 := hP.sub (ws' := [(m0, .inr (12, [m_0, m_1, m_2, m_3, m_4, m_5, m_6, m_7, m_8, m_9, m_10, m_11, .ref t0, .int ta, .int v_1852, .int v_1852, .int 2, .long 0, m_18, m_19, m_20, m_21, m_22, m_23, m_24, m_25, m_26, m_27, m_28, m_29, m_30, m_31, m_32, m_33, m_34, m_35, m_36, m_37, m_38, m_39, m_40, m_41, m_42, m_43, m_44, m_45, m_46, m_47, m_48, m_49, m_50, m_51, m_52, m_53, m_54, m_55, m_56, m_57, m_58, m_59])), (t0, .inl (K 0, 400, .inl ft))]) [0, 1] rfl
                  have hD9 := hD.sub (ws' := [(m0, .inr (12, [m_0, m_1, m_2, m_3, m_4, m_5, m_6, m_7, m_8, m_9, m_10, m_11, .ref t0, .int ta, .int v_1852, .int v_1852, .int 2, .long 0, m_18, m_19, m_20, m_21, m_22, m_23, m_24, m_25, m_26, m_27, m_28, m_29, m_30, m_31, m_32, m_33, m_34, m_35, m_36, m_37, m_38, m_39, m_40, m_41, m_42, m_43, m_44, m_45, m_46, m_47, m_48, m_49, m_50, m_51, m_52, m_53, m_54, m_55, m_56, m_57, m_58, m_59])), (t0, .inl (K 0, 400, .inl ft))]) [0, 1] (by decide) rfl
                  exact W.vret hx hb hr (fun t ht hW => ⟨⟨((fun _ => 0, fun _ => fun _ => 0, fun _ => fun _ => 0, fun i => match i with | 0 => v_1852 | 1 => v_1852 | _ => 2, fun i => match i with | _ => 0, fun _ => fun _ => none) : Su), rfl, ⟨(show 0 ≤ (v_1852 : Int32).toInt ∧ (v_1852 : Int32).toInt ≤ 400 by omega), (show 0 ≤ (v_1852 : Int32).toInt ∧ (v_1852 : Int32).toInt ≤ 401 by omega), (show 0 ≤ (2 : Int32).toInt ∧ (2 : Int32).toInt ≤ 3 by decide), (show ((0 ≤ (v_1852 : Int32).toInt ∧ (v_1852 : Int32).toInt ≤ (v_1852 : Int32).toInt ∧ (v_1852 : Int32).toInt ≤ ta.toInt) ∧ (2 = 0 ∨ (v_1852 : Int32).toInt < (v_1852 : Int32).toInt) ∧ (2 ≠ 1 ∨ (v_1852 : Int32).toInt + 1 < (v_1852 : Int32).toInt ∨ 0 ≤ 26)) by omega), (show to.toInt ≤ (v_1852 : Int32).toInt by omega), trivial⟩, (⟨by rw [ht]; exact hP9, hD9⟩ : Wd D A _ t)⟩, hS.F ht⟩) hS.2.2 dX12_next_335
                · have c_2599i := i_nle (x := ta.toInt) (y := v_1852.toInt) rfl rfl c_2599
                  refine lv_aload_n hx hb dX12_next_262 rfl (lv_at hl 0 rfl) ?_
                  refine va_get (ci := 12) (v := .ref t0) (C := RX12) (T := TX12) (N := 60) hx hb hts hw12 hown hK hP 0 rfl rfl 12 (by decide) (hts (.fieldLink RX12 35 "SmokeTuneModel" "tape" "[I") (List.mem_cons_of_mem _ (List.mem_append_left _ (List.mem_of_getElem? (i := 3) rfl)))) (fun _ h9 => h9) rfl dX12_next_263 ?_
                  refine lv_aload_n hx hb dX12_next_266 rfl (lv_at hl 0 rfl) ?_
                  refine va_get (ci := 12) (v := .int v_1852) (C := RX12) (T := TX12) (N := 60) hx hb hts hw12 hown hK hP 0 rfl rfl 15 (by decide) (hts (.fieldLink RX12 236 "SmokeTuneModel" "to" "I") (List.mem_cons_of_mem _ (List.mem_append_left _ (List.mem_of_getElem? (i := 0) rfl)))) (fun _ h9 => h9) rfl dX12_next_267 ?_
                  refine va_iald hx hb hK hP 1 0 rfl rfl (i_in rfl (by omega)) dX12_next_270 ?_
                  refine lv_topi (fun x_2600 ex_2600 => ?_)
                  have erx_2600 : x_2600 = x_2298 := ex_2600.trans (by rw [i_clamp rfl]; exact kx_2298)
                  have hrx_2600 : x_2600.toInt = x_2298.toInt := (congrArg Int32.toInt erx_2600).trans rfl
                  refine pci (va_runS (As := [.int x_2600]) (rest := []) ⟨hx, hb, hml, hown, hts⟩ (v_isDigit l D K x_2298.toInt x_2600 H.size hrx_2600) (va_cwS 1 hts gX12_next_X12_isDigit rfl rfl rfl (by decide +kernel) ⟨Nat.le_of_ble_eq_true rfl, Nat.le_of_ble_eq_true rfl⟩) (mkS hK hN (va_P.nil) (va_D.nil (A := fun _ => True))) rfl rfl hl.1 rfl (lv_room (Nat.le_of_ble_eq_true rfl)) dX12_next_271 ⟨Nat.le_of_ble_eq_true rfl, Nat.le_of_ble_eq_true rfl⟩) (fun r_2601 hw => ?_)
                  obtain ⟨hw, -⟩ := hw
                  rcases hw with ⟨rfl, h_2602, h_2603⟩ | ⟨rfl, h_2604⟩
                  · refine lv_if_eq (tgt := 335) hx hb dX12_next_274 (by decide) (fun c_2605 => absurd c_2605 (by decide)) (fun c_2605 => ?_)
                    refine lv_aload_n hx hb dX12_next_277 rfl (lv_at hl 0 rfl) ?_
                    refine lv_aload_n hx hb dX12_next_278 rfl (lv_at hl 0 rfl) ?_
                    refine va_get (ci := 12) (v := .long 0) (C := RX12) (T := TX12) (N := 60) hx hb hts hw12 hown hK hP 0 rfl rfl 17 (by decide) (hts (.fieldLink RX12 249 "SmokeTuneModel" "worth" "J") (List.mem_cons_of_mem _ (List.mem_append_left _ (List.mem_of_getElem? (i := 4) rfl)))) (fun _ h9 => h9) rfl dX12_next_279 ?_
                    refine lv_ldc2 (v := 1000000) hx hb hown (hts (.constantLong RX12 268 (1000000)) (List.mem_cons_of_mem _ (List.mem_append_left _ (List.mem_of_getElem? (i := 9) rfl)))) dX12_next_282 ?_
                    refine W.lcmp hx hb dX12_next_285 ?_
                    refine lv_if_le (tgt := 296) hx hb dX12_next_286 (by decide) (fun c_2606 => ?_) (fun c_2606 => absurd (by decide) c_2606)
                    refine lv_aload_n hx hb dX12_next_296 rfl (lv_at hl 0 rfl) ?_
                    refine va_get (ci := 12) (v := .long 0) (C := RX12) (T := TX12) (N := 60) hx hb hts hw12 hown hK hP 0 rfl rfl 17 (by decide) (hts (.fieldLink RX12 249 "SmokeTuneModel" "worth" "J") (List.mem_cons_of_mem _ (List.mem_append_left _ (List.mem_of_getElem? (i := 4) rfl)))) (fun _ h9 => h9) rfl dX12_next_297 ?_
                    refine lv_ldc2 (v := 10) hx hb hown (hts (.constantLong RX12 219 (10)) (List.mem_cons_of_mem _ (List.mem_append_left _ (List.mem_of_getElem? (i := 10) rfl)))) dX12_next_300 ?_
                    refine lv_lmul hx hb dX12_next_303 ?_
                    refine lv_topl (fun x_2607 ex_2607 => ?_)
                    obtain rfl : x_2607 = 0 := ex_2607.trans (by first | rfl | decide)
                    refine lv_aload_n hx hb dX12_next_304 rfl (lv_at hl 0 rfl) ?_
                    refine va_get (ci := 12) (v := .ref t0) (C := RX12) (T := TX12) (N := 60) hx hb hts hw12 hown hK hP 0 rfl rfl 12 (by decide) (hts (.fieldLink RX12 35 "SmokeTuneModel" "tape" "[I") (List.mem_cons_of_mem _ (List.mem_append_left _ (List.mem_of_getElem? (i := 3) rfl)))) (fun _ h9 => h9) rfl dX12_next_305 ?_
                    refine lv_aload_n hx hb dX12_next_308 rfl (lv_at hl 0 rfl) ?_
                    refine va_get (ci := 12) (v := .int v_1852) (C := RX12) (T := TX12) (N := 60) hx hb hts hw12 hown hK hP 0 rfl rfl 15 (by decide) (hts (.fieldLink RX12 236 "SmokeTuneModel" "to" "I") (List.mem_cons_of_mem _ (List.mem_append_left _ (List.mem_of_getElem? (i := 0) rfl)))) (fun _ h9 => h9) rfl dX12_next_309 ?_
                    refine va_iald hx hb hK hP 1 0 rfl rfl (i_in rfl (by omega)) dX12_next_312 ?_
                    refine lv_topi (fun x_2608 ex_2608 => ?_)
                    have erx_2608 : x_2608 = x_2298 := ex_2608.trans (by rw [i_clamp rfl]; exact kx_2298)
                    have hrx_2608 : x_2608.toInt = x_2298.toInt := (congrArg Int32.toInt erx_2608).trans rfl
                    refine lv_i2l hx hb dX12_next_313 rfl ?_
                    refine lv_topl (fun x_2609 ex_2609 => ?_)
                    have hx_2609 : x_2609.toInt = x_2298.toInt := by rw [ex_2609]; exact i_wide hrx_2608
                    refine lv_ladd hx hb dX12_next_314 ?_
                    refine lv_topl (fun x_2610 ex_2610 => ?_)
                    have hx_2610 : x_2610.toInt = (0 + x_2298.toInt) := by rw [ex_2610]; exact l_add (show (0 : Int64).toInt = 0 from rfl) hx_2609 (by omega)
                    refine lv_ldc2 (v := 48) hx hb hown (hts (.constantLong RX12 270 (48)) (List.mem_cons_of_mem _ (List.mem_append_left _ (List.mem_of_getElem? (i := 11) rfl)))) dX12_next_315 ?_
                    refine lv_lsub hx hb dX12_next_318 ?_
                    refine lv_topl (fun x_2611 ex_2611 => ?_)
                    have hx_2611 : x_2611.toInt = ((0 + x_2298.toInt) - 48) := by rw [ex_2611]; exact l_sub hx_2610 (show (48 : Int64).toInt = 48 from rfl) (by omega)
                    refine va_put (ci := 12) (v := .long x_2611) (ty := .long) (C := RX12) (T := TX12) (N := 60) hx hb hts hw12 tyX12 tyX12_ok nmX12 hown hK hP hD hS 0 rfl rfl 17 (by decide) (hts (.fieldLink RX12 249 "SmokeTuneModel" "worth" "J") (List.mem_cons_of_mem _ (List.mem_append_left _ (List.mem_of_getElem? (i := 4) rfl)))) (fun _ h9 => h9) rfl (by decide +kernel) (by first | rfl | decide) (by first | rfl | decide) (Nat.le_of_ble_eq_true rfl) dX12_next_319 (fun H locs hP hD hS => ?_)
                    have hP : va_P D vwCl [(m0, .inr (12, [m_0, m_1, m_2, m_3, m_4, m_5, m_6, m_7, m_8, m_9, m_10, m_11, .ref t0, .int ta, .int v_1852, .int v_1852, .int 2, .long x_2611, m_18, m_19, m_20, m_21, m_22, m_23, m_24, m_25, m_26, m_27, m_28, m_29, m_30, m_31, m_32, m_33, m_34, m_35, m_36, m_37, m_38, m_39, m_40, m_41, m_42, m_43, m_44, m_45, m_46, m_47, m_48, m_49, m_50, m_51, m_52, m_53, m_54, m_55, m_56, m_57, m_58, m_59])), (t0, .inl (K 0, 400, .inl ft))] H := hP
                    have hD : va_D A [(m0, .inr (12, [m_0, m_1, m_2, m_3, m_4, m_5, m_6, m_7, m_8, m_9, m_10, m_11, .ref t0, .int ta, .int v_1852, .int v_1852, .int 2, .long x_2611, m_18, m_19, m_20, m_21, m_22, m_23, m_24, m_25, m_26, m_27, m_28, m_29, m_30, m_31, m_32, m_33, m_34, m_35, m_36, m_37, m_38, m_39, m_40, m_41, m_42, m_43, m_44, m_45, m_46, m_47, m_48, m_49, m_50, m_51, m_52, m_53, m_54, m_55, m_56, m_57, m_58, m_59])), (t0, .inl (K 0, 400, .inl ft))] := hD
                    refine lv_aload_n hx hb dX12_next_322 rfl (lv_at hl 0 rfl) ?_
                    refine lv_dup hx hb dX12_next_323 rfl ?_
                    refine va_get (ci := 12) (v := .int v_1852) (C := RX12) (T := TX12) (N := 60) hx hb hts hw12 hown hK hP 0 rfl rfl 15 (by decide) (hts (.fieldLink RX12 236 "SmokeTuneModel" "to" "I") (List.mem_cons_of_mem _ (List.mem_append_left _ (List.mem_of_getElem? (i := 0) rfl)))) (fun _ h9 => h9) rfl dX12_next_324 ?_
                    refine lv_iconst (v := 1) hx hb dX12_next_327 (by decide) ?_
                    refine lv_iadd hx hb dX12_next_328 ?_
                    refine lv_topi (fun x_2612 ex_2612 => ?_)
                    have hx_2612 : x_2612.toInt = (v_1852.toInt + 1) := by rw [ex_2612]; exact i_add rfl (show (1 : Int32).toInt = 1 from rfl) (by omega)
                    refine va_put (ci := 12) (v := .int x_2612) (ty := .int) (C := RX12) (T := TX12) (N := 60) hx hb hts hw12 tyX12 tyX12_ok nmX12 hown hK hP hD hS 0 rfl rfl 15 (by decide) (hts (.fieldLink RX12 236 "SmokeTuneModel" "to" "I") (List.mem_cons_of_mem _ (List.mem_append_left _ (List.mem_of_getElem? (i := 0) rfl)))) (fun _ h9 => h9) rfl (by decide +kernel) (by first | rfl | decide) (by first | rfl | decide) (Nat.le_of_ble_eq_true rfl) dX12_next_329 (fun H locs hP hD hS => ?_)
                    have hP : va_P D vwCl [(m0, .inr (12, [m_0, m_1, m_2, m_3, m_4, m_5, m_6, m_7, m_8, m_9, m_10, m_11, .ref t0, .int ta, .int v_1852, .int x_2612, .int 2, .long x_2611, m_18, m_19, m_20, m_21, m_22, m_23, m_24, m_25, m_26, m_27, m_28, m_29, m_30, m_31, m_32, m_33, m_34, m_35, m_36, m_37, m_38, m_39, m_40, m_41, m_42, m_43, m_44, m_45, m_46, m_47, m_48, m_49, m_50, m_51, m_52, m_53, m_54, m_55, m_56, m_57, m_58, m_59])), (t0, .inl (K 0, 400, .inl ft))] H := hP
                    have hD : va_D A [(m0, .inr (12, [m_0, m_1, m_2, m_3, m_4, m_5, m_6, m_7, m_8, m_9, m_10, m_11, .ref t0, .int ta, .int v_1852, .int x_2612, .int 2, .long x_2611, m_18, m_19, m_20, m_21, m_22, m_23, m_24, m_25, m_26, m_27, m_28, m_29, m_30, m_31, m_32, m_33, m_34, m_35, m_36, m_37, m_38, m_39, m_40, m_41, m_42, m_43, m_44, m_45, m_46, m_47, m_48, m_49, m_50, m_51, m_52, m_53, m_54, m_55, m_56, m_57, m_58, m_59])), (t0, .inl (K 0, 400, .inl ft))] := hD
                    refine lv_goto (tgt := 243) hx hb dX12_next_332 (by decide) ?_
                    have lp_2704 : ∀ (nn_ : Nat) (v_2666 : Int32) (v_2667 : Int64) (hv_2666 : 1 ≤ v_2666.toInt ∧ v_2666.toInt ≤ 400) (hv_2667 : 0 ≤ v_2667.toInt) (hr0_lp_2704 : v_1852.toInt < v_2666.toInt ∧ v_2666.toInt ≤ ta.toInt) (hn : (ta.toInt - v_2666.toInt : Int).toNat < nn_) (H : Heap) (locs : List Loc) (hP : va_P D vwCl [(m0, .inr (12, [m_0, m_1, m_2, m_3, m_4, m_5, m_6, m_7, m_8, m_9, m_10, m_11, .ref t0, .int ta, .int v_1852, .int v_2666, .int 2, .long v_2667, m_18, m_19, m_20, m_21, m_22, m_23, m_24, m_25, m_26, m_27, m_28, m_29, m_30, m_31, m_32, m_33, m_34, m_35, m_36, m_37, m_38, m_39, m_40, m_41, m_42, m_43, m_44, m_45, m_46, m_47, m_48, m_49, m_50, m_51, m_52, m_53, m_54, m_55, m_56, m_57, m_58, m_59])), (t0, .inl (K 0, 400, .inl ft))] H) (hD : va_D A [(m0, .inr (12, [m_0, m_1, m_2, m_3, m_4, m_5, m_6, m_7, m_8, m_9, m_10, m_11, .ref t0, .int ta, .int v_1852, .int v_2666, .int 2, .long v_2667, m_18, m_19, m_20, m_21, m_22, m_23, m_24, m_25, m_26, m_27, m_28, m_29, m_30, m_31, m_32, m_33, m_34, m_35, m_36, m_37, m_38, m_39, m_40, m_41, m_42, m_43, m_44, m_45, m_46, m_47, m_48, m_49, m_50, m_51, m_52, m_53, m_54, m_55, m_56, m_57, m_58, m_59])), (t0, .inl (K 0, 400, .inl ft))]) (hS : va_S A s.heap H locs) (ls : Array Slot) (hl : lv_has ls 1 [(0, .ref m0)]), W p l e ({ frames := 1, cells := 0, slots := 0, locals := 20 }) s m (([.ref m0] : List Value).toArray) below meth c H locs 0 0 Q (F0 m 243 ls []) := by
                      intro nn_
                      induction nn_ with
                      | zero =>
                        intro v_2666 v_2667 hv_2666 hv_2667 hr0_lp_2704 hn H locs hP hD hS ls hl
                        exact absurd hn (Nat.not_lt_zero _)
                      | succ nn_ ih_2705 =>
                        intro v_2666 v_2667 hv_2666 hv_2667 hr0_lp_2704 hn H locs hP hD hS ls hl
                        refine lv_aload_n hx hb dX12_next_243 rfl (lv_at hl 0 rfl) ?_
                        refine va_get (ci := 12) (v := .int 2) (C := RX12) (T := TX12) (N := 60) hx hb hts hw12 hown hK hP 0 rfl rfl 16 (by decide) (hts (.fieldLink RX12 259 "SmokeTuneModel" "sort" "I") (List.mem_cons_of_mem _ (List.mem_append_left _ (List.mem_of_getElem? (i := 5) rfl)))) (fun _ h9 => h9) rfl dX12_next_244 ?_
                        refine lv_iconst (v := 2) hx hb dX12_next_247 (by decide) ?_
                        refine lv_icmp_ne (tgt := 335) hx hb dX12_next_248 (by decide) (fun c_2706 => absurd (by decide) c_2706) (fun c_2706 => ?_)
                        refine lv_aload_n hx hb dX12_next_251 rfl (lv_at hl 0 rfl) ?_
                        refine va_get (ci := 12) (v := .int v_2666) (C := RX12) (T := TX12) (N := 60) hx hb hts hw12 hown hK hP 0 rfl rfl 15 (by decide) (hts (.fieldLink RX12 236 "SmokeTuneModel" "to" "I") (List.mem_cons_of_mem _ (List.mem_append_left _ (List.mem_of_getElem? (i := 0) rfl)))) (fun _ h9 => h9) rfl dX12_next_252 ?_
                        refine lv_aload_n hx hb dX12_next_255 rfl (lv_at hl 0 rfl) ?_
                        refine va_get (ci := 12) (v := .int ta) (C := RX12) (T := TX12) (N := 60) hx hb hts hw12 hown hK hP 0 rfl rfl 13 (by decide) (hts (.fieldLink RX12 227 "SmokeTuneModel" "taped" "I") (List.mem_cons_of_mem _ (List.mem_append_left _ (List.mem_of_getElem? (i := 2) rfl)))) (fun _ h9 => h9) rfl dX12_next_256 ?_
                        refine lv_icmp_ge (tgt := 335) hx hb dX12_next_259 (by decide) (fun c_2707 => ?_) (fun c_2707 => ?_)
                        · have c_2707i := i_le (x := ta.toInt) (y := v_2666.toInt) rfl rfl c_2707
                          rw [← hQ]
                          have hP9 := hP.sub (ws' := [(m0, .inr (12, [m_0, m_1, m_2, m_3, m_4, m_5, m_6, m_7, m_8, m_9, m_10, m_11, .ref t0, .int ta, .int v_1852, .int v_2666, .int 2, .long v_2667, m_18, m_19, m_20, m_21, m_22, m_23, m_24, m_25, m_26, m_27, m_28, m_29, m_30, m_31, m_32, m_33, m_34, m_35, m_36, m_37, m_38, m_39, m_40, m_41, m_42, m_43, m_44, m_45, m_46, m_47, m_48, m_49, m_50, m_51, m_52, m_53, m_54, m_55, m_56, m_57, m_58, m_59])), (t0, .inl (K 0, 400, .inl ft))]) [0, 1] rfl
                          have hD9 := hD.sub (ws' := [(m0, .inr (12, [m_0, m_1, m_2, m_3, m_4, m_5, m_6, m_7, m_8, m_9, m_10, m_11, .ref t0, .int ta, .int v_1852, .int v_2666, .int 2, .long v_2667, m_18, m_19, m_20, m_21, m_22, m_23, m_24, m_25, m_26, m_27, m_28, m_29, m_30, m_31, m_32, m_33, m_34, m_35, m_36, m_37, m_38, m_39, m_40, m_41, m_42, m_43, m_44, m_45, m_46, m_47, m_48, m_49, m_50, m_51, m_52, m_53, m_54, m_55, m_56, m_57, m_58, m_59])), (t0, .inl (K 0, 400, .inl ft))]) [0, 1] (by decide) rfl
                          exact W.vret hx hb hr (fun t ht hW => ⟨⟨((fun _ => 0, fun _ => fun _ => 0, fun _ => fun _ => 0, fun i => match i with | 0 => v_1852 | 1 => v_2666 | _ => 2, fun i => match i with | _ => v_2667, fun _ => fun _ => none) : Su), rfl, ⟨(show 0 ≤ (v_1852 : Int32).toInt ∧ (v_1852 : Int32).toInt ≤ 400 by omega), (show 0 ≤ (v_2666 : Int32).toInt ∧ (v_2666 : Int32).toInt ≤ 401 by omega), (show 0 ≤ (2 : Int32).toInt ∧ (2 : Int32).toInt ≤ 3 by decide), (show ((0 ≤ (v_1852 : Int32).toInt ∧ (v_1852 : Int32).toInt ≤ (v_2666 : Int32).toInt ∧ (v_2666 : Int32).toInt ≤ ta.toInt) ∧ (2 = 0 ∨ (v_1852 : Int32).toInt < (v_2666 : Int32).toInt) ∧ (2 ≠ 1 ∨ (v_1852 : Int32).toInt + 1 < (v_2666 : Int32).toInt ∨ (v_2667 : Int64).toInt ≤ 26)) by omega), (show to.toInt ≤ (v_1852 : Int32).toInt by omega), trivial⟩, (⟨by rw [ht]; exact hP9, hD9⟩ : Wd D A _ t)⟩, hS.F ht⟩) hS.2.2 dX12_next_335
                        · have c_2707i := i_nle (x := ta.toInt) (y := v_2666.toInt) rfl rfl c_2707
                          refine lv_aload_n hx hb dX12_next_262 rfl (lv_at hl 0 rfl) ?_
                          refine va_get (ci := 12) (v := .ref t0) (C := RX12) (T := TX12) (N := 60) hx hb hts hw12 hown hK hP 0 rfl rfl 12 (by decide) (hts (.fieldLink RX12 35 "SmokeTuneModel" "tape" "[I") (List.mem_cons_of_mem _ (List.mem_append_left _ (List.mem_of_getElem? (i := 3) rfl)))) (fun _ h9 => h9) rfl dX12_next_263 ?_
                          refine lv_aload_n hx hb dX12_next_266 rfl (lv_at hl 0 rfl) ?_
                          refine va_get (ci := 12) (v := .int v_2666) (C := RX12) (T := TX12) (N := 60) hx hb hts hw12 hown hK hP 0 rfl rfl 15 (by decide) (hts (.fieldLink RX12 236 "SmokeTuneModel" "to" "I") (List.mem_cons_of_mem _ (List.mem_append_left _ (List.mem_of_getElem? (i := 0) rfl)))) (fun _ h9 => h9) rfl dX12_next_267 ?_
                          refine va_iald hx hb hK hP 1 0 rfl rfl (i_in rfl (by omega)) dX12_next_270 ?_
                          refine lv_topi (fun x_2708 ex_2708 => ?_)
                          have kx_2708 : ft (v_2666.toInt).toNat = x_2708 := by rw [ex_2708, i_clamp rfl]
                          refine pci (va_runS (As := [.int x_2708]) (rest := []) ⟨hx, hb, hml, hown, hts⟩ (v_isDigit l D K x_2708.toInt x_2708 H.size rfl) (va_cwS 1 hts gX12_next_X12_isDigit rfl rfl rfl (by decide +kernel) ⟨Nat.le_of_ble_eq_true rfl, Nat.le_of_ble_eq_true rfl⟩) (mkS hK hN (va_P.nil) (va_D.nil (A := fun _ => True))) rfl rfl hl.1 rfl (lv_room (Nat.le_of_ble_eq_true rfl)) dX12_next_271 ⟨Nat.le_of_ble_eq_true rfl, Nat.le_of_ble_eq_true rfl⟩) (fun r_2709 hw => ?_)
                          obtain ⟨hw, -⟩ := hw
                          rcases hw with ⟨rfl, h_2710, h_2711⟩ | ⟨rfl, h_2712⟩
                          · refine lv_if_eq (tgt := 335) hx hb dX12_next_274 (by decide) (fun c_2713 => absurd c_2713 (by decide)) (fun c_2713 => ?_)
                            refine lv_aload_n hx hb dX12_next_277 rfl (lv_at hl 0 rfl) ?_
                            refine lv_aload_n hx hb dX12_next_278 rfl (lv_at hl 0 rfl) ?_
                            refine va_get (ci := 12) (v := .long v_2667) (C := RX12) (T := TX12) (N := 60) hx hb hts hw12 hown hK hP 0 rfl rfl 17 (by decide) (hts (.fieldLink RX12 249 "SmokeTuneModel" "worth" "J") (List.mem_cons_of_mem _ (List.mem_append_left _ (List.mem_of_getElem? (i := 4) rfl)))) (fun _ h9 => h9) rfl dX12_next_279 ?_
                            refine lv_ldc2 (v := 1000000) hx hb hown (hts (.constantLong RX12 268 (1000000)) (List.mem_cons_of_mem _ (List.mem_append_left _ (List.mem_of_getElem? (i := 9) rfl)))) dX12_next_282 ?_
                            refine W.lcmp hx hb dX12_next_285 ?_
                            refine lv_if_le (tgt := 296) hx hb dX12_next_286 (by decide) (fun c_2714 => ?_) (fun c_2714 => ?_)
                            · have c_2714i := l_le (x := v_2667.toInt) (y := 1000000) rfl rfl ((lg_cmp_le v_2667 1000000).mp c_2714)
                              refine lv_aload_n hx hb dX12_next_296 rfl (lv_at hl 0 rfl) ?_
                              refine va_get (ci := 12) (v := .long v_2667) (C := RX12) (T := TX12) (N := 60) hx hb hts hw12 hown hK hP 0 rfl rfl 17 (by decide) (hts (.fieldLink RX12 249 "SmokeTuneModel" "worth" "J") (List.mem_cons_of_mem _ (List.mem_append_left _ (List.mem_of_getElem? (i := 4) rfl)))) (fun _ h9 => h9) rfl dX12_next_297 ?_
                              refine lv_ldc2 (v := 10) hx hb hown (hts (.constantLong RX12 219 (10)) (List.mem_cons_of_mem _ (List.mem_append_left _ (List.mem_of_getElem? (i := 10) rfl)))) dX12_next_300 ?_
                              refine lv_lmul hx hb dX12_next_303 ?_
                              refine lv_topl (fun x_2715 ex_2715 => ?_)
                              have hx_2715 : x_2715.toInt = (v_2667.toInt * 10) := by rw [ex_2715]; exact l_mul rfl (show (10 : Int64).toInt = 10 from rfl) (by omega)
                              refine lv_aload_n hx hb dX12_next_304 rfl (lv_at hl 0 rfl) ?_
                              refine va_get (ci := 12) (v := .ref t0) (C := RX12) (T := TX12) (N := 60) hx hb hts hw12 hown hK hP 0 rfl rfl 12 (by decide) (hts (.fieldLink RX12 35 "SmokeTuneModel" "tape" "[I") (List.mem_cons_of_mem _ (List.mem_append_left _ (List.mem_of_getElem? (i := 3) rfl)))) (fun _ h9 => h9) rfl dX12_next_305 ?_
                              refine lv_aload_n hx hb dX12_next_308 rfl (lv_at hl 0 rfl) ?_
                              refine va_get (ci := 12) (v := .int v_2666) (C := RX12) (T := TX12) (N := 60) hx hb hts hw12 hown hK hP 0 rfl rfl 15 (by decide) (hts (.fieldLink RX12 236 "SmokeTuneModel" "to" "I") (List.mem_cons_of_mem _ (List.mem_append_left _ (List.mem_of_getElem? (i := 0) rfl)))) (fun _ h9 => h9) rfl dX12_next_309 ?_
                              refine va_iald hx hb hK hP 1 0 rfl rfl (i_in rfl (by omega)) dX12_next_312 ?_
                              refine lv_topi (fun x_2716 ex_2716 => ?_)
                              have erx_2716 : x_2716 = x_2708 := ex_2716.trans (by rw [i_clamp rfl]; exact kx_2708)
                              have hrx_2716 : x_2716.toInt = x_2708.toInt := (congrArg Int32.toInt erx_2716).trans rfl
                              refine lv_i2l hx hb dX12_next_313 rfl ?_
                              refine lv_topl (fun x_2717 ex_2717 => ?_)
                              have hx_2717 : x_2717.toInt = x_2708.toInt := by rw [ex_2717]; exact i_wide hrx_2716
                              refine lv_ladd hx hb dX12_next_314 ?_
                              refine lv_topl (fun x_2718 ex_2718 => ?_)
                              have hx_2718 : x_2718.toInt = ((v_2667.toInt * 10) + x_2708.toInt) := by rw [ex_2718]; exact l_add hx_2715 hx_2717 (by omega)
                              refine lv_ldc2 (v := 48) hx hb hown (hts (.constantLong RX12 270 (48)) (List.mem_cons_of_mem _ (List.mem_append_left _ (List.mem_of_getElem? (i := 11) rfl)))) dX12_next_315 ?_
                              refine lv_lsub hx hb dX12_next_318 ?_
                              refine lv_topl (fun x_2719 ex_2719 => ?_)
                              have hx_2719 : x_2719.toInt = (((v_2667.toInt * 10) + x_2708.toInt) - 48) := by rw [ex_2719]; exact l_sub hx_2718 (show (48 : Int64).toInt = 48 from rfl) (by omega)
                              refine va_put (ci := 12) (v := .long x_2719) (ty := .long) (C := RX12) (T := TX12) (N := 60) hx hb hts hw12 tyX12 tyX12_ok nmX12 hown hK hP hD hS 0 rfl rfl 17 (by decide) (hts (.fieldLink RX12 249 "SmokeTuneModel" "worth" "J") (List.mem_cons_of_mem _ (List.mem_append_left _ (List.mem_of_getElem? (i := 4) rfl)))) (fun _ h9 => h9) rfl (by decide +kernel) (by first | rfl | decide) (by first | rfl | decide) (Nat.le_of_ble_eq_true rfl) dX12_next_319 (fun H locs hP hD hS => ?_)
                              have hP : va_P D vwCl [(m0, .inr (12, [m_0, m_1, m_2, m_3, m_4, m_5, m_6, m_7, m_8, m_9, m_10, m_11, .ref t0, .int ta, .int v_1852, .int v_2666, .int 2, .long x_2719, m_18, m_19, m_20, m_21, m_22, m_23, m_24, m_25, m_26, m_27, m_28, m_29, m_30, m_31, m_32, m_33, m_34, m_35, m_36, m_37, m_38, m_39, m_40, m_41, m_42, m_43, m_44, m_45, m_46, m_47, m_48, m_49, m_50, m_51, m_52, m_53, m_54, m_55, m_56, m_57, m_58, m_59])), (t0, .inl (K 0, 400, .inl ft))] H := hP
                              have hD : va_D A [(m0, .inr (12, [m_0, m_1, m_2, m_3, m_4, m_5, m_6, m_7, m_8, m_9, m_10, m_11, .ref t0, .int ta, .int v_1852, .int v_2666, .int 2, .long x_2719, m_18, m_19, m_20, m_21, m_22, m_23, m_24, m_25, m_26, m_27, m_28, m_29, m_30, m_31, m_32, m_33, m_34, m_35, m_36, m_37, m_38, m_39, m_40, m_41, m_42, m_43, m_44, m_45, m_46, m_47, m_48, m_49, m_50, m_51, m_52, m_53, m_54, m_55, m_56, m_57, m_58, m_59])), (t0, .inl (K 0, 400, .inl ft))] := hD
                              refine lv_aload_n hx hb dX12_next_322 rfl (lv_at hl 0 rfl) ?_
                              refine lv_dup hx hb dX12_next_323 rfl ?_
                              refine va_get (ci := 12) (v := .int v_2666) (C := RX12) (T := TX12) (N := 60) hx hb hts hw12 hown hK hP 0 rfl rfl 15 (by decide) (hts (.fieldLink RX12 236 "SmokeTuneModel" "to" "I") (List.mem_cons_of_mem _ (List.mem_append_left _ (List.mem_of_getElem? (i := 0) rfl)))) (fun _ h9 => h9) rfl dX12_next_324 ?_
                              refine lv_iconst (v := 1) hx hb dX12_next_327 (by decide) ?_
                              refine lv_iadd hx hb dX12_next_328 ?_
                              refine lv_topi (fun x_2720 ex_2720 => ?_)
                              have hx_2720 : x_2720.toInt = (v_2666.toInt + 1) := by rw [ex_2720]; exact i_add rfl (show (1 : Int32).toInt = 1 from rfl) (by omega)
                              refine va_put (ci := 12) (v := .int x_2720) (ty := .int) (C := RX12) (T := TX12) (N := 60) hx hb hts hw12 tyX12 tyX12_ok nmX12 hown hK hP hD hS 0 rfl rfl 15 (by decide) (hts (.fieldLink RX12 236 "SmokeTuneModel" "to" "I") (List.mem_cons_of_mem _ (List.mem_append_left _ (List.mem_of_getElem? (i := 0) rfl)))) (fun _ h9 => h9) rfl (by decide +kernel) (by first | rfl | decide) (by first | rfl | decide) (Nat.le_of_ble_eq_true rfl) dX12_next_329 (fun H locs hP hD hS => ?_)
                              have hP : va_P D vwCl [(m0, .inr (12, [m_0, m_1, m_2, m_3, m_4, m_5, m_6, m_7, m_8, m_9, m_10, m_11, .ref t0, .int ta, .int v_1852, .int x_2720, .int 2, .long x_2719, m_18, m_19, m_20, m_21, m_22, m_23, m_24, m_25, m_26, m_27, m_28, m_29, m_30, m_31, m_32, m_33, m_34, m_35, m_36, m_37, m_38, m_39, m_40, m_41, m_42, m_43, m_44, m_45, m_46, m_47, m_48, m_49, m_50, m_51, m_52, m_53, m_54, m_55, m_56, m_57, m_58, m_59])), (t0, .inl (K 0, 400, .inl ft))] H := hP
                              have hD : va_D A [(m0, .inr (12, [m_0, m_1, m_2, m_3, m_4, m_5, m_6, m_7, m_8, m_9, m_10, m_11, .ref t0, .int ta, .int v_1852, .int x_2720, .int 2, .long x_2719, m_18, m_19, m_20, m_21, m_22, m_23, m_24, m_25, m_26, m_27, m_28, m_29, m_30, m_31, m_32, m_33, m_34, m_35, m_36, m_37, m_38, m_39, m_40, m_41, m_42, m_43, m_44, m_45, m_46, m_47, m_48, m_49, m_50, m_51, m_52, m_53, m_54, m_55, m_56, m_57, m_58, m_59])), (t0, .inl (K 0, 400, .inl ft))] := hD
                              refine lv_goto (tgt := 243) hx hb dX12_next_332 (by decide) ?_
                              exact ih_2705 x_2720 x_2719 (by rw [hx_2720]; omega) (by rw [hx_2719]; omega) (show v_1852.toInt < (x_2720 : Int32).toInt ∧ (x_2720 : Int32).toInt ≤ ta.toInt by omega) (by omega) _ _ hP hD hS ls (lv_sub hl [0] rfl)
                            · have c_2714i := l_nle (x := v_2667.toInt) (y := 1000000) rfl rfl (fun q => c_2714 ((lg_cmp_le v_2667 1000000).mpr q))
                              refine lv_aload_n hx hb dX12_next_289 rfl (lv_at hl 0 rfl) ?_
                              refine va_get (ci := 12) (v := .long v_2667) (C := RX12) (T := TX12) (N := 60) hx hb hts hw12 hown hK hP 0 rfl rfl 17 (by decide) (hts (.fieldLink RX12 249 "SmokeTuneModel" "worth" "J") (List.mem_cons_of_mem _ (List.mem_append_left _ (List.mem_of_getElem? (i := 4) rfl)))) (fun _ h9 => h9) rfl dX12_next_290 ?_
                              refine lv_goto (tgt := 319) hx hb dX12_next_293 (by decide) ?_
                              refine va_put (ci := 12) (v := .long v_2667) (ty := .long) (C := RX12) (T := TX12) (N := 60) hx hb hts hw12 tyX12 tyX12_ok nmX12 hown hK hP hD hS 0 rfl rfl 17 (by decide) (hts (.fieldLink RX12 249 "SmokeTuneModel" "worth" "J") (List.mem_cons_of_mem _ (List.mem_append_left _ (List.mem_of_getElem? (i := 4) rfl)))) (fun _ h9 => h9) rfl (by decide +kernel) (by first | rfl | decide) (by first | rfl | decide) (Nat.le_of_ble_eq_true rfl) dX12_next_319 (fun H locs hP hD hS => ?_)
                              have hP : va_P D vwCl [(m0, .inr (12, [m_0, m_1, m_2, m_3, m_4, m_5, m_6, m_7, m_8, m_9, m_10, m_11, .ref t0, .int ta, .int v_1852, .int v_2666, .int 2, .long v_2667, m_18, m_19, m_20, m_21, m_22, m_23, m_24, m_25, m_26, m_27, m_28, m_29, m_30, m_31, m_32, m_33, m_34, m_35, m_36, m_37, m_38, m_39, m_40, m_41, m_42, m_43, m_44, m_45, m_46, m_47, m_48, m_49, m_50, m_51, m_52, m_53, m_54, m_55, m_56, m_57, m_58, m_59])), (t0, .inl (K 0, 400, .inl ft))] H := hP
                              have hD : va_D A [(m0, .inr (12, [m_0, m_1, m_2, m_3, m_4, m_5, m_6, m_7, m_8, m_9, m_10, m_11, .ref t0, .int ta, .int v_1852, .int v_2666, .int 2, .long v_2667, m_18, m_19, m_20, m_21, m_22, m_23, m_24, m_25, m_26, m_27, m_28, m_29, m_30, m_31, m_32, m_33, m_34, m_35, m_36, m_37, m_38, m_39, m_40, m_41, m_42, m_43, m_44, m_45, m_46, m_47, m_48, m_49, m_50, m_51, m_52, m_53, m_54, m_55, m_56, m_57, m_58, m_59])), (t0, .inl (K 0, 400, .inl ft))] := hD
                              refine lv_aload_n hx hb dX12_next_322 rfl (lv_at hl 0 rfl) ?_
                              refine lv_dup hx hb dX12_next_323 rfl ?_
                              refine va_get (ci := 12) (v := .int v_2666) (C := RX12) (T := TX12) (N := 60) hx hb hts hw12 hown hK hP 0 rfl rfl 15 (by decide) (hts (.fieldLink RX12 236 "SmokeTuneModel" "to" "I") (List.mem_cons_of_mem _ (List.mem_append_left _ (List.mem_of_getElem? (i := 0) rfl)))) (fun _ h9 => h9) rfl dX12_next_324 ?_
                              refine lv_iconst (v := 1) hx hb dX12_next_327 (by decide) ?_
                              refine lv_iadd hx hb dX12_next_328 ?_
                              refine lv_topi (fun x_2721 ex_2721 => ?_)
                              have hx_2721 : x_2721.toInt = (v_2666.toInt + 1) := by rw [ex_2721]; exact i_add rfl (show (1 : Int32).toInt = 1 from rfl) (by omega)
                              refine va_put (ci := 12) (v := .int x_2721) (ty := .int) (C := RX12) (T := TX12) (N := 60) hx hb hts hw12 tyX12 tyX12_ok nmX12 hown hK hP hD hS 0 rfl rfl 15 (by decide) (hts (.fieldLink RX12 236 "SmokeTuneModel" "to" "I") (List.mem_cons_of_mem _ (List.mem_append_left _ (List.mem_of_getElem? (i := 0) rfl)))) (fun _ h9 => h9) rfl (by decide +kernel) (by first | rfl | decide) (by first | rfl | decide) (Nat.le_of_ble_eq_true rfl) dX12_next_329 (fun H locs hP hD hS => ?_)
                              have hP : va_P D vwCl [(m0, .inr (12, [m_0, m_1, m_2, m_3, m_4, m_5, m_6, m_7, m_8, m_9, m_10, m_11, .ref t0, .int ta, .int v_1852, .int x_2721, .int 2, .long v_2667, m_18, m_19, m_20, m_21, m_22, m_23, m_24, m_25, m_26, m_27, m_28, m_29, m_30, m_31, m_32, m_33, m_34, m_35, m_36, m_37, m_38, m_39, m_40, m_41, m_42, m_43, m_44, m_45, m_46, m_47, m_48, m_49, m_50, m_51, m_52, m_53, m_54, m_55, m_56, m_57, m_58, m_59])), (t0, .inl (K 0, 400, .inl ft))] H := hP
                              have hD : va_D A [(m0, .inr (12, [m_0, m_1, m_2, m_3, m_4, m_5, m_6, m_7, m_8, m_9, m_10, m_11, .ref t0, .int ta, .int v_1852, .int x_2721, .int 2, .long v_2667, m_18, m_19, m_20, m_21, m_22, m_23, m_24, m_25, m_26, m_27, m_28, m_29, m_30, m_31, m_32, m_33, m_34, m_35, m_36, m_37, m_38, m_39, m_40, m_41, m_42, m_43, m_44, m_45, m_46, m_47, m_48, m_49, m_50, m_51, m_52, m_53, m_54, m_55, m_56, m_57, m_58, m_59])), (t0, .inl (K 0, 400, .inl ft))] := hD
                              refine lv_goto (tgt := 243) hx hb dX12_next_332 (by decide) ?_
                              exact ih_2705 x_2721 v_2667 (by rw [hx_2721]; omega) (by omega) (show v_1852.toInt < (x_2721 : Int32).toInt ∧ (x_2721 : Int32).toInt ≤ ta.toInt by omega) (by omega) _ _ hP hD hS ls (lv_sub hl [0] rfl)
                          · refine lv_if_eq (tgt := 335) hx hb dX12_next_274 (by decide) (fun c_2722 => ?_) (fun c_2722 => absurd (by decide) c_2722)
                            rw [← hQ]
                            have hP9 := hP.sub (ws' := [(m0, .inr (12, [m_0, m_1, m_2, m_3, m_4, m_5, m_6, m_7, m_8, m_9, m_10, m_11, .ref t0, .int ta, .int v_1852, .int v_2666, .int 2, .long v_2667, m_18, m_19, m_20, m_21, m_22, m_23, m_24, m_25, m_26, m_27, m_28, m_29, m_30, m_31, m_32, m_33, m_34, m_35, m_36, m_37, m_38, m_39, m_40, m_41, m_42, m_43, m_44, m_45, m_46, m_47, m_48, m_49, m_50, m_51, m_52, m_53, m_54, m_55, m_56, m_57, m_58, m_59])), (t0, .inl (K 0, 400, .inl ft))]) [0, 1] rfl
                            have hD9 := hD.sub (ws' := [(m0, .inr (12, [m_0, m_1, m_2, m_3, m_4, m_5, m_6, m_7, m_8, m_9, m_10, m_11, .ref t0, .int ta, .int v_1852, .int v_2666, .int 2, .long v_2667, m_18, m_19, m_20, m_21, m_22, m_23, m_24, m_25, m_26, m_27, m_28, m_29, m_30, m_31, m_32, m_33, m_34, m_35, m_36, m_37, m_38, m_39, m_40, m_41, m_42, m_43, m_44, m_45, m_46, m_47, m_48, m_49, m_50, m_51, m_52, m_53, m_54, m_55, m_56, m_57, m_58, m_59])), (t0, .inl (K 0, 400, .inl ft))]) [0, 1] (by decide) rfl
                            exact W.vret hx hb hr (fun t ht hW => ⟨⟨((fun _ => 0, fun _ => fun _ => 0, fun _ => fun _ => 0, fun i => match i with | 0 => v_1852 | 1 => v_2666 | _ => 2, fun i => match i with | _ => v_2667, fun _ => fun _ => none) : Su), rfl, ⟨(show 0 ≤ (v_1852 : Int32).toInt ∧ (v_1852 : Int32).toInt ≤ 400 by omega), (show 0 ≤ (v_2666 : Int32).toInt ∧ (v_2666 : Int32).toInt ≤ 401 by omega), (show 0 ≤ (2 : Int32).toInt ∧ (2 : Int32).toInt ≤ 3 by decide), (show ((0 ≤ (v_1852 : Int32).toInt ∧ (v_1852 : Int32).toInt ≤ (v_2666 : Int32).toInt ∧ (v_2666 : Int32).toInt ≤ ta.toInt) ∧ (2 = 0 ∨ (v_1852 : Int32).toInt < (v_2666 : Int32).toInt) ∧ (2 ≠ 1 ∨ (v_1852 : Int32).toInt + 1 < (v_2666 : Int32).toInt ∨ (v_2667 : Int64).toInt ≤ 26)) by omega), (show to.toInt ≤ (v_1852 : Int32).toInt by omega), trivial⟩, (⟨by rw [ht]; exact hP9, hD9⟩ : Wd D A _ t)⟩, hS.F ht⟩) hS.2.2 dX12_next_335
                    exact lp_2704 ((ta.toInt - (x_2612 : Int32).toInt : Int).toNat + 1) x_2612 x_2611 (by rw [hx_2612]; omega) (by rw [hx_2611]; omega) (show v_1852.toInt < (x_2612 : Int32).toInt ∧ (x_2612 : Int32).toInt ≤ ta.toInt by omega) (Nat.lt_succ_self _) _ _ hP hD hS ls (lv_sub hl [0] rfl)
                  · exfalso; omega
              · refine lv_if_eq (tgt := 113) hx hb dX12_next_106 (by decide) (fun c_2723 => ?_) (fun c_2723 => absurd (by decide) c_2723)
                refine lv_iconst (v := 3) hx hb dX12_next_113 (by decide) ?_
                refine va_put (ci := 12) (v := .int 3) (ty := .int) (C := RX12) (T := TX12) (N := 60) hx hb hts hw12 tyX12 tyX12_ok nmX12 hown hK hP hD hS 0 rfl rfl 16 (by decide) (hts (.fieldLink RX12 259 "SmokeTuneModel" "sort" "I") (List.mem_cons_of_mem _ (List.mem_append_left _ (List.mem_of_getElem? (i := 5) rfl)))) (fun _ h9 => h9) rfl (by decide +kernel) (by first | rfl | decide) (by first | rfl | decide) (Nat.le_of_ble_eq_true rfl) dX12_next_114 (fun H locs hP hD hS => ?_)
                have hP : va_P D vwCl [(m0, .inr (12, [m_0, m_1, m_2, m_3, m_4, m_5, m_6, m_7, m_8, m_9, m_10, m_11, .ref t0, .int ta, .int v_1852, .int v_1852, .int 3, .long 0, m_18, m_19, m_20, m_21, m_22, m_23, m_24, m_25, m_26, m_27, m_28, m_29, m_30, m_31, m_32, m_33, m_34, m_35, m_36, m_37, m_38, m_39, m_40, m_41, m_42, m_43, m_44, m_45, m_46, m_47, m_48, m_49, m_50, m_51, m_52, m_53, m_54, m_55, m_56, m_57, m_58, m_59])), (t0, .inl (K 0, 400, .inl ft))] H := hP
                have hD : va_D A [(m0, .inr (12, [m_0, m_1, m_2, m_3, m_4, m_5, m_6, m_7, m_8, m_9, m_10, m_11, .ref t0, .int ta, .int v_1852, .int v_1852, .int 3, .long 0, m_18, m_19, m_20, m_21, m_22, m_23, m_24, m_25, m_26, m_27, m_28, m_29, m_30, m_31, m_32, m_33, m_34, m_35, m_36, m_37, m_38, m_39, m_40, m_41, m_42, m_43, m_44, m_45, m_46, m_47, m_48, m_49, m_50, m_51, m_52, m_53, m_54, m_55, m_56, m_57, m_58, m_59])), (t0, .inl (K 0, 400, .inl ft))] := hD
                refine lv_aload_n hx hb dX12_next_117 rfl (lv_at hl 0 rfl) ?_
                refine va_get (ci := 12) (v := .int 3) (C := RX12) (T := TX12) (N := 60) hx hb hts hw12 hown hK hP 0 rfl rfl 16 (by decide) (hts (.fieldLink RX12 259 "SmokeTuneModel" "sort" "I") (List.mem_cons_of_mem _ (List.mem_append_left _ (List.mem_of_getElem? (i := 5) rfl)))) (fun _ h9 => h9) rfl dX12_next_118 ?_
                refine lv_iconst (v := 3) hx hb dX12_next_121 (by decide) ?_
                refine lv_icmp_ne (tgt := 149) hx hb dX12_next_122 (by decide) (fun c_2724 => absurd (by decide) c_2724) (fun c_2724 => ?_)
                refine lv_aload_n hx hb dX12_next_125 rfl (lv_at hl 0 rfl) ?_
                refine lv_aload_n hx hb dX12_next_126 rfl (lv_at hl 0 rfl) ?_
                refine va_get (ci := 12) (v := .ref t0) (C := RX12) (T := TX12) (N := 60) hx hb hts hw12 hown hK hP 0 rfl rfl 12 (by decide) (hts (.fieldLink RX12 35 "SmokeTuneModel" "tape" "[I") (List.mem_cons_of_mem _ (List.mem_append_left _ (List.mem_of_getElem? (i := 3) rfl)))) (fun _ h9 => h9) rfl dX12_next_127 ?_
                refine lv_aload_n hx hb dX12_next_130 rfl (lv_at hl 0 rfl) ?_
                refine va_get (ci := 12) (v := .int v_1852) (C := RX12) (T := TX12) (N := 60) hx hb hts hw12 hown hK hP 0 rfl rfl 14 (by decide) (hts (.fieldLink RX12 246 "SmokeTuneModel" "from" "I") (List.mem_cons_of_mem _ (List.mem_append_left _ (List.mem_of_getElem? (i := 1) rfl)))) (fun _ h9 => h9) rfl dX12_next_131 ?_
                refine va_iald hx hb hK hP 1 0 rfl rfl (i_in rfl (by omega)) dX12_next_134 ?_
                refine lv_topi (fun x_2725 ex_2725 => ?_)
                have erx_2725 : x_2725 = x_2298 := ex_2725.trans (by rw [i_clamp rfl]; exact kx_2298)
                have hrx_2725 : x_2725.toInt = x_2298.toInt := (congrArg Int32.toInt erx_2725).trans rfl
                refine lv_i2l hx hb dX12_next_135 rfl ?_
                refine lv_topl (fun x_2726 ex_2726 => ?_)
                have hx_2726 : x_2726.toInt = x_2298.toInt := by rw [ex_2726]; exact i_wide hrx_2725
                have hbx_2726 := i_rng (a := x_2725) hrx_2725
                refine va_put (ci := 12) (v := .long x_2726) (ty := .long) (C := RX12) (T := TX12) (N := 60) hx hb hts hw12 tyX12 tyX12_ok nmX12 hown hK hP hD hS 0 rfl rfl 17 (by decide) (hts (.fieldLink RX12 249 "SmokeTuneModel" "worth" "J") (List.mem_cons_of_mem _ (List.mem_append_left _ (List.mem_of_getElem? (i := 4) rfl)))) (fun _ h9 => h9) rfl (by decide +kernel) (by first | rfl | decide) (by first | rfl | decide) (Nat.le_of_ble_eq_true rfl) dX12_next_136 (fun H locs hP hD hS => ?_)
                have hP : va_P D vwCl [(m0, .inr (12, [m_0, m_1, m_2, m_3, m_4, m_5, m_6, m_7, m_8, m_9, m_10, m_11, .ref t0, .int ta, .int v_1852, .int v_1852, .int 3, .long x_2726, m_18, m_19, m_20, m_21, m_22, m_23, m_24, m_25, m_26, m_27, m_28, m_29, m_30, m_31, m_32, m_33, m_34, m_35, m_36, m_37, m_38, m_39, m_40, m_41, m_42, m_43, m_44, m_45, m_46, m_47, m_48, m_49, m_50, m_51, m_52, m_53, m_54, m_55, m_56, m_57, m_58, m_59])), (t0, .inl (K 0, 400, .inl ft))] H := hP
                have hD : va_D A [(m0, .inr (12, [m_0, m_1, m_2, m_3, m_4, m_5, m_6, m_7, m_8, m_9, m_10, m_11, .ref t0, .int ta, .int v_1852, .int v_1852, .int 3, .long x_2726, m_18, m_19, m_20, m_21, m_22, m_23, m_24, m_25, m_26, m_27, m_28, m_29, m_30, m_31, m_32, m_33, m_34, m_35, m_36, m_37, m_38, m_39, m_40, m_41, m_42, m_43, m_44, m_45, m_46, m_47, m_48, m_49, m_50, m_51, m_52, m_53, m_54, m_55, m_56, m_57, m_58, m_59])), (t0, .inl (K 0, 400, .inl ft))] := hD
                refine lv_aload_n hx hb dX12_next_139 rfl (lv_at hl 0 rfl) ?_
                refine lv_dup hx hb dX12_next_140 rfl ?_
                refine va_get (ci := 12) (v := .int v_1852) (C := RX12) (T := TX12) (N := 60) hx hb hts hw12 hown hK hP 0 rfl rfl 15 (by decide) (hts (.fieldLink RX12 236 "SmokeTuneModel" "to" "I") (List.mem_cons_of_mem _ (List.mem_append_left _ (List.mem_of_getElem? (i := 0) rfl)))) (fun _ h9 => h9) rfl dX12_next_141 ?_
                refine lv_iconst (v := 1) hx hb dX12_next_144 (by decide) ?_
                refine lv_iadd hx hb dX12_next_145 ?_
                refine lv_topi (fun x_2727 ex_2727 => ?_)
                have hx_2727 : x_2727.toInt = (v_1852.toInt + 1) := by rw [ex_2727]; exact i_add rfl (show (1 : Int32).toInt = 1 from rfl) (by omega)
                refine va_put (ci := 12) (v := .int x_2727) (ty := .int) (C := RX12) (T := TX12) (N := 60) hx hb hts hw12 tyX12 tyX12_ok nmX12 hown hK hP hD hS 0 rfl rfl 15 (by decide) (hts (.fieldLink RX12 236 "SmokeTuneModel" "to" "I") (List.mem_cons_of_mem _ (List.mem_append_left _ (List.mem_of_getElem? (i := 0) rfl)))) (fun _ h9 => h9) rfl (by decide +kernel) (by first | rfl | decide) (by first | rfl | decide) (Nat.le_of_ble_eq_true rfl) dX12_next_146 (fun H locs hP hD hS => ?_)
                have hP : va_P D vwCl [(m0, .inr (12, [m_0, m_1, m_2, m_3, m_4, m_5, m_6, m_7, m_8, m_9, m_10, m_11, .ref t0, .int ta, .int v_1852, .int x_2727, .int 3, .long x_2726, m_18, m_19, m_20, m_21, m_22, m_23, m_24, m_25, m_26, m_27, m_28, m_29, m_30, m_31, m_32, m_33, m_34, m_35, m_36, m_37, m_38, m_39, m_40, m_41, m_42, m_43, m_44, m_45, m_46, m_47, m_48, m_49, m_50, m_51, m_52, m_53, m_54, m_55, m_56, m_57, m_58, m_59])), (t0, .inl (K 0, 400, .inl ft))] H := hP
                have hD : va_D A [(m0, .inr (12, [m_0, m_1, m_2, m_3, m_4, m_5, m_6, m_7, m_8, m_9, m_10, m_11, .ref t0, .int ta, .int v_1852, .int x_2727, .int 3, .long x_2726, m_18, m_19, m_20, m_21, m_22, m_23, m_24, m_25, m_26, m_27, m_28, m_29, m_30, m_31, m_32, m_33, m_34, m_35, m_36, m_37, m_38, m_39, m_40, m_41, m_42, m_43, m_44, m_45, m_46, m_47, m_48, m_49, m_50, m_51, m_52, m_53, m_54, m_55, m_56, m_57, m_58, m_59])), (t0, .inl (K 0, 400, .inl ft))] := hD
                refine lv_aload_n hx hb dX12_next_149 rfl (lv_at hl 0 rfl) ?_
                refine va_get (ci := 12) (v := .int 3) (C := RX12) (T := TX12) (N := 60) hx hb hts hw12 hown hK hP 0 rfl rfl 16 (by decide) (hts (.fieldLink RX12 259 "SmokeTuneModel" "sort" "I") (List.mem_cons_of_mem _ (List.mem_append_left _ (List.mem_of_getElem? (i := 5) rfl)))) (fun _ h9 => h9) rfl dX12_next_150 ?_
                refine lv_iconst (v := 1) hx hb dX12_next_153 (by decide) ?_
                refine lv_icmp_ne (tgt := 243) hx hb dX12_next_154 (by decide) (fun c_2728 => ?_) (fun c_2728 => absurd c_2728 (by decide))
                refine lv_aload_n hx hb dX12_next_243 rfl (lv_at hl 0 rfl) ?_
                refine va_get (ci := 12) (v := .int 3) (C := RX12) (T := TX12) (N := 60) hx hb hts hw12 hown hK hP 0 rfl rfl 16 (by decide) (hts (.fieldLink RX12 259 "SmokeTuneModel" "sort" "I") (List.mem_cons_of_mem _ (List.mem_append_left _ (List.mem_of_getElem? (i := 5) rfl)))) (fun _ h9 => h9) rfl dX12_next_244 ?_
                refine lv_iconst (v := 2) hx hb dX12_next_247 (by decide) ?_
                refine lv_icmp_ne (tgt := 335) hx hb dX12_next_248 (by decide) (fun c_2729 => ?_) (fun c_2729 => absurd c_2729 (by decide))
                rw [← hQ]
                have hP9 := hP.sub (ws' := [(m0, .inr (12, [m_0, m_1, m_2, m_3, m_4, m_5, m_6, m_7, m_8, m_9, m_10, m_11, .ref t0, .int ta, .int v_1852, .int x_2727, .int 3, .long x_2726, m_18, m_19, m_20, m_21, m_22, m_23, m_24, m_25, m_26, m_27, m_28, m_29, m_30, m_31, m_32, m_33, m_34, m_35, m_36, m_37, m_38, m_39, m_40, m_41, m_42, m_43, m_44, m_45, m_46, m_47, m_48, m_49, m_50, m_51, m_52, m_53, m_54, m_55, m_56, m_57, m_58, m_59])), (t0, .inl (K 0, 400, .inl ft))]) [0, 1] rfl
                have hD9 := hD.sub (ws' := [(m0, .inr (12, [m_0, m_1, m_2, m_3, m_4, m_5, m_6, m_7, m_8, m_9, m_10, m_11, .ref t0, .int ta, .int v_1852, .int x_2727, .int 3, .long x_2726, m_18, m_19, m_20, m_21, m_22, m_23, m_24, m_25, m_26, m_27, m_28, m_29, m_30, m_31, m_32, m_33, m_34, m_35, m_36, m_37, m_38, m_39, m_40, m_41, m_42, m_43, m_44, m_45, m_46, m_47, m_48, m_49, m_50, m_51, m_52, m_53, m_54, m_55, m_56, m_57, m_58, m_59])), (t0, .inl (K 0, 400, .inl ft))]) [0, 1] (by decide) rfl
                exact W.vret hx hb hr (fun t ht hW => ⟨⟨((fun _ => 0, fun _ => fun _ => 0, fun _ => fun _ => 0, fun i => match i with | 0 => v_1852 | 1 => x_2727 | _ => 3, fun i => match i with | _ => x_2726, fun _ => fun _ => none) : Su), rfl, ⟨(show 0 ≤ (v_1852 : Int32).toInt ∧ (v_1852 : Int32).toInt ≤ 400 by omega), (show 0 ≤ (x_2727 : Int32).toInt ∧ (x_2727 : Int32).toInt ≤ 401 by rw [hx_2727]; omega), (show 0 ≤ (3 : Int32).toInt ∧ (3 : Int32).toInt ≤ 3 by decide), (show ((0 ≤ (v_1852 : Int32).toInt ∧ (v_1852 : Int32).toInt ≤ (x_2727 : Int32).toInt ∧ (x_2727 : Int32).toInt ≤ ta.toInt) ∧ (3 = 0 ∨ (v_1852 : Int32).toInt < (x_2727 : Int32).toInt) ∧ (3 ≠ 1 ∨ (v_1852 : Int32).toInt + 1 < (x_2727 : Int32).toInt ∨ (x_2726 : Int64).toInt ≤ 26)) by omega), (show to.toInt ≤ (v_1852 : Int32).toInt by omega), trivial⟩, (⟨by rw [ht]; exact hP9, hD9⟩ : Wd D A _ t)⟩, hS.F ht⟩) hS.2.2 dX12_next_335
          · have c_2300i := i_eq (x := v_1852.toInt) (y := ta.toInt) rfl rfl c_2300
            refine lv_iconst (v := 0) hx hb dX12_next_71 (by decide) ?_
            refine lv_goto (tgt := 114) hx hb dX12_next_72 (by decide) ?_
            refine va_put (ci := 12) (v := .int 0) (ty := .int) (C := RX12) (T := TX12) (N := 60) hx hb hts hw12 tyX12 tyX12_ok nmX12 hown hK hP hD hS 0 rfl rfl 16 (by decide) (hts (.fieldLink RX12 259 "SmokeTuneModel" "sort" "I") (List.mem_cons_of_mem _ (List.mem_append_left _ (List.mem_of_getElem? (i := 5) rfl)))) (fun _ h9 => h9) rfl (by decide +kernel) (by first | rfl | decide) (by first | rfl | decide) (Nat.le_of_ble_eq_true rfl) dX12_next_114 (fun H locs hP hD hS => ?_)
            have hP : va_P D vwCl [(m0, .inr (12, [m_0, m_1, m_2, m_3, m_4, m_5, m_6, m_7, m_8, m_9, m_10, m_11, .ref t0, .int ta, .int v_1852, .int v_1852, .int 0, .long 0, m_18, m_19, m_20, m_21, m_22, m_23, m_24, m_25, m_26, m_27, m_28, m_29, m_30, m_31, m_32, m_33, m_34, m_35, m_36, m_37, m_38, m_39, m_40, m_41, m_42, m_43, m_44, m_45, m_46, m_47, m_48, m_49, m_50, m_51, m_52, m_53, m_54, m_55, m_56, m_57, m_58, m_59])), (t0, .inl (K 0, 400, .inl ft))] H := hP
            have hD : va_D A [(m0, .inr (12, [m_0, m_1, m_2, m_3, m_4, m_5, m_6, m_7, m_8, m_9, m_10, m_11, .ref t0, .int ta, .int v_1852, .int v_1852, .int 0, .long 0, m_18, m_19, m_20, m_21, m_22, m_23, m_24, m_25, m_26, m_27, m_28, m_29, m_30, m_31, m_32, m_33, m_34, m_35, m_36, m_37, m_38, m_39, m_40, m_41, m_42, m_43, m_44, m_45, m_46, m_47, m_48, m_49, m_50, m_51, m_52, m_53, m_54, m_55, m_56, m_57, m_58, m_59])), (t0, .inl (K 0, 400, .inl ft))] := hD
            refine lv_aload_n hx hb dX12_next_117 rfl (lv_at hl 0 rfl) ?_
            refine va_get (ci := 12) (v := .int 0) (C := RX12) (T := TX12) (N := 60) hx hb hts hw12 hown hK hP 0 rfl rfl 16 (by decide) (hts (.fieldLink RX12 259 "SmokeTuneModel" "sort" "I") (List.mem_cons_of_mem _ (List.mem_append_left _ (List.mem_of_getElem? (i := 5) rfl)))) (fun _ h9 => h9) rfl dX12_next_118 ?_
            refine lv_iconst (v := 3) hx hb dX12_next_121 (by decide) ?_
            refine lv_icmp_ne (tgt := 149) hx hb dX12_next_122 (by decide) (fun c_2730 => ?_) (fun c_2730 => absurd c_2730 (by decide))
            refine lv_aload_n hx hb dX12_next_149 rfl (lv_at hl 0 rfl) ?_
            refine va_get (ci := 12) (v := .int 0) (C := RX12) (T := TX12) (N := 60) hx hb hts hw12 hown hK hP 0 rfl rfl 16 (by decide) (hts (.fieldLink RX12 259 "SmokeTuneModel" "sort" "I") (List.mem_cons_of_mem _ (List.mem_append_left _ (List.mem_of_getElem? (i := 5) rfl)))) (fun _ h9 => h9) rfl dX12_next_150 ?_
            refine lv_iconst (v := 1) hx hb dX12_next_153 (by decide) ?_
            refine lv_icmp_ne (tgt := 243) hx hb dX12_next_154 (by decide) (fun c_2731 => ?_) (fun c_2731 => absurd c_2731 (by decide))
            refine lv_aload_n hx hb dX12_next_243 rfl (lv_at hl 0 rfl) ?_
            refine va_get (ci := 12) (v := .int 0) (C := RX12) (T := TX12) (N := 60) hx hb hts hw12 hown hK hP 0 rfl rfl 16 (by decide) (hts (.fieldLink RX12 259 "SmokeTuneModel" "sort" "I") (List.mem_cons_of_mem _ (List.mem_append_left _ (List.mem_of_getElem? (i := 5) rfl)))) (fun _ h9 => h9) rfl dX12_next_244 ?_
            refine lv_iconst (v := 2) hx hb dX12_next_247 (by decide) ?_
            refine lv_icmp_ne (tgt := 335) hx hb dX12_next_248 (by decide) (fun c_2732 => ?_) (fun c_2732 => absurd c_2732 (by decide))
            rw [← hQ]
            have hP9 := hP.sub (ws' := [(m0, .inr (12, [m_0, m_1, m_2, m_3, m_4, m_5, m_6, m_7, m_8, m_9, m_10, m_11, .ref t0, .int ta, .int v_1852, .int v_1852, .int 0, .long 0, m_18, m_19, m_20, m_21, m_22, m_23, m_24, m_25, m_26, m_27, m_28, m_29, m_30, m_31, m_32, m_33, m_34, m_35, m_36, m_37, m_38, m_39, m_40, m_41, m_42, m_43, m_44, m_45, m_46, m_47, m_48, m_49, m_50, m_51, m_52, m_53, m_54, m_55, m_56, m_57, m_58, m_59])), (t0, .inl (K 0, 400, .inl ft))]) [0, 1] rfl
            have hD9 := hD.sub (ws' := [(m0, .inr (12, [m_0, m_1, m_2, m_3, m_4, m_5, m_6, m_7, m_8, m_9, m_10, m_11, .ref t0, .int ta, .int v_1852, .int v_1852, .int 0, .long 0, m_18, m_19, m_20, m_21, m_22, m_23, m_24, m_25, m_26, m_27, m_28, m_29, m_30, m_31, m_32, m_33, m_34, m_35, m_36, m_37, m_38, m_39, m_40, m_41, m_42, m_43, m_44, m_45, m_46, m_47, m_48, m_49, m_50, m_51, m_52, m_53, m_54, m_55, m_56, m_57, m_58, m_59])), (t0, .inl (K 0, 400, .inl ft))]) [0, 1] (by decide) rfl
            exact W.vret hx hb hr (fun t ht hW => ⟨⟨((fun _ => 0, fun _ => fun _ => 0, fun _ => fun _ => 0, fun i => match i with | 0 => v_1852 | 1 => v_1852 | _ => 0, fun i => match i with | _ => 0, fun _ => fun _ => none) : Su), rfl, ⟨(show 0 ≤ (v_1852 : Int32).toInt ∧ (v_1852 : Int32).toInt ≤ 400 by omega), (show 0 ≤ (v_1852 : Int32).toInt ∧ (v_1852 : Int32).toInt ≤ 401 by omega), (show 0 ≤ (0 : Int32).toInt ∧ (0 : Int32).toInt ≤ 3 by decide), (show ((0 ≤ (v_1852 : Int32).toInt ∧ (v_1852 : Int32).toInt ≤ (v_1852 : Int32).toInt ∧ (v_1852 : Int32).toInt ≤ ta.toInt) ∧ (0 = 0 ∨ (v_1852 : Int32).toInt < (v_1852 : Int32).toInt) ∧ (0 ≠ 1 ∨ (v_1852 : Int32).toInt + 1 < (v_1852 : Int32).toInt ∨ 0 ≤ 26)) by omega), (show to.toInt ≤ (v_1852 : Int32).toInt by omega), trivial⟩, (⟨by rw [ht]; exact hP9, hD9⟩ : Wd D A _ t)⟩, hS.F ht⟩) hS.2.2 dX12_next_335
        · have c_2299i := i_eq (x := x_2298.toInt) (y := 32) rfl rfl c_2299
          refine lv_aload_n hx hb dX12_next_33 rfl (lv_at hl 0 rfl) ?_
          refine lv_dup hx hb dX12_next_34 rfl ?_
          refine va_get (ci := 12) (v := .int v_1852) (C := RX12) (T := TX12) (N := 60) hx hb hts hw12 hown hK hP 0 rfl rfl 14 (by decide) (hts (.fieldLink RX12 246 "SmokeTuneModel" "from" "I") (List.mem_cons_of_mem _ (List.mem_append_left _ (List.mem_of_getElem? (i := 1) rfl)))) (fun _ h9 => h9) rfl dX12_next_35 ?_
          refine lv_iconst (v := 1) hx hb dX12_next_38 (by decide) ?_
          refine lv_iadd hx hb dX12_next_39 ?_
          refine lv_topi (fun x_2733 ex_2733 => ?_)
          have hx_2733 : x_2733.toInt = (v_1852.toInt + 1) := by rw [ex_2733]; exact i_add rfl (show (1 : Int32).toInt = 1 from rfl) (by omega)
          refine va_put (ci := 12) (v := .int x_2733) (ty := .int) (C := RX12) (T := TX12) (N := 60) hx hb hts hw12 tyX12 tyX12_ok nmX12 hown hK hP hD hS 0 rfl rfl 14 (by decide) (hts (.fieldLink RX12 246 "SmokeTuneModel" "from" "I") (List.mem_cons_of_mem _ (List.mem_append_left _ (List.mem_of_getElem? (i := 1) rfl)))) (fun _ h9 => h9) rfl (by decide +kernel) (by first | rfl | decide) (by first | rfl | decide) (Nat.le_of_ble_eq_true rfl) dX12_next_40 (fun H locs hP hD hS => ?_)
          have hP : va_P D vwCl [(m0, .inr (12, [m_0, m_1, m_2, m_3, m_4, m_5, m_6, m_7, m_8, m_9, m_10, m_11, .ref t0, .int ta, .int x_2733, .int to, .int so, .long wo, m_18, m_19, m_20, m_21, m_22, m_23, m_24, m_25, m_26, m_27, m_28, m_29, m_30, m_31, m_32, m_33, m_34, m_35, m_36, m_37, m_38, m_39, m_40, m_41, m_42, m_43, m_44, m_45, m_46, m_47, m_48, m_49, m_50, m_51, m_52, m_53, m_54, m_55, m_56, m_57, m_58, m_59])), (t0, .inl (K 0, 400, .inl ft))] H := hP
          have hD : va_D A [(m0, .inr (12, [m_0, m_1, m_2, m_3, m_4, m_5, m_6, m_7, m_8, m_9, m_10, m_11, .ref t0, .int ta, .int x_2733, .int to, .int so, .long wo, m_18, m_19, m_20, m_21, m_22, m_23, m_24, m_25, m_26, m_27, m_28, m_29, m_30, m_31, m_32, m_33, m_34, m_35, m_36, m_37, m_38, m_39, m_40, m_41, m_42, m_43, m_44, m_45, m_46, m_47, m_48, m_49, m_50, m_51, m_52, m_53, m_54, m_55, m_56, m_57, m_58, m_59])), (t0, .inl (K 0, 400, .inl ft))] := hD
          refine lv_goto (tgt := 8) hx hb dX12_next_43 (by decide) ?_
          exact ih_1863 x_2733 (by rw [hx_2733]; omega) (show to.toInt ≤ (x_2733 : Int32).toInt ∧ (x_2733 : Int32).toInt ≤ ta.toInt by omega) (by omega) _ _ hP hD hS ls (lv_sub hl [0] rfl)
  exact lp_1862 ((ta.toInt - (to : Int32).toInt : Int).toNat + 1) to (by omega) (show to.toInt ≤ (to : Int32).toInt ∧ (to : Int32).toInt ≤ ta.toInt by omega) (Nat.lt_succ_self _) _ _ hP hD hS ls (lv_sub hl [0] rfl)
set_option maxHeartbeats 4000000 in
set_option maxRecDepth 100000 in
theorem v_begin (l : Launch) (D : va_G) (K : Nat → ClassId) (m0 : Nat) (m_0 : Value) (m_1 : Value) (m_2 : Value) (m_3 : Value) (m_4 : Value) (m_5 : Value) (m_6 : Value) (m_7 : Value) (m_8 : Value) (m_9 : Value) (m_10 : Value) (m_11 : Value) (t0 : Nat) (ta : Int32) (fr : Int32) (to : Int32) (so : Int32) (wo : Int64) (fau : Int32) (bd : Int32) (m_20 : Value) (m_21 : Value) (m_22 : Value) (m_23 : Value) (m_24 : Value) (m_25 : Value) (m_26 : Value) (m_27 : Value) (m_28 : Value) (m_29 : Value) (m_30 : Value) (m_31 : Value) (m_32 : Value) (m_33 : Value) (m_34 : Value) (m_35 : Value) (m_36 : Value) (m_37 : Value) (m_38 : Value) (m_39 : Value) (m_40 : Value) (m_41 : Value) (m_42 : Value) (m_43 : Value) (m_44 : Value) (m_45 : Value) (m_46 : Value) (m_47 : Value) (m_48 : Value) (m_49 : Value) (m_50 : Value) (m_51 : Value) (m_52 : Value) (m_53 : Value) (m_54 : Value) (m_55 : Value) (m_56 : Value) (m_57 : Value) (m_58 : Value) (m_59 : Value) (ft : Nat → Int32) (sz : Nat) (zta : 0 ≤ ta.toInt ∧ ta.toInt ≤ 400) : Met l yX12_begin wsX12_begin ({ frames := 2, cells := 0, slots := 0, locals := 40 }) (va_Pc [.ref m0] (Pre D K [(m0, .inr (12, [m_0, m_1, m_2, m_3, m_4, m_5, m_6, m_7, m_8, m_9, m_10, m_11, .ref t0, .int ta, .int fr, .int to, .int so, .long wo, .int fau, .int bd, m_20, m_21, m_22, m_23, m_24, m_25, m_26, m_27, m_28, m_29, m_30, m_31, m_32, m_33, m_34, m_35, m_36, m_37, m_38, m_39, m_40, m_41, m_42, m_43, m_44, m_45, m_46, m_47, m_48, m_49, m_50, m_51, m_52, m_53, m_54, m_55, m_56, m_57, m_58, m_59])), (t0, .inl (K 0, 400, .inl ft))] sz)) (va_Qv (S := Su) (fun (u : Su) => (0 ≤ (u.2.2.2.1 0).toInt ∧ (u.2.2.2.1 0).toInt ≤ 400) ∧ (0 ≤ (u.2.2.2.1 1).toInt ∧ (u.2.2.2.1 1).toInt ≤ 400) ∧ (0 ≤ (u.2.2.2.1 2).toInt ∧ (u.2.2.2.1 2).toInt ≤ 3) ∧ (((0 ≤ (u.2.2.2.1 0).toInt ∧ (u.2.2.2.1 0).toInt ≤ (u.2.2.2.1 1).toInt ∧ (u.2.2.2.1 1).toInt ≤ ta.toInt) ∧ ((u.2.2.2.1 2).toInt = 0 ∨ (u.2.2.2.1 0).toInt < (u.2.2.2.1 1).toInt) ∧ ((u.2.2.2.1 2).toInt ≠ 1 ∨ (u.2.2.2.1 0).toInt + 1 < (u.2.2.2.1 1).toInt ∨ (u.2.2.2.2.1 0).toInt ≤ 26))) ∧ True) (fun u t => Wd D (va_A [(m0, .inr (12, [m_0, m_1, m_2, m_3, m_4, m_5, m_6, m_7, m_8, m_9, m_10, m_11, .ref t0, .int ta, .int fr, .int to, .int so, .long wo, .int fau, .int bd, m_20, m_21, m_22, m_23, m_24, m_25, m_26, m_27, m_28, m_29, m_30, m_31, m_32, m_33, m_34, m_35, m_36, m_37, m_38, m_39, m_40, m_41, m_42, m_43, m_44, m_45, m_46, m_47, m_48, m_49, m_50, m_51, m_52, m_53, m_54, m_55, m_56, m_57, m_58, m_59])), (t0, .inl (K 0, 400, .inl ft))] sz) ((fun u => [(m0, .inr (12, [m_0, m_1, m_2, m_3, m_4, m_5, m_6, m_7, m_8, m_9, m_10, m_11, .ref t0, .int ta, .int (u.2.2.2.1 0), .int (u.2.2.2.1 1), .int (u.2.2.2.1 2), .long (u.2.2.2.2.1 0), .int (-1), .int 0, m_20, m_21, m_22, m_23, m_24, m_25, m_26, m_27, m_28, m_29, m_30, m_31, m_32, m_33, m_34, m_35, m_36, m_37, m_38, m_39, m_40, m_41, m_42, m_43, m_44, m_45, m_46, m_47, m_48, m_49, m_50, m_51, m_52, m_53, m_54, m_55, m_56, m_57, m_58, m_59])), (t0, .inl (K 0, 400, .inl ft))]) u) t) (va_A [(m0, .inr (12, [m_0, m_1, m_2, m_3, m_4, m_5, m_6, m_7, m_8, m_9, m_10, m_11, .ref t0, .int ta, .int fr, .int to, .int so, .long wo, .int fau, .int bd, m_20, m_21, m_22, m_23, m_24, m_25, m_26, m_27, m_28, m_29, m_30, m_31, m_32, m_33, m_34, m_35, m_36, m_37, m_38, m_39, m_40, m_41, m_42, m_43, m_44, m_45, m_46, m_47, m_48, m_49, m_50, m_51, m_52, m_53, m_54, m_55, m_56, m_57, m_58, m_59])), (t0, .inl (K 0, 400, .inl ft))] sz)) 0 0 (va_A [(m0, .inr (12, [m_0, m_1, m_2, m_3, m_4, m_5, m_6, m_7, m_8, m_9, m_10, m_11, .ref t0, .int ta, .int fr, .int to, .int so, .long wo, .int fau, .int bd, m_20, m_21, m_22, m_23, m_24, m_25, m_26, m_27, m_28, m_29, m_30, m_31, m_32, m_33, m_34, m_35, m_36, m_37, m_38, m_39, m_40, m_41, m_42, m_43, m_44, m_45, m_46, m_47, m_48, m_49, m_50, m_51, m_52, m_53, m_54, m_55, m_56, m_57, m_58, m_59])), (t0, .inl (K 0, 400, .inl ft))] sz) := by
  refine Met.ofW (cc := cX12_begin) (maxL := 1) (ret := none) (by decide) rfl ?_
  intro p e s m args below meth c s₁ B hml hv
  obtain ⟨rfl, hsz, hP, hK, hD0, hN⟩ := hv
  have hx := B.exec
  have hb := B.bytes
  have hr := B.returns
  have hts := atoms_spec (ws := wsX12_begin) B.pre
  have hown : s.vm.findClass RX12 = some m.cls := findClass_of_methodNamed B.named
  have hlocks := B.notSynchronized
  subst hsz
  have hD := hD0.self (sz := s.heap.size)
  generalize hAe : va_A [(m0, .inr (12, [m_0, m_1, m_2, m_3, m_4, m_5, m_6, m_7, m_8, m_9, m_10, m_11, .ref t0, .int ta, .int fr, .int to, .int so, .long wo, .int fau, .int bd, m_20, m_21, m_22, m_23, m_24, m_25, m_26, m_27, m_28, m_29, m_30, m_31, m_32, m_33, m_34, m_35, m_36, m_37, m_38, m_39, m_40, m_41, m_42, m_43, m_44, m_45, m_46, m_47, m_48, m_49, m_50, m_51, m_52, m_53, m_54, m_55, m_56, m_57, m_58, m_59])), (t0, .inl (K 0, 400, .inl ft))] s.heap.size = A at hD ⊢
  have hA : ∀ q : Nat, s.heap.size ≤ q → A q := fun q h => by rw [← hAe]; exact Or.inr h
  have hS : va_S A s.heap s.heap [] := va_S.rf
  have hP : va_P D vwCl [(m0, .inr (12, [m_0, m_1, m_2, m_3, m_4, m_5, m_6, m_7, m_8, m_9, m_10, m_11, .ref t0, .int ta, .int fr, .int to, .int so, .long wo, .int fau, .int bd, m_20, m_21, m_22, m_23, m_24, m_25, m_26, m_27, m_28, m_29, m_30, m_31, m_32, m_33, m_34, m_35, m_36, m_37, m_38, m_39, m_40, m_41, m_42, m_43, m_44, m_45, m_46, m_47, m_48, m_49, m_50, m_51, m_52, m_53, m_54, m_55, m_56, m_57, m_58, m_59])), (t0, .inl (K 0, 400, .inl ft))] s.heap := hP
  have hl := lv_entry [.ref m0] (n := 1) (Nat.le_of_ble_eq_true rfl)
  rw [lg_entry_eq]
  generalize (lg_sl [.ref m0] ++ List.replicate (1 - (lg_sl [.ref m0]).length) Slot.unset).toArray = ls at hl ⊢
  have hl : lv_has ls 1 [(0, .ref m0)] := hl
  have hw12 : ∀ w ∈ wsX120, w ∈ wsX12_begin := fun w h => (List.mem_cons_of_mem _ (List.mem_append_right _ h))
  generalize hQ : MQ below _ _ s _ _ _ = Q
  refine lv_aload_n hx hb dX12_begin_0 rfl (lv_at hl 0 rfl) ?_
  refine lv_iconst (v := 0) hx hb dX12_begin_1 (by decide) ?_
  refine va_put (ci := 12) (v := .int 0) (ty := .int) (C := RX12) (T := TX12) (N := 60) hx hb hts hw12 tyX12 tyX12_ok nmX12 hown hK hP hD hS 0 rfl rfl 15 (by decide) (hts (.fieldLink RX12 236 "SmokeTuneModel" "to" "I") (List.mem_cons_of_mem _ (List.mem_append_left _ (List.mem_append_left _ (List.mem_of_getElem? (i := 0) rfl))))) (fun _ h9 => h9) rfl (by decide +kernel) (by first | rfl | decide) (by first | rfl | decide) (Nat.le_of_ble_eq_true rfl) dX12_begin_2 (fun H locs hP hD hS => ?_)
  have hP : va_P D vwCl [(m0, .inr (12, [m_0, m_1, m_2, m_3, m_4, m_5, m_6, m_7, m_8, m_9, m_10, m_11, .ref t0, .int ta, .int fr, .int 0, .int so, .long wo, .int fau, .int bd, m_20, m_21, m_22, m_23, m_24, m_25, m_26, m_27, m_28, m_29, m_30, m_31, m_32, m_33, m_34, m_35, m_36, m_37, m_38, m_39, m_40, m_41, m_42, m_43, m_44, m_45, m_46, m_47, m_48, m_49, m_50, m_51, m_52, m_53, m_54, m_55, m_56, m_57, m_58, m_59])), (t0, .inl (K 0, 400, .inl ft))] H := hP
  have hD : va_D A [(m0, .inr (12, [m_0, m_1, m_2, m_3, m_4, m_5, m_6, m_7, m_8, m_9, m_10, m_11, .ref t0, .int ta, .int fr, .int 0, .int so, .long wo, .int fau, .int bd, m_20, m_21, m_22, m_23, m_24, m_25, m_26, m_27, m_28, m_29, m_30, m_31, m_32, m_33, m_34, m_35, m_36, m_37, m_38, m_39, m_40, m_41, m_42, m_43, m_44, m_45, m_46, m_47, m_48, m_49, m_50, m_51, m_52, m_53, m_54, m_55, m_56, m_57, m_58, m_59])), (t0, .inl (K 0, 400, .inl ft))] := hD
  refine lv_aload_n hx hb dX12_begin_5 rfl (lv_at hl 0 rfl) ?_
  refine lv_iconst (v := 0) hx hb dX12_begin_6 (by decide) ?_
  refine va_put (ci := 12) (v := .int 0) (ty := .boolean) (C := RX12) (T := TX12) (N := 60) hx hb hts hw12 tyX12 tyX12_ok nmX12 hown hK hP hD hS 0 rfl rfl 19 (by decide) (hts (.fieldLink RX12 239 "SmokeTuneModel" "bad" "Z") (List.mem_cons_of_mem _ (List.mem_append_left _ (List.mem_append_left _ (List.mem_of_getElem? (i := 1) rfl))))) (fun _ h9 => h9) rfl (by decide +kernel) (by first | rfl | decide) (by first | rfl | decide) (Nat.le_of_ble_eq_true rfl) dX12_begin_7 (fun H locs hP hD hS => ?_)
  have hP : va_P D vwCl [(m0, .inr (12, [m_0, m_1, m_2, m_3, m_4, m_5, m_6, m_7, m_8, m_9, m_10, m_11, .ref t0, .int ta, .int fr, .int 0, .int so, .long wo, .int fau, .int 0, m_20, m_21, m_22, m_23, m_24, m_25, m_26, m_27, m_28, m_29, m_30, m_31, m_32, m_33, m_34, m_35, m_36, m_37, m_38, m_39, m_40, m_41, m_42, m_43, m_44, m_45, m_46, m_47, m_48, m_49, m_50, m_51, m_52, m_53, m_54, m_55, m_56, m_57, m_58, m_59])), (t0, .inl (K 0, 400, .inl ft))] H := hP
  have hD : va_D A [(m0, .inr (12, [m_0, m_1, m_2, m_3, m_4, m_5, m_6, m_7, m_8, m_9, m_10, m_11, .ref t0, .int ta, .int fr, .int 0, .int so, .long wo, .int fau, .int 0, m_20, m_21, m_22, m_23, m_24, m_25, m_26, m_27, m_28, m_29, m_30, m_31, m_32, m_33, m_34, m_35, m_36, m_37, m_38, m_39, m_40, m_41, m_42, m_43, m_44, m_45, m_46, m_47, m_48, m_49, m_50, m_51, m_52, m_53, m_54, m_55, m_56, m_57, m_58, m_59])), (t0, .inl (K 0, 400, .inl ft))] := hD
  refine lv_aload_n hx hb dX12_begin_10 rfl (lv_at hl 0 rfl) ?_
  refine lv_iconst (v := (-1)) hx hb dX12_begin_11 (by decide) ?_
  refine va_put (ci := 12) (v := .int (-1)) (ty := .int) (C := RX12) (T := TX12) (N := 60) hx hb hts hw12 tyX12 tyX12_ok nmX12 hown hK hP hD hS 0 rfl rfl 18 (by decide) (hts (.fieldLink RX12 38 "SmokeTuneModel" "fault" "I") (List.mem_cons_of_mem _ (List.mem_append_left _ (List.mem_append_left _ (List.mem_of_getElem? (i := 2) rfl))))) (fun _ h9 => h9) rfl (by decide +kernel) (by first | rfl | decide) (by first | rfl | decide) (Nat.le_of_ble_eq_true rfl) dX12_begin_12 (fun H locs hP hD hS => ?_)
  have hP : va_P D vwCl [(m0, .inr (12, [m_0, m_1, m_2, m_3, m_4, m_5, m_6, m_7, m_8, m_9, m_10, m_11, .ref t0, .int ta, .int fr, .int 0, .int so, .long wo, .int (-1), .int 0, m_20, m_21, m_22, m_23, m_24, m_25, m_26, m_27, m_28, m_29, m_30, m_31, m_32, m_33, m_34, m_35, m_36, m_37, m_38, m_39, m_40, m_41, m_42, m_43, m_44, m_45, m_46, m_47, m_48, m_49, m_50, m_51, m_52, m_53, m_54, m_55, m_56, m_57, m_58, m_59])), (t0, .inl (K 0, 400, .inl ft))] H := hP
  have hD : va_D A [(m0, .inr (12, [m_0, m_1, m_2, m_3, m_4, m_5, m_6, m_7, m_8, m_9, m_10, m_11, .ref t0, .int ta, .int fr, .int 0, .int so, .long wo, .int (-1), .int 0, m_20, m_21, m_22, m_23, m_24, m_25, m_26, m_27, m_28, m_29, m_30, m_31, m_32, m_33, m_34, m_35, m_36, m_37, m_38, m_39, m_40, m_41, m_42, m_43, m_44, m_45, m_46, m_47, m_48, m_49, m_50, m_51, m_52, m_53, m_54, m_55, m_56, m_57, m_58, m_59])), (t0, .inl (K 0, 400, .inl ft))] := hD
  refine lv_aload_n hx hb dX12_begin_15 rfl (lv_at hl 0 rfl) ?_
  have hz_z_81 : (0 : Int32).toInt = 0 := rfl
  have hz_z_82 : ((-1) : Int32).toInt = (-1) := rfl
  have hz_z_83 : (0 : Int32).toInt = 0 := rfl
  refine kcv (S := Su) (wr := []) (va_runV (As := []) (rest := []) ⟨hx, hb, hml, hown, hts⟩ (v_next l D K m0 m_0 m_1 m_2 m_3 m_4 m_5 m_6 m_7 m_8 m_9 m_10 m_11 t0 ta fr 0 so wo (.int (-1)) (.int 0) m_20 m_21 m_22 m_23 m_24 m_25 m_26 m_27 m_28 m_29 m_30 m_31 m_32 m_33 m_34 m_35 m_36 m_37 m_38 m_39 m_40 m_41 m_42 m_43 m_44 m_45 m_46 m_47 m_48 m_49 m_50 m_51 m_52 m_53 m_54 m_55 m_56 m_57 m_58 m_59 ft H.size (by first | omega | decide)) (cwV 0 hts gX12_begin_X12_next rfl rfl rfl (by decide +kernel) ⟨Nat.le_of_ble_eq_true rfl, Nat.le_of_ble_eq_true rfl⟩) (mkV hK hN (hP.sub [0, 1] rfl) (hD.sub [0, 1] (by decide) rfl) (ci := 12) (q0 := 0) rfl rfl) rfl rfl hl.1 rfl (lv_room (Nat.le_of_ble_eq_true rfl)) dX12_begin_16 ⟨Nat.le_of_ble_eq_true rfl, Nat.le_of_ble_eq_true rfl⟩) hP hD hS hA [0, 1] [] rfl rfl (by decide) (by decide) (fun u_85 H locs hw hP hD hS => ?_)
  have hP : va_P D vwCl [(m0, .inr (12, [m_0, m_1, m_2, m_3, m_4, m_5, m_6, m_7, m_8, m_9, m_10, m_11, .ref t0, .int ta, .int (u_85.2.2.2.1 0), .int (u_85.2.2.2.1 1), .int (u_85.2.2.2.1 2), .long (u_85.2.2.2.2.1 0), .int (-1), .int 0, m_20, m_21, m_22, m_23, m_24, m_25, m_26, m_27, m_28, m_29, m_30, m_31, m_32, m_33, m_34, m_35, m_36, m_37, m_38, m_39, m_40, m_41, m_42, m_43, m_44, m_45, m_46, m_47, m_48, m_49, m_50, m_51, m_52, m_53, m_54, m_55, m_56, m_57, m_58, m_59])), (t0, .inl (K 0, 400, .inl ft))] H := hP
  have hD : va_D A [(m0, .inr (12, [m_0, m_1, m_2, m_3, m_4, m_5, m_6, m_7, m_8, m_9, m_10, m_11, .ref t0, .int ta, .int (u_85.2.2.2.1 0), .int (u_85.2.2.2.1 1), .int (u_85.2.2.2.1 2), .long (u_85.2.2.2.2.1 0), .int (-1), .int 0, m_20, m_21, m_22, m_23, m_24, m_25, m_26, m_27, m_28, m_29, m_30, m_31, m_32, m_33, m_34, m_35, m_36, m_37, m_38, m_39, m_40, m_41, m_42, m_43, m_44, m_45, m_46, m_47, m_48, m_49, m_50, m_51, m_52, m_53, m_54, m_55, m_56, m_57, m_58, m_59])), (t0, .inl (K 0, 400, .inl ft))] := hD
  obtain ⟨k_86, k_87, k_88, k_89, k_90, -⟩ := hw
  rw [← hQ]
  have hP9 := hP.sub (ws' := [(m0, .inr (12, [m_0, m_1, m_2, m_3, m_4, m_5, m_6, m_7, m_8, m_9, m_10, m_11, .ref t0, .int ta, .int (u_85.2.2.2.1 0), .int (u_85.2.2.2.1 1), .int (u_85.2.2.2.1 2), .long (u_85.2.2.2.2.1 0), .int (-1), .int 0, m_20, m_21, m_22, m_23, m_24, m_25, m_26, m_27, m_28, m_29, m_30, m_31, m_32, m_33, m_34, m_35, m_36, m_37, m_38, m_39, m_40, m_41, m_42, m_43, m_44, m_45, m_46, m_47, m_48, m_49, m_50, m_51, m_52, m_53, m_54, m_55, m_56, m_57, m_58, m_59])), (t0, .inl (K 0, 400, .inl ft))]) [0, 1] rfl
  have hD9 := hD.sub (ws' := [(m0, .inr (12, [m_0, m_1, m_2, m_3, m_4, m_5, m_6, m_7, m_8, m_9, m_10, m_11, .ref t0, .int ta, .int (u_85.2.2.2.1 0), .int (u_85.2.2.2.1 1), .int (u_85.2.2.2.1 2), .long (u_85.2.2.2.2.1 0), .int (-1), .int 0, m_20, m_21, m_22, m_23, m_24, m_25, m_26, m_27, m_28, m_29, m_30, m_31, m_32, m_33, m_34, m_35, m_36, m_37, m_38, m_39, m_40, m_41, m_42, m_43, m_44, m_45, m_46, m_47, m_48, m_49, m_50, m_51, m_52, m_53, m_54, m_55, m_56, m_57, m_58, m_59])), (t0, .inl (K 0, 400, .inl ft))]) [0, 1] (by decide) rfl
  exact W.vret hx hb hr (fun t ht hW => ⟨⟨((fun _ => 0, fun _ => fun _ => 0, fun _ => fun _ => 0, fun i => match i with | 0 => (u_85.2.2.2.1 0) | 1 => (u_85.2.2.2.1 1) | _ => (u_85.2.2.2.1 2), fun i => match i with | _ => (u_85.2.2.2.2.1 0), fun _ => fun _ => none) : Su), rfl, ⟨(show 0 ≤ ((u_85.2.2.2.1 0) : Int32).toInt ∧ ((u_85.2.2.2.1 0) : Int32).toInt ≤ 400 by omega), (show 0 ≤ ((u_85.2.2.2.1 1) : Int32).toInt ∧ ((u_85.2.2.2.1 1) : Int32).toInt ≤ 400 by omega), (show 0 ≤ ((u_85.2.2.2.1 2) : Int32).toInt ∧ ((u_85.2.2.2.1 2) : Int32).toInt ≤ 3 by omega), (show ((0 ≤ ((u_85.2.2.2.1 0) : Int32).toInt ∧ ((u_85.2.2.2.1 0) : Int32).toInt ≤ ((u_85.2.2.2.1 1) : Int32).toInt ∧ ((u_85.2.2.2.1 1) : Int32).toInt ≤ ta.toInt) ∧ (((u_85.2.2.2.1 2) : Int32).toInt = 0 ∨ ((u_85.2.2.2.1 0) : Int32).toInt < ((u_85.2.2.2.1 1) : Int32).toInt) ∧ (((u_85.2.2.2.1 2) : Int32).toInt ≠ 1 ∨ ((u_85.2.2.2.1 0) : Int32).toInt + 1 < ((u_85.2.2.2.1 1) : Int32).toInt ∨ ((u_85.2.2.2.2.1 0) : Int64).toInt ≤ 26)) by omega), trivial⟩, (⟨by rw [ht]; exact hP9, hD9⟩ : Wd D A _ t)⟩, hS.F ht⟩) hS.2.2 dX12_begin_19
set_option maxHeartbeats 4000000 in
set_option maxRecDepth 100000 in
theorem v_isWord (l : Launch) (D : va_G) (K : Nat → ClassId) (m0 : Nat) (x : Int64) (m_0 : Value) (m_1 : Value) (m_2 : Value) (m_3 : Value) (m_4 : Value) (m_5 : Value) (m_6 : Value) (m_7 : Value) (m_8 : Value) (m_9 : Value) (m_10 : Value) (m_11 : Value) (m_12 : Value) (m_13 : Value) (m_14 : Value) (m_15 : Value) (so : Int32) (wo : Int64) (m_18 : Value) (m_19 : Value) (m_20 : Value) (m_21 : Value) (m_22 : Value) (m_23 : Value) (m_24 : Value) (m_25 : Value) (m_26 : Value) (m_27 : Value) (m_28 : Value) (m_29 : Value) (m_30 : Value) (m_31 : Value) (m_32 : Value) (m_33 : Value) (m_34 : Value) (m_35 : Value) (m_36 : Value) (m_37 : Value) (m_38 : Value) (m_39 : Value) (m_40 : Value) (m_41 : Value) (m_42 : Value) (m_43 : Value) (m_44 : Value) (m_45 : Value) (m_46 : Value) (m_47 : Value) (m_48 : Value) (m_49 : Value) (m_50 : Value) (m_51 : Value) (m_52 : Value) (m_53 : Value) (m_54 : Value) (m_55 : Value) (m_56 : Value) (m_57 : Value) (m_58 : Value) (m_59 : Value) (sz : Nat) : Met l yX12_isWord wsX12_isWord ({ frames := 0, cells := 0, slots := 0, locals := 0 }) (va_Pc [.ref m0, .long x] (Pre D K [(m0, .inr (12, [m_0, m_1, m_2, m_3, m_4, m_5, m_6, m_7, m_8, m_9, m_10, m_11, m_12, m_13, m_14, m_15, .int so, .long wo, m_18, m_19, m_20, m_21, m_22, m_23, m_24, m_25, m_26, m_27, m_28, m_29, m_30, m_31, m_32, m_33, m_34, m_35, m_36, m_37, m_38, m_39, m_40, m_41, m_42, m_43, m_44, m_45, m_46, m_47, m_48, m_49, m_50, m_51, m_52, m_53, m_54, m_55, m_56, m_57, m_58, m_59]))] sz)) (vp_Si (fun r : Int32 => ((r = 1 ∧ so.toInt = 1 ∧ wo.toInt = x.toInt) ∨ (r = 0)) ∧ True)) 0 0 (fun _ => False) := by
  refine Met.ofW (cc := cX12_isWord) (maxL := 3) (ret := (some .boolean)) (by decide) rfl ?_
  intro p e s m args below meth c s₁ B hml hv
  obtain ⟨rfl, hsz, hP, hK, hD0, hN⟩ := hv
  have hx := B.exec
  have hb := B.bytes
  have hr := B.returns
  have hts := atoms_spec (ws := wsX12_isWord) B.pre
  have hown : s.vm.findClass RX12 = some m.cls := findClass_of_methodNamed B.named
  have hlocks := B.notSynchronized
  subst hsz
  have hD := hD0
  have hP : va_P D vwCl [(m0, .inr (12, [m_0, m_1, m_2, m_3, m_4, m_5, m_6, m_7, m_8, m_9, m_10, m_11, m_12, m_13, m_14, m_15, .int so, .long wo, m_18, m_19, m_20, m_21, m_22, m_23, m_24, m_25, m_26, m_27, m_28, m_29, m_30, m_31, m_32, m_33, m_34, m_35, m_36, m_37, m_38, m_39, m_40, m_41, m_42, m_43, m_44, m_45, m_46, m_47, m_48, m_49, m_50, m_51, m_52, m_53, m_54, m_55, m_56, m_57, m_58, m_59]))] s.heap := hP
  have hl := lv_entry [.ref m0, .long x] (n := 3) (Nat.le_of_ble_eq_true rfl)
  rw [lg_entry_eq]
  generalize (lg_sl [.ref m0, .long x] ++ List.replicate (3 - (lg_sl [.ref m0, .long x]).length) Slot.unset).toArray = ls at hl ⊢
  have hl : lv_has ls 3 [(0, .ref m0), (1, .long x)] := hl
  have hw12 : ∀ w ∈ wsX120, w ∈ wsX12_isWord := fun w h => (List.mem_cons_of_mem _ (List.mem_append_right _ h))
  generalize hQ : MQ below _ _ s _ _ _ = Q
  refine lv_aload_n hx hb dX12_isWord_0 rfl (lv_at hl 0 rfl) ?_
  refine va_get (ci := 12) (v := .int so) (C := RX12) (T := TX12) (N := 60) hx hb hts hw12 hown hK hP 0 rfl rfl 16 (by decide) (hts (.fieldLink RX12 259 "SmokeTuneModel" "sort" "I") (List.mem_cons_of_mem _ (List.mem_append_left _ (List.mem_of_getElem? (i := 0) rfl)))) (fun _ h9 => h9) rfl dX12_isWord_1 ?_
  refine lv_iconst (v := 1) hx hb dX12_isWord_4 (by decide) ?_
  refine lv_icmp_ne (tgt := 21) hx hb dX12_isWord_5 (by decide) (fun c_63 => ?_) (fun c_63 => ?_)
  · have c_63i := i_ne (x := so.toInt) (y := 1) rfl rfl c_63
    refine lv_iconst (v := 0) hx hb dX12_isWord_21 (by decide) ?_
    rw [← hQ]
    exact W.zret (v := 0) hx hb hr (by decide) (fun t ht hW => ⟨_, rfl, ⟨(by first | exact Or.inr (rfl)), trivial⟩, ht⟩) (fun q hq => by cases hq) dX12_isWord_22
  · have c_63i := i_eq (x := so.toInt) (y := 1) rfl rfl c_63
    refine lv_aload_n hx hb dX12_isWord_8 rfl (lv_at hl 0 rfl) ?_
    refine va_get (ci := 12) (v := .long wo) (C := RX12) (T := TX12) (N := 60) hx hb hts hw12 hown hK hP 0 rfl rfl 17 (by decide) (hts (.fieldLink RX12 249 "SmokeTuneModel" "worth" "J") (List.mem_cons_of_mem _ (List.mem_append_left _ (List.mem_of_getElem? (i := 1) rfl)))) (fun _ h9 => h9) rfl dX12_isWord_9 ?_
    refine lv_lload_n hx hb dX12_isWord_12 rfl (lv_at hl 1 rfl) ?_
    refine W.lcmp hx hb dX12_isWord_13 ?_
    refine lv_if_ne (tgt := 21) hx hb dX12_isWord_14 (by decide) (fun c_64 => ?_) (fun c_64 => ?_)
    · have c_64i := l_ne (x := wo.toInt) (y := x.toInt) rfl rfl (fun q => c_64 ((lg_cmp_eq wo x).mpr q))
      refine lv_iconst (v := 0) hx hb dX12_isWord_21 (by decide) ?_
      rw [← hQ]
      exact W.zret (v := 0) hx hb hr (by decide) (fun t ht hW => ⟨_, rfl, ⟨(by first | exact Or.inr (rfl)), trivial⟩, ht⟩) (fun q hq => by cases hq) dX12_isWord_22
    · have c_64i := l_eq (x := wo.toInt) (y := x.toInt) rfl rfl ((lg_cmp_eq wo x).mp c_64)
      refine lv_iconst (v := 1) hx hb dX12_isWord_17 (by decide) ?_
      refine lv_goto (tgt := 22) hx hb dX12_isWord_18 (by decide) ?_
      rw [← hQ]
      exact W.zret (v := 1) hx hb hr (by decide) (fun t ht hW => ⟨_, rfl, ⟨(by first | exact Or.inl ⟨rfl, by first | omega | decide | (subst_vars; assumption), by first | omega | decide | (subst_vars; assumption)⟩), trivial⟩, ht⟩) (fun q hq => by cases hq) dX12_isWord_22
set_option maxHeartbeats 4000000 in
set_option maxRecDepth 100000 in
theorem v_isSign (l : Launch) (D : va_G) (K : Nat → ClassId) (m0 : Nat) (x : Int32) (m_0 : Value) (m_1 : Value) (m_2 : Value) (m_3 : Value) (m_4 : Value) (m_5 : Value) (m_6 : Value) (m_7 : Value) (m_8 : Value) (m_9 : Value) (m_10 : Value) (m_11 : Value) (m_12 : Value) (m_13 : Value) (m_14 : Value) (m_15 : Value) (so : Int32) (wo : Int64) (m_18 : Value) (m_19 : Value) (m_20 : Value) (m_21 : Value) (m_22 : Value) (m_23 : Value) (m_24 : Value) (m_25 : Value) (m_26 : Value) (m_27 : Value) (m_28 : Value) (m_29 : Value) (m_30 : Value) (m_31 : Value) (m_32 : Value) (m_33 : Value) (m_34 : Value) (m_35 : Value) (m_36 : Value) (m_37 : Value) (m_38 : Value) (m_39 : Value) (m_40 : Value) (m_41 : Value) (m_42 : Value) (m_43 : Value) (m_44 : Value) (m_45 : Value) (m_46 : Value) (m_47 : Value) (m_48 : Value) (m_49 : Value) (m_50 : Value) (m_51 : Value) (m_52 : Value) (m_53 : Value) (m_54 : Value) (m_55 : Value) (m_56 : Value) (m_57 : Value) (m_58 : Value) (m_59 : Value) (sz : Nat) : Met l yX12_isSign wsX12_isSign ({ frames := 0, cells := 0, slots := 0, locals := 0 }) (va_Pc [.ref m0, .int x] (Pre D K [(m0, .inr (12, [m_0, m_1, m_2, m_3, m_4, m_5, m_6, m_7, m_8, m_9, m_10, m_11, m_12, m_13, m_14, m_15, .int so, .long wo, m_18, m_19, m_20, m_21, m_22, m_23, m_24, m_25, m_26, m_27, m_28, m_29, m_30, m_31, m_32, m_33, m_34, m_35, m_36, m_37, m_38, m_39, m_40, m_41, m_42, m_43, m_44, m_45, m_46, m_47, m_48, m_49, m_50, m_51, m_52, m_53, m_54, m_55, m_56, m_57, m_58, m_59]))] sz)) (vp_Si (fun r : Int32 => ((r = 1 ∧ so.toInt = 3) ∨ (r = 0)) ∧ True)) 0 0 (fun _ => False) := by
  refine Met.ofW (cc := cX12_isSign) (maxL := 2) (ret := (some .boolean)) (by decide) rfl ?_
  intro p e s m args below meth c s₁ B hml hv
  obtain ⟨rfl, hsz, hP, hK, hD0, hN⟩ := hv
  have hx := B.exec
  have hb := B.bytes
  have hr := B.returns
  have hts := atoms_spec (ws := wsX12_isSign) B.pre
  have hown : s.vm.findClass RX12 = some m.cls := findClass_of_methodNamed B.named
  have hlocks := B.notSynchronized
  subst hsz
  have hD := hD0
  have hP : va_P D vwCl [(m0, .inr (12, [m_0, m_1, m_2, m_3, m_4, m_5, m_6, m_7, m_8, m_9, m_10, m_11, m_12, m_13, m_14, m_15, .int so, .long wo, m_18, m_19, m_20, m_21, m_22, m_23, m_24, m_25, m_26, m_27, m_28, m_29, m_30, m_31, m_32, m_33, m_34, m_35, m_36, m_37, m_38, m_39, m_40, m_41, m_42, m_43, m_44, m_45, m_46, m_47, m_48, m_49, m_50, m_51, m_52, m_53, m_54, m_55, m_56, m_57, m_58, m_59]))] s.heap := hP
  have hl := lv_entry [.ref m0, .int x] (n := 2) (Nat.le_of_ble_eq_true rfl)
  rw [lg_entry_eq]
  generalize (lg_sl [.ref m0, .int x] ++ List.replicate (2 - (lg_sl [.ref m0, .int x]).length) Slot.unset).toArray = ls at hl ⊢
  have hl : lv_has ls 2 [(0, .ref m0), (1, .int x)] := hl
  have hw12 : ∀ w ∈ wsX120, w ∈ wsX12_isSign := fun w h => (List.mem_cons_of_mem _ (List.mem_append_right _ h))
  generalize hQ : MQ below _ _ s _ _ _ = Q
  refine lv_aload_n hx hb dX12_isSign_0 rfl (lv_at hl 0 rfl) ?_
  refine va_get (ci := 12) (v := .int so) (C := RX12) (T := TX12) (N := 60) hx hb hts hw12 hown hK hP 0 rfl rfl 16 (by decide) (hts (.fieldLink RX12 259 "SmokeTuneModel" "sort" "I") (List.mem_cons_of_mem _ (List.mem_append_left _ (List.mem_of_getElem? (i := 0) rfl)))) (fun _ h9 => h9) rfl dX12_isSign_1 ?_
  refine lv_iconst (v := 3) hx hb dX12_isSign_4 (by decide) ?_
  refine lv_icmp_ne (tgt := 22) hx hb dX12_isSign_5 (by decide) (fun c_64 => ?_) (fun c_64 => ?_)
  · have c_64i := i_ne (x := so.toInt) (y := 3) rfl rfl c_64
    refine lv_iconst (v := 0) hx hb dX12_isSign_22 (by decide) ?_
    rw [← hQ]
    exact W.zret (v := 0) hx hb hr (by decide) (fun t ht hW => ⟨_, rfl, ⟨(by first | exact Or.inr (rfl)), trivial⟩, ht⟩) (fun q hq => by cases hq) dX12_isSign_23
  · have c_64i := i_eq (x := so.toInt) (y := 3) rfl rfl c_64
    refine lv_aload_n hx hb dX12_isSign_8 rfl (lv_at hl 0 rfl) ?_
    refine va_get (ci := 12) (v := .long wo) (C := RX12) (T := TX12) (N := 60) hx hb hts hw12 hown hK hP 0 rfl rfl 17 (by decide) (hts (.fieldLink RX12 249 "SmokeTuneModel" "worth" "J") (List.mem_cons_of_mem _ (List.mem_append_left _ (List.mem_of_getElem? (i := 1) rfl)))) (fun _ h9 => h9) rfl dX12_isSign_9 ?_
    refine lv_iload_n hx hb dX12_isSign_12 rfl (lv_at hl 1 rfl) ?_
    refine lv_i2l hx hb dX12_isSign_13 rfl ?_
    refine lv_topl (fun x_65 ex_65 => ?_)
    have hx_65 : x_65.toInt = x.toInt := by rw [ex_65]; exact i_wide rfl
    have hbx_65 := i_rng (a := x) rfl
    refine W.lcmp hx hb dX12_isSign_14 ?_
    refine lv_if_ne (tgt := 22) hx hb dX12_isSign_15 (by decide) (fun c_66 => ?_) (fun c_66 => ?_)
    · have c_66i := l_ne (x := wo.toInt) (y := x.toInt) rfl hx_65 (fun q => c_66 ((lg_cmp_eq wo x_65).mpr q))
      refine lv_iconst (v := 0) hx hb dX12_isSign_22 (by decide) ?_
      rw [← hQ]
      exact W.zret (v := 0) hx hb hr (by decide) (fun t ht hW => ⟨_, rfl, ⟨(by first | exact Or.inr (rfl)), trivial⟩, ht⟩) (fun q hq => by cases hq) dX12_isSign_23
    · have c_66i := l_eq (x := wo.toInt) (y := x.toInt) rfl hx_65 ((lg_cmp_eq wo x_65).mp c_66)
      refine lv_iconst (v := 1) hx hb dX12_isSign_18 (by decide) ?_
      refine lv_goto (tgt := 23) hx hb dX12_isSign_19 (by decide) ?_
      rw [← hQ]
      exact W.zret (v := 1) hx hb hr (by decide) (fun t ht hW => ⟨_, rfl, ⟨(by first | exact Or.inl ⟨rfl, by first | omega | decide | (subst_vars; assumption)⟩), trivial⟩, ht⟩) (fun q hq => by cases hq) dX12_isSign_23
set_option maxHeartbeats 4000000 in
set_option maxRecDepth 100000 in
theorem v_must (l : Launch) (D : va_G) (K : Nat → ClassId) (m0 : Nat) (x : Int32) (m_0 : Value) (m_1 : Value) (m_2 : Value) (m_3 : Value) (m_4 : Value) (m_5 : Value) (m_6 : Value) (m_7 : Value) (m_8 : Value) (m_9 : Value) (m_10 : Value) (m_11 : Value) (t0 : Nat) (ta : Int32) (fr : Int32) (to : Int32) (so : Int32) (wo : Int64) (fau : Int32) (bd : Int32) (m_20 : Value) (m_21 : Value) (m_22 : Value) (m_23 : Value) (m_24 : Value) (m_25 : Value) (m_26 : Value) (m_27 : Value) (m_28 : Value) (m_29 : Value) (m_30 : Value) (m_31 : Value) (m_32 : Value) (m_33 : Value) (m_34 : Value) (m_35 : Value) (m_36 : Value) (m_37 : Value) (m_38 : Value) (m_39 : Value) (m_40 : Value) (m_41 : Value) (m_42 : Value) (m_43 : Value) (m_44 : Value) (m_45 : Value) (m_46 : Value) (m_47 : Value) (m_48 : Value) (m_49 : Value) (m_50 : Value) (m_51 : Value) (m_52 : Value) (m_53 : Value) (m_54 : Value) (m_55 : Value) (m_56 : Value) (m_57 : Value) (m_58 : Value) (m_59 : Value) (ft : Nat → Int32) (sz : Nat) (ztk : 0 ≤ fr.toInt ∧ fr.toInt ≤ to.toInt ∧ to.toInt ≤ ta.toInt ∧ ta.toInt ≤ 400) (ztk2 : (so.toInt = 0 ∨ fr.toInt < to.toInt)) (ztk3 : (so.toInt ≠ 1 ∨ fr.toInt + 1 < to.toInt ∨ wo.toInt ≤ 26)) (zso : 0 ≤ so.toInt ∧ so.toInt ≤ 3) (zbd : 0 ≤ bd.toInt ∧ bd.toInt ≤ 1) (zx : 0 ≤ x.toInt ∧ x.toInt ≤ 1) : Met l yX12_must wsX12_must ({ frames := 2, cells := 0, slots := 0, locals := 40 }) (va_Pc [.ref m0, .int x] (Pre D K [(m0, .inr (12, [m_0, m_1, m_2, m_3, m_4, m_5, m_6, m_7, m_8, m_9, m_10, m_11, .ref t0, .int ta, .int fr, .int to, .int so, .long wo, .int fau, .int bd, m_20, m_21, m_22, m_23, m_24, m_25, m_26, m_27, m_28, m_29, m_30, m_31, m_32, m_33, m_34, m_35, m_36, m_37, m_38, m_39, m_40, m_41, m_42, m_43, m_44, m_45, m_46, m_47, m_48, m_49, m_50, m_51, m_52, m_53, m_54, m_55, m_56, m_57, m_58, m_59])), (t0, .inl (K 0, 400, .inl ft))] sz)) (va_Qv (S := Su) (fun (u : Su) => (0 ≤ (u.2.2.2.1 0).toInt ∧ (u.2.2.2.1 0).toInt ≤ 400) ∧ (0 ≤ (u.2.2.2.1 1).toInt ∧ (u.2.2.2.1 1).toInt ≤ 400) ∧ (0 ≤ (u.2.2.2.1 2).toInt ∧ (u.2.2.2.1 2).toInt ≤ 3) ∧ (0 ≤ (u.2.2.2.1 4).toInt ∧ (u.2.2.2.1 4).toInt ≤ 1) ∧ (((0 ≤ (u.2.2.2.1 0).toInt ∧ (u.2.2.2.1 0).toInt ≤ (u.2.2.2.1 1).toInt ∧ (u.2.2.2.1 1).toInt ≤ ta.toInt) ∧ ((u.2.2.2.1 2).toInt = 0 ∨ (u.2.2.2.1 0).toInt < (u.2.2.2.1 1).toInt) ∧ ((u.2.2.2.1 2).toInt ≠ 1 ∨ (u.2.2.2.1 0).toInt + 1 < (u.2.2.2.1 1).toInt ∨ (u.2.2.2.2.1 0).toInt ≤ 26))) ∧ (((u.2.2.2.1 4).toInt = 1 ∨ (bd.toInt = 0 ∧ x.toInt = 1 ∧ to.toInt ≤ (u.2.2.2.1 0).toInt))) ∧ (fr.toInt ≤ (u.2.2.2.1 0).toInt) ∧ True) (fun u t => Wd D (va_A [(m0, .inr (12, [m_0, m_1, m_2, m_3, m_4, m_5, m_6, m_7, m_8, m_9, m_10, m_11, .ref t0, .int ta, .int fr, .int to, .int so, .long wo, .int fau, .int bd, m_20, m_21, m_22, m_23, m_24, m_25, m_26, m_27, m_28, m_29, m_30, m_31, m_32, m_33, m_34, m_35, m_36, m_37, m_38, m_39, m_40, m_41, m_42, m_43, m_44, m_45, m_46, m_47, m_48, m_49, m_50, m_51, m_52, m_53, m_54, m_55, m_56, m_57, m_58, m_59])), (t0, .inl (K 0, 400, .inl ft))] sz) ((fun u => [(m0, .inr (12, [m_0, m_1, m_2, m_3, m_4, m_5, m_6, m_7, m_8, m_9, m_10, m_11, .ref t0, .int ta, .int (u.2.2.2.1 0), .int (u.2.2.2.1 1), .int (u.2.2.2.1 2), .long (u.2.2.2.2.1 0), .int (u.2.2.2.1 3), .int (u.2.2.2.1 4), m_20, m_21, m_22, m_23, m_24, m_25, m_26, m_27, m_28, m_29, m_30, m_31, m_32, m_33, m_34, m_35, m_36, m_37, m_38, m_39, m_40, m_41, m_42, m_43, m_44, m_45, m_46, m_47, m_48, m_49, m_50, m_51, m_52, m_53, m_54, m_55, m_56, m_57, m_58, m_59])), (t0, .inl (K 0, 400, .inl ft))]) u) t) (va_A [(m0, .inr (12, [m_0, m_1, m_2, m_3, m_4, m_5, m_6, m_7, m_8, m_9, m_10, m_11, .ref t0, .int ta, .int fr, .int to, .int so, .long wo, .int fau, .int bd, m_20, m_21, m_22, m_23, m_24, m_25, m_26, m_27, m_28, m_29, m_30, m_31, m_32, m_33, m_34, m_35, m_36, m_37, m_38, m_39, m_40, m_41, m_42, m_43, m_44, m_45, m_46, m_47, m_48, m_49, m_50, m_51, m_52, m_53, m_54, m_55, m_56, m_57, m_58, m_59])), (t0, .inl (K 0, 400, .inl ft))] sz)) 0 0 (va_A [(m0, .inr (12, [m_0, m_1, m_2, m_3, m_4, m_5, m_6, m_7, m_8, m_9, m_10, m_11, .ref t0, .int ta, .int fr, .int to, .int so, .long wo, .int fau, .int bd, m_20, m_21, m_22, m_23, m_24, m_25, m_26, m_27, m_28, m_29, m_30, m_31, m_32, m_33, m_34, m_35, m_36, m_37, m_38, m_39, m_40, m_41, m_42, m_43, m_44, m_45, m_46, m_47, m_48, m_49, m_50, m_51, m_52, m_53, m_54, m_55, m_56, m_57, m_58, m_59])), (t0, .inl (K 0, 400, .inl ft))] sz) := by
  refine Met.ofW (cc := cX12_must) (maxL := 2) (ret := none) (by decide) rfl ?_
  intro p e s m args below meth c s₁ B hml hv
  obtain ⟨rfl, hsz, hP, hK, hD0, hN⟩ := hv
  have hx := B.exec
  have hb := B.bytes
  have hr := B.returns
  have hts := atoms_spec (ws := wsX12_must) B.pre
  have hown : s.vm.findClass RX12 = some m.cls := findClass_of_methodNamed B.named
  have hlocks := B.notSynchronized
  subst hsz
  have hD := hD0.self (sz := s.heap.size)
  generalize hAe : va_A [(m0, .inr (12, [m_0, m_1, m_2, m_3, m_4, m_5, m_6, m_7, m_8, m_9, m_10, m_11, .ref t0, .int ta, .int fr, .int to, .int so, .long wo, .int fau, .int bd, m_20, m_21, m_22, m_23, m_24, m_25, m_26, m_27, m_28, m_29, m_30, m_31, m_32, m_33, m_34, m_35, m_36, m_37, m_38, m_39, m_40, m_41, m_42, m_43, m_44, m_45, m_46, m_47, m_48, m_49, m_50, m_51, m_52, m_53, m_54, m_55, m_56, m_57, m_58, m_59])), (t0, .inl (K 0, 400, .inl ft))] s.heap.size = A at hD ⊢
  have hA : ∀ q : Nat, s.heap.size ≤ q → A q := fun q h => by rw [← hAe]; exact Or.inr h
  have hS : va_S A s.heap s.heap [] := va_S.rf
  have hP : va_P D vwCl [(m0, .inr (12, [m_0, m_1, m_2, m_3, m_4, m_5, m_6, m_7, m_8, m_9, m_10, m_11, .ref t0, .int ta, .int fr, .int to, .int so, .long wo, .int fau, .int bd, m_20, m_21, m_22, m_23, m_24, m_25, m_26, m_27, m_28, m_29, m_30, m_31, m_32, m_33, m_34, m_35, m_36, m_37, m_38, m_39, m_40, m_41, m_42, m_43, m_44, m_45, m_46, m_47, m_48, m_49, m_50, m_51, m_52, m_53, m_54, m_55, m_56, m_57, m_58, m_59])), (t0, .inl (K 0, 400, .inl ft))] s.heap := hP
  have hl := lv_entry [.ref m0, .int x] (n := 2) (Nat.le_of_ble_eq_true rfl)
  rw [lg_entry_eq]
  generalize (lg_sl [.ref m0, .int x] ++ List.replicate (2 - (lg_sl [.ref m0, .int x]).length) Slot.unset).toArray = ls at hl ⊢
  have hl : lv_has ls 2 [(0, .ref m0), (1, .int x)] := hl
  have hw12 : ∀ w ∈ wsX120, w ∈ wsX12_must := fun w h => (List.mem_cons_of_mem _ (List.mem_append_right _ h))
  generalize hQ : MQ below _ _ s _ _ _ = Q
  refine lv_aload_n hx hb dX12_must_0 rfl (lv_at hl 0 rfl) ?_
  refine va_get (ci := 12) (v := .int bd) (C := RX12) (T := TX12) (N := 60) hx hb hts hw12 hown hK hP 0 rfl rfl 19 (by decide) (hts (.fieldLink RX12 239 "SmokeTuneModel" "bad" "Z") (List.mem_cons_of_mem _ (List.mem_append_left _ (List.mem_append_left _ (List.mem_of_getElem? (i := 0) rfl))))) (fun _ h9 => h9) rfl dX12_must_1 ?_
  refine lv_if_ne (tgt := 24) hx hb dX12_must_4 (by decide) (fun c_85 => ?_) (fun c_85 => ?_)
  · have c_85i := i_ne (x := bd.toInt) (y := 0) rfl rfl c_85
    refine lv_aload_n hx hb dX12_must_24 rfl (lv_at hl 0 rfl) ?_
    refine va_get (ci := 12) (v := .int bd) (C := RX12) (T := TX12) (N := 60) hx hb hts hw12 hown hK hP 0 rfl rfl 19 (by decide) (hts (.fieldLink RX12 239 "SmokeTuneModel" "bad" "Z") (List.mem_cons_of_mem _ (List.mem_append_left _ (List.mem_append_left _ (List.mem_of_getElem? (i := 0) rfl))))) (fun _ h9 => h9) rfl dX12_must_25 ?_
    refine lv_if_ne (tgt := 35) hx hb dX12_must_28 (by decide) (fun c_86 => ?_) (fun c_86 => ?_)
    · have c_86i := i_ne (x := bd.toInt) (y := 0) rfl rfl c_86
      rw [← hQ]
      have hP9 := hP.sub (ws' := [(m0, .inr (12, [m_0, m_1, m_2, m_3, m_4, m_5, m_6, m_7, m_8, m_9, m_10, m_11, .ref t0, .int ta, .int fr, .int to, .int so, .long wo, .int fau, .int bd, m_20, m_21, m_22, m_23, m_24, m_25, m_26, m_27, m_28, m_29, m_30, m_31, m_32, m_33, m_34, m_35, m_36, m_37, m_38, m_39, m_40, m_41, m_42, m_43, m_44, m_45, m_46, m_47, m_48, m_49, m_50, m_51, m_52, m_53, m_54, m_55, m_56, m_57, m_58, m_59])), (t0, .inl (K 0, 400, .inl ft))]) [0, 1] rfl
      have hD9 := hD.sub (ws' := [(m0, .inr (12, [m_0, m_1, m_2, m_3, m_4, m_5, m_6, m_7, m_8, m_9, m_10, m_11, .ref t0, .int ta, .int fr, .int to, .int so, .long wo, .int fau, .int bd, m_20, m_21, m_22, m_23, m_24, m_25, m_26, m_27, m_28, m_29, m_30, m_31, m_32, m_33, m_34, m_35, m_36, m_37, m_38, m_39, m_40, m_41, m_42, m_43, m_44, m_45, m_46, m_47, m_48, m_49, m_50, m_51, m_52, m_53, m_54, m_55, m_56, m_57, m_58, m_59])), (t0, .inl (K 0, 400, .inl ft))]) [0, 1] (by decide) rfl
      exact W.vret hx hb hr (fun t ht hW => ⟨⟨((fun _ => 0, fun _ => fun _ => 0, fun _ => fun _ => 0, fun i => match i with | 0 => fr | 1 => to | 2 => so | 3 => fau | _ => bd, fun i => match i with | _ => wo, fun _ => fun _ => none) : Su), rfl, ⟨(show 0 ≤ (fr : Int32).toInt ∧ (fr : Int32).toInt ≤ 400 by omega), (show 0 ≤ (to : Int32).toInt ∧ (to : Int32).toInt ≤ 400 by omega), (show 0 ≤ (so : Int32).toInt ∧ (so : Int32).toInt ≤ 3 by omega), (show 0 ≤ (bd : Int32).toInt ∧ (bd : Int32).toInt ≤ 1 by omega), (show ((0 ≤ (fr : Int32).toInt ∧ (fr : Int32).toInt ≤ (to : Int32).toInt ∧ (to : Int32).toInt ≤ ta.toInt) ∧ ((so : Int32).toInt = 0 ∨ (fr : Int32).toInt < (to : Int32).toInt) ∧ ((so : Int32).toInt ≠ 1 ∨ (fr : Int32).toInt + 1 < (to : Int32).toInt ∨ (wo : Int64).toInt ≤ 26)) by omega), (show ((bd : Int32).toInt = 1 ∨ (bd.toInt = 0 ∧ x.toInt = 1 ∧ to.toInt ≤ (fr : Int32).toInt)) by omega), (show fr.toInt ≤ (fr : Int32).toInt by omega), trivial⟩, (⟨by rw [ht]; exact hP9, hD9⟩ : Wd D A _ t)⟩, hS.F ht⟩) hS.2.2 dX12_must_35
    · have c_86i := i_eq (x := bd.toInt) (y := 0) rfl rfl c_86
      exfalso; omega
  · have c_85i := i_eq (x := bd.toInt) (y := 0) rfl rfl c_85
    refine lv_iload_n hx hb dX12_must_7 rfl (lv_at hl 1 rfl) ?_
    refine lv_if_ne (tgt := 24) hx hb dX12_must_8 (by decide) (fun c_87 => ?_) (fun c_87 => ?_)
    · have c_87i := i_ne (x := x.toInt) (y := 0) rfl rfl c_87
      refine lv_aload_n hx hb dX12_must_24 rfl (lv_at hl 0 rfl) ?_
      refine va_get (ci := 12) (v := .int bd) (C := RX12) (T := TX12) (N := 60) hx hb hts hw12 hown hK hP 0 rfl rfl 19 (by decide) (hts (.fieldLink RX12 239 "SmokeTuneModel" "bad" "Z") (List.mem_cons_of_mem _ (List.mem_append_left _ (List.mem_append_left _ (List.mem_of_getElem? (i := 0) rfl))))) (fun _ h9 => h9) rfl dX12_must_25 ?_
      refine lv_if_ne (tgt := 35) hx hb dX12_must_28 (by decide) (fun c_88 => ?_) (fun c_88 => ?_)
      · have c_88i := i_ne (x := bd.toInt) (y := 0) rfl rfl c_88
        exfalso; omega
      · have c_88i := i_eq (x := bd.toInt) (y := 0) rfl rfl c_88
        refine lv_aload_n hx hb dX12_must_31 rfl (lv_at hl 0 rfl) ?_
        refine kcv (S := Su) (wr := []) (va_runV (As := []) (rest := []) ⟨hx, hb, hml, hown, hts⟩ (v_next l D K m0 m_0 m_1 m_2 m_3 m_4 m_5 m_6 m_7 m_8 m_9 m_10 m_11 t0 ta fr to so wo (.int fau) (.int bd) m_20 m_21 m_22 m_23 m_24 m_25 m_26 m_27 m_28 m_29 m_30 m_31 m_32 m_33 m_34 m_35 m_36 m_37 m_38 m_39 m_40 m_41 m_42 m_43 m_44 m_45 m_46 m_47 m_48 m_49 m_50 m_51 m_52 m_53 m_54 m_55 m_56 m_57 m_58 m_59 ft s.heap.size (by first | omega | decide)) (cwV 0 hts gX12_must_X12_next rfl rfl rfl (by decide +kernel) ⟨Nat.le_of_ble_eq_true rfl, Nat.le_of_ble_eq_true rfl⟩) (mkV hK hN (hP.sub [0, 1] rfl) (hD.sub [0, 1] (by decide) rfl) (ci := 12) (q0 := 0) rfl rfl) rfl rfl hl.1 rfl (lv_room (Nat.le_of_ble_eq_true rfl)) dX12_must_32 ⟨Nat.le_of_ble_eq_true rfl, Nat.le_of_ble_eq_true rfl⟩) hP hD hS hA [0, 1] [] rfl rfl (by decide) (by decide) (fun u_90 H locs hw hP hD hS => ?_)
        have hP : va_P D vwCl [(m0, .inr (12, [m_0, m_1, m_2, m_3, m_4, m_5, m_6, m_7, m_8, m_9, m_10, m_11, .ref t0, .int ta, .int (u_90.2.2.2.1 0), .int (u_90.2.2.2.1 1), .int (u_90.2.2.2.1 2), .long (u_90.2.2.2.2.1 0), .int fau, .int bd, m_20, m_21, m_22, m_23, m_24, m_25, m_26, m_27, m_28, m_29, m_30, m_31, m_32, m_33, m_34, m_35, m_36, m_37, m_38, m_39, m_40, m_41, m_42, m_43, m_44, m_45, m_46, m_47, m_48, m_49, m_50, m_51, m_52, m_53, m_54, m_55, m_56, m_57, m_58, m_59])), (t0, .inl (K 0, 400, .inl ft))] H := hP
        have hD : va_D A [(m0, .inr (12, [m_0, m_1, m_2, m_3, m_4, m_5, m_6, m_7, m_8, m_9, m_10, m_11, .ref t0, .int ta, .int (u_90.2.2.2.1 0), .int (u_90.2.2.2.1 1), .int (u_90.2.2.2.1 2), .long (u_90.2.2.2.2.1 0), .int fau, .int bd, m_20, m_21, m_22, m_23, m_24, m_25, m_26, m_27, m_28, m_29, m_30, m_31, m_32, m_33, m_34, m_35, m_36, m_37, m_38, m_39, m_40, m_41, m_42, m_43, m_44, m_45, m_46, m_47, m_48, m_49, m_50, m_51, m_52, m_53, m_54, m_55, m_56, m_57, m_58, m_59])), (t0, .inl (K 0, 400, .inl ft))] := hD
        obtain ⟨k_91, k_92, k_93, k_94, k_95, -⟩ := hw
        rw [← hQ]
        have hP9 := hP.sub (ws' := [(m0, .inr (12, [m_0, m_1, m_2, m_3, m_4, m_5, m_6, m_7, m_8, m_9, m_10, m_11, .ref t0, .int ta, .int (u_90.2.2.2.1 0), .int (u_90.2.2.2.1 1), .int (u_90.2.2.2.1 2), .long (u_90.2.2.2.2.1 0), .int fau, .int bd, m_20, m_21, m_22, m_23, m_24, m_25, m_26, m_27, m_28, m_29, m_30, m_31, m_32, m_33, m_34, m_35, m_36, m_37, m_38, m_39, m_40, m_41, m_42, m_43, m_44, m_45, m_46, m_47, m_48, m_49, m_50, m_51, m_52, m_53, m_54, m_55, m_56, m_57, m_58, m_59])), (t0, .inl (K 0, 400, .inl ft))]) [0, 1] rfl
        have hD9 := hD.sub (ws' := [(m0, .inr (12, [m_0, m_1, m_2, m_3, m_4, m_5, m_6, m_7, m_8, m_9, m_10, m_11, .ref t0, .int ta, .int (u_90.2.2.2.1 0), .int (u_90.2.2.2.1 1), .int (u_90.2.2.2.1 2), .long (u_90.2.2.2.2.1 0), .int fau, .int bd, m_20, m_21, m_22, m_23, m_24, m_25, m_26, m_27, m_28, m_29, m_30, m_31, m_32, m_33, m_34, m_35, m_36, m_37, m_38, m_39, m_40, m_41, m_42, m_43, m_44, m_45, m_46, m_47, m_48, m_49, m_50, m_51, m_52, m_53, m_54, m_55, m_56, m_57, m_58, m_59])), (t0, .inl (K 0, 400, .inl ft))]) [0, 1] (by decide) rfl
        exact W.vret hx hb hr (fun t ht hW => ⟨⟨((fun _ => 0, fun _ => fun _ => 0, fun _ => fun _ => 0, fun i => match i with | 0 => (u_90.2.2.2.1 0) | 1 => (u_90.2.2.2.1 1) | 2 => (u_90.2.2.2.1 2) | 3 => fau | _ => bd, fun i => match i with | _ => (u_90.2.2.2.2.1 0), fun _ => fun _ => none) : Su), rfl, ⟨(show 0 ≤ ((u_90.2.2.2.1 0) : Int32).toInt ∧ ((u_90.2.2.2.1 0) : Int32).toInt ≤ 400 by omega), (show 0 ≤ ((u_90.2.2.2.1 1) : Int32).toInt ∧ ((u_90.2.2.2.1 1) : Int32).toInt ≤ 400 by omega), (show 0 ≤ ((u_90.2.2.2.1 2) : Int32).toInt ∧ ((u_90.2.2.2.1 2) : Int32).toInt ≤ 3 by omega), (show 0 ≤ (bd : Int32).toInt ∧ (bd : Int32).toInt ≤ 1 by omega), (show ((0 ≤ ((u_90.2.2.2.1 0) : Int32).toInt ∧ ((u_90.2.2.2.1 0) : Int32).toInt ≤ ((u_90.2.2.2.1 1) : Int32).toInt ∧ ((u_90.2.2.2.1 1) : Int32).toInt ≤ ta.toInt) ∧ (((u_90.2.2.2.1 2) : Int32).toInt = 0 ∨ ((u_90.2.2.2.1 0) : Int32).toInt < ((u_90.2.2.2.1 1) : Int32).toInt) ∧ (((u_90.2.2.2.1 2) : Int32).toInt ≠ 1 ∨ ((u_90.2.2.2.1 0) : Int32).toInt + 1 < ((u_90.2.2.2.1 1) : Int32).toInt ∨ ((u_90.2.2.2.2.1 0) : Int64).toInt ≤ 26)) by omega), (show ((bd : Int32).toInt = 1 ∨ (bd.toInt = 0 ∧ x.toInt = 1 ∧ to.toInt ≤ ((u_90.2.2.2.1 0) : Int32).toInt)) by omega), (show fr.toInt ≤ ((u_90.2.2.2.1 0) : Int32).toInt by omega), trivial⟩, (⟨by rw [ht]; exact hP9, hD9⟩ : Wd D A _ t)⟩, hS.F ht⟩) hS.2.2 dX12_must_35
    · have c_87i := i_eq (x := x.toInt) (y := 0) rfl rfl c_87
      refine lv_aload_n hx hb dX12_must_11 rfl (lv_at hl 0 rfl) ?_
      refine lv_iconst (v := 1) hx hb dX12_must_12 (by decide) ?_
      refine va_put (ci := 12) (v := .int 1) (ty := .boolean) (C := RX12) (T := TX12) (N := 60) hx hb hts hw12 tyX12 tyX12_ok nmX12 hown hK hP hD hS 0 rfl rfl 19 (by decide) (hts (.fieldLink RX12 239 "SmokeTuneModel" "bad" "Z") (List.mem_cons_of_mem _ (List.mem_append_left _ (List.mem_append_left _ (List.mem_of_getElem? (i := 0) rfl))))) (fun _ h9 => h9) rfl (by decide +kernel) (by first | rfl | decide) (by first | rfl | decide) (Nat.le_of_ble_eq_true rfl) dX12_must_13 (fun H locs hP hD hS => ?_)
      have hP : va_P D vwCl [(m0, .inr (12, [m_0, m_1, m_2, m_3, m_4, m_5, m_6, m_7, m_8, m_9, m_10, m_11, .ref t0, .int ta, .int fr, .int to, .int so, .long wo, .int fau, .int 1, m_20, m_21, m_22, m_23, m_24, m_25, m_26, m_27, m_28, m_29, m_30, m_31, m_32, m_33, m_34, m_35, m_36, m_37, m_38, m_39, m_40, m_41, m_42, m_43, m_44, m_45, m_46, m_47, m_48, m_49, m_50, m_51, m_52, m_53, m_54, m_55, m_56, m_57, m_58, m_59])), (t0, .inl (K 0, 400, .inl ft))] H := hP
      have hD : va_D A [(m0, .inr (12, [m_0, m_1, m_2, m_3, m_4, m_5, m_6, m_7, m_8, m_9, m_10, m_11, .ref t0, .int ta, .int fr, .int to, .int so, .long wo, .int fau, .int 1, m_20, m_21, m_22, m_23, m_24, m_25, m_26, m_27, m_28, m_29, m_30, m_31, m_32, m_33, m_34, m_35, m_36, m_37, m_38, m_39, m_40, m_41, m_42, m_43, m_44, m_45, m_46, m_47, m_48, m_49, m_50, m_51, m_52, m_53, m_54, m_55, m_56, m_57, m_58, m_59])), (t0, .inl (K 0, 400, .inl ft))] := hD
      refine lv_aload_n hx hb dX12_must_16 rfl (lv_at hl 0 rfl) ?_
      refine lv_aload_n hx hb dX12_must_17 rfl (lv_at hl 0 rfl) ?_
      refine va_get (ci := 12) (v := .int fr) (C := RX12) (T := TX12) (N := 60) hx hb hts hw12 hown hK hP 0 rfl rfl 14 (by decide) (hts (.fieldLink RX12 246 "SmokeTuneModel" "from" "I") (List.mem_cons_of_mem _ (List.mem_append_left _ (List.mem_append_left _ (List.mem_of_getElem? (i := 1) rfl))))) (fun _ h9 => h9) rfl dX12_must_18 ?_
      refine va_put (ci := 12) (v := .int fr) (ty := .int) (C := RX12) (T := TX12) (N := 60) hx hb hts hw12 tyX12 tyX12_ok nmX12 hown hK hP hD hS 0 rfl rfl 18 (by decide) (hts (.fieldLink RX12 38 "SmokeTuneModel" "fault" "I") (List.mem_cons_of_mem _ (List.mem_append_left _ (List.mem_append_left _ (List.mem_of_getElem? (i := 2) rfl))))) (fun _ h9 => h9) rfl (by decide +kernel) (by first | rfl | decide) (by first | rfl | decide) (Nat.le_of_ble_eq_true rfl) dX12_must_21 (fun H locs hP hD hS => ?_)
      have hP : va_P D vwCl [(m0, .inr (12, [m_0, m_1, m_2, m_3, m_4, m_5, m_6, m_7, m_8, m_9, m_10, m_11, .ref t0, .int ta, .int fr, .int to, .int so, .long wo, .int fr, .int 1, m_20, m_21, m_22, m_23, m_24, m_25, m_26, m_27, m_28, m_29, m_30, m_31, m_32, m_33, m_34, m_35, m_36, m_37, m_38, m_39, m_40, m_41, m_42, m_43, m_44, m_45, m_46, m_47, m_48, m_49, m_50, m_51, m_52, m_53, m_54, m_55, m_56, m_57, m_58, m_59])), (t0, .inl (K 0, 400, .inl ft))] H := hP
      have hD : va_D A [(m0, .inr (12, [m_0, m_1, m_2, m_3, m_4, m_5, m_6, m_7, m_8, m_9, m_10, m_11, .ref t0, .int ta, .int fr, .int to, .int so, .long wo, .int fr, .int 1, m_20, m_21, m_22, m_23, m_24, m_25, m_26, m_27, m_28, m_29, m_30, m_31, m_32, m_33, m_34, m_35, m_36, m_37, m_38, m_39, m_40, m_41, m_42, m_43, m_44, m_45, m_46, m_47, m_48, m_49, m_50, m_51, m_52, m_53, m_54, m_55, m_56, m_57, m_58, m_59])), (t0, .inl (K 0, 400, .inl ft))] := hD
      refine lv_aload_n hx hb dX12_must_24 rfl (lv_at hl 0 rfl) ?_
      refine va_get (ci := 12) (v := .int 1) (C := RX12) (T := TX12) (N := 60) hx hb hts hw12 hown hK hP 0 rfl rfl 19 (by decide) (hts (.fieldLink RX12 239 "SmokeTuneModel" "bad" "Z") (List.mem_cons_of_mem _ (List.mem_append_left _ (List.mem_append_left _ (List.mem_of_getElem? (i := 0) rfl))))) (fun _ h9 => h9) rfl dX12_must_25 ?_
      refine lv_if_ne (tgt := 35) hx hb dX12_must_28 (by decide) (fun c_96 => ?_) (fun c_96 => absurd c_96 (by decide))
      rw [← hQ]
      have hP9 := hP.sub (ws' := [(m0, .inr (12, [m_0, m_1, m_2, m_3, m_4, m_5, m_6, m_7, m_8, m_9, m_10, m_11, .ref t0, .int ta, .int fr, .int to, .int so, .long wo, .int fr, .int 1, m_20, m_21, m_22, m_23, m_24, m_25, m_26, m_27, m_28, m_29, m_30, m_31, m_32, m_33, m_34, m_35, m_36, m_37, m_38, m_39, m_40, m_41, m_42, m_43, m_44, m_45, m_46, m_47, m_48, m_49, m_50, m_51, m_52, m_53, m_54, m_55, m_56, m_57, m_58, m_59])), (t0, .inl (K 0, 400, .inl ft))]) [0, 1] rfl
      have hD9 := hD.sub (ws' := [(m0, .inr (12, [m_0, m_1, m_2, m_3, m_4, m_5, m_6, m_7, m_8, m_9, m_10, m_11, .ref t0, .int ta, .int fr, .int to, .int so, .long wo, .int fr, .int 1, m_20, m_21, m_22, m_23, m_24, m_25, m_26, m_27, m_28, m_29, m_30, m_31, m_32, m_33, m_34, m_35, m_36, m_37, m_38, m_39, m_40, m_41, m_42, m_43, m_44, m_45, m_46, m_47, m_48, m_49, m_50, m_51, m_52, m_53, m_54, m_55, m_56, m_57, m_58, m_59])), (t0, .inl (K 0, 400, .inl ft))]) [0, 1] (by decide) rfl
      exact W.vret hx hb hr (fun t ht hW => ⟨⟨((fun _ => 0, fun _ => fun _ => 0, fun _ => fun _ => 0, fun i => match i with | 0 => fr | 1 => to | 2 => so | 3 => fr | _ => 1, fun i => match i with | _ => wo, fun _ => fun _ => none) : Su), rfl, ⟨(show 0 ≤ (fr : Int32).toInt ∧ (fr : Int32).toInt ≤ 400 by omega), (show 0 ≤ (to : Int32).toInt ∧ (to : Int32).toInt ≤ 400 by omega), (show 0 ≤ (so : Int32).toInt ∧ (so : Int32).toInt ≤ 3 by omega), (show 0 ≤ (1 : Int32).toInt ∧ (1 : Int32).toInt ≤ 1 by decide), (show ((0 ≤ (fr : Int32).toInt ∧ (fr : Int32).toInt ≤ (to : Int32).toInt ∧ (to : Int32).toInt ≤ ta.toInt) ∧ ((so : Int32).toInt = 0 ∨ (fr : Int32).toInt < (to : Int32).toInt) ∧ ((so : Int32).toInt ≠ 1 ∨ (fr : Int32).toInt + 1 < (to : Int32).toInt ∨ (wo : Int64).toInt ≤ 26)) by omega), (show (1 = 1 ∨ (bd.toInt = 0 ∧ x.toInt = 1 ∧ to.toInt ≤ (fr : Int32).toInt)) by omega), (show fr.toInt ≤ (fr : Int32).toInt by omega), trivial⟩, (⟨by rw [ht]; exact hP9, hD9⟩ : Wd D A _ t)⟩, hS.F ht⟩) hS.2.2 dX12_must_35
set_option maxHeartbeats 4000000 in
set_option maxRecDepth 100000 in
theorem v_number (l : Launch) (D : va_G) (K : Nat → ClassId) (m0 : Nat) (y : Int64) (z : Int64) (m_0 : Value) (m_1 : Value) (m_2 : Value) (m_3 : Value) (m_4 : Value) (m_5 : Value) (m_6 : Value) (m_7 : Value) (m_8 : Value) (m_9 : Value) (m_10 : Value) (m_11 : Value) (t0 : Nat) (ta : Int32) (fr : Int32) (to : Int32) (so : Int32) (wo : Int64) (fau : Int32) (bd : Int32) (m_20 : Value) (m_21 : Value) (m_22 : Value) (m_23 : Value) (m_24 : Value) (m_25 : Value) (m_26 : Value) (m_27 : Value) (m_28 : Value) (m_29 : Value) (m_30 : Value) (m_31 : Value) (m_32 : Value) (m_33 : Value) (m_34 : Value) (m_35 : Value) (m_36 : Value) (m_37 : Value) (m_38 : Value) (m_39 : Value) (m_40 : Value) (m_41 : Value) (m_42 : Value) (m_43 : Value) (m_44 : Value) (m_45 : Value) (m_46 : Value) (m_47 : Value) (m_48 : Value) (m_49 : Value) (m_50 : Value) (m_51 : Value) (m_52 : Value) (m_53 : Value) (m_54 : Value) (m_55 : Value) (m_56 : Value) (m_57 : Value) (m_58 : Value) (m_59 : Value) (ft : Nat → Int32) (sz : Nat) (ztk : 0 ≤ fr.toInt ∧ fr.toInt ≤ to.toInt ∧ to.toInt ≤ ta.toInt ∧ ta.toInt ≤ 400) (ztk2 : (so.toInt = 0 ∨ fr.toInt < to.toInt)) (ztk3 : (so.toInt ≠ 1 ∨ fr.toInt + 1 < to.toInt ∨ wo.toInt ≤ 26)) (zso : 0 ≤ so.toInt ∧ so.toInt ≤ 3) (zbd : 0 ≤ bd.toInt ∧ bd.toInt ≤ 1) (zyz : -1000000 ≤ y.toInt ∧ z.toInt ≤ 1000000) : Met l yX12_number wsX12_number ({ frames := 3, cells := 0, slots := 0, locals := 61 }) (va_Pc [.ref m0, .long y, .long z] (Pre D K [(m0, .inr (12, [m_0, m_1, m_2, m_3, m_4, m_5, m_6, m_7, m_8, m_9, m_10, m_11, .ref t0, .int ta, .int fr, .int to, .int so, .long wo, .int fau, .int bd, m_20, m_21, m_22, m_23, m_24, m_25, m_26, m_27, m_28, m_29, m_30, m_31, m_32, m_33, m_34, m_35, m_36, m_37, m_38, m_39, m_40, m_41, m_42, m_43, m_44, m_45, m_46, m_47, m_48, m_49, m_50, m_51, m_52, m_53, m_54, m_55, m_56, m_57, m_58, m_59])), (t0, .inl (K 0, 400, .inl ft))] sz)) (va_Qi (S := Su) (fun (r : Int32) (u : Su) => (0 ≤ (u.2.2.2.1 0).toInt ∧ (u.2.2.2.1 0).toInt ≤ 400) ∧ (0 ≤ (u.2.2.2.1 1).toInt ∧ (u.2.2.2.1 1).toInt ≤ 400) ∧ (0 ≤ (u.2.2.2.1 2).toInt ∧ (u.2.2.2.1 2).toInt ≤ 3) ∧ (0 ≤ (u.2.2.2.1 4).toInt ∧ (u.2.2.2.1 4).toInt ≤ 1) ∧ (((0 ≤ (u.2.2.2.1 0).toInt ∧ (u.2.2.2.1 0).toInt ≤ (u.2.2.2.1 1).toInt ∧ (u.2.2.2.1 1).toInt ≤ ta.toInt) ∧ ((u.2.2.2.1 2).toInt = 0 ∨ (u.2.2.2.1 0).toInt < (u.2.2.2.1 1).toInt) ∧ ((u.2.2.2.1 2).toInt ≠ 1 ∨ (u.2.2.2.1 0).toInt + 1 < (u.2.2.2.1 1).toInt ∨ (u.2.2.2.2.1 0).toInt ≤ 26))) ∧ (((u.2.2.2.1 4).toInt = 1 ∨ (bd.toInt = 0 ∧ so.toInt = 2 ∧ to.toInt ≤ (u.2.2.2.1 0).toInt))) ∧ (fr.toInt ≤ (u.2.2.2.1 0).toInt) ∧ (((u.2.2.2.1 4).toInt = 1 ∨ (y.toInt ≤ r.toInt ∧ r.toInt ≤ z.toInt))) ∧ True) (fun u t => Wd D (va_A [(m0, .inr (12, [m_0, m_1, m_2, m_3, m_4, m_5, m_6, m_7, m_8, m_9, m_10, m_11, .ref t0, .int ta, .int fr, .int to, .int so, .long wo, .int fau, .int bd, m_20, m_21, m_22, m_23, m_24, m_25, m_26, m_27, m_28, m_29, m_30, m_31, m_32, m_33, m_34, m_35, m_36, m_37, m_38, m_39, m_40, m_41, m_42, m_43, m_44, m_45, m_46, m_47, m_48, m_49, m_50, m_51, m_52, m_53, m_54, m_55, m_56, m_57, m_58, m_59])), (t0, .inl (K 0, 400, .inl ft))] sz) ((fun u => [(m0, .inr (12, [m_0, m_1, m_2, m_3, m_4, m_5, m_6, m_7, m_8, m_9, m_10, m_11, .ref t0, .int ta, .int (u.2.2.2.1 0), .int (u.2.2.2.1 1), .int (u.2.2.2.1 2), .long (u.2.2.2.2.1 0), .int (u.2.2.2.1 3), .int (u.2.2.2.1 4), m_20, m_21, m_22, m_23, m_24, m_25, m_26, m_27, m_28, m_29, m_30, m_31, m_32, m_33, m_34, m_35, m_36, m_37, m_38, m_39, m_40, m_41, m_42, m_43, m_44, m_45, m_46, m_47, m_48, m_49, m_50, m_51, m_52, m_53, m_54, m_55, m_56, m_57, m_58, m_59])), (t0, .inl (K 0, 400, .inl ft))]) u) t) (va_A [(m0, .inr (12, [m_0, m_1, m_2, m_3, m_4, m_5, m_6, m_7, m_8, m_9, m_10, m_11, .ref t0, .int ta, .int fr, .int to, .int so, .long wo, .int fau, .int bd, m_20, m_21, m_22, m_23, m_24, m_25, m_26, m_27, m_28, m_29, m_30, m_31, m_32, m_33, m_34, m_35, m_36, m_37, m_38, m_39, m_40, m_41, m_42, m_43, m_44, m_45, m_46, m_47, m_48, m_49, m_50, m_51, m_52, m_53, m_54, m_55, m_56, m_57, m_58, m_59])), (t0, .inl (K 0, 400, .inl ft))] sz)) 0 0 (va_A [(m0, .inr (12, [m_0, m_1, m_2, m_3, m_4, m_5, m_6, m_7, m_8, m_9, m_10, m_11, .ref t0, .int ta, .int fr, .int to, .int so, .long wo, .int fau, .int bd, m_20, m_21, m_22, m_23, m_24, m_25, m_26, m_27, m_28, m_29, m_30, m_31, m_32, m_33, m_34, m_35, m_36, m_37, m_38, m_39, m_40, m_41, m_42, m_43, m_44, m_45, m_46, m_47, m_48, m_49, m_50, m_51, m_52, m_53, m_54, m_55, m_56, m_57, m_58, m_59])), (t0, .inl (K 0, 400, .inl ft))] sz) := by
  refine Met.ofW (cc := cX12_number) (maxL := 6) (ret := (some .int)) (by decide) rfl ?_
  intro p e s m args below meth c s₁ B hml hv
  obtain ⟨rfl, hsz, hP, hK, hD0, hN⟩ := hv
  have hx := B.exec
  have hb := B.bytes
  have hr := B.returns
  have hts := atoms_spec (ws := wsX12_number) B.pre
  have hown : s.vm.findClass RX12 = some m.cls := findClass_of_methodNamed B.named
  have hlocks := B.notSynchronized
  subst hsz
  have hD := hD0.self (sz := s.heap.size)
  generalize hAe : va_A [(m0, .inr (12, [m_0, m_1, m_2, m_3, m_4, m_5, m_6, m_7, m_8, m_9, m_10, m_11, .ref t0, .int ta, .int fr, .int to, .int so, .long wo, .int fau, .int bd, m_20, m_21, m_22, m_23, m_24, m_25, m_26, m_27, m_28, m_29, m_30, m_31, m_32, m_33, m_34, m_35, m_36, m_37, m_38, m_39, m_40, m_41, m_42, m_43, m_44, m_45, m_46, m_47, m_48, m_49, m_50, m_51, m_52, m_53, m_54, m_55, m_56, m_57, m_58, m_59])), (t0, .inl (K 0, 400, .inl ft))] s.heap.size = A at hD ⊢
  have hA : ∀ q : Nat, s.heap.size ≤ q → A q := fun q h => by rw [← hAe]; exact Or.inr h
  have hS : va_S A s.heap s.heap [] := va_S.rf
  have hP : va_P D vwCl [(m0, .inr (12, [m_0, m_1, m_2, m_3, m_4, m_5, m_6, m_7, m_8, m_9, m_10, m_11, .ref t0, .int ta, .int fr, .int to, .int so, .long wo, .int fau, .int bd, m_20, m_21, m_22, m_23, m_24, m_25, m_26, m_27, m_28, m_29, m_30, m_31, m_32, m_33, m_34, m_35, m_36, m_37, m_38, m_39, m_40, m_41, m_42, m_43, m_44, m_45, m_46, m_47, m_48, m_49, m_50, m_51, m_52, m_53, m_54, m_55, m_56, m_57, m_58, m_59])), (t0, .inl (K 0, 400, .inl ft))] s.heap := hP
  have hl := lv_entry [.ref m0, .long y, .long z] (n := 6) (Nat.le_of_ble_eq_true rfl)
  rw [lg_entry_eq]
  generalize (lg_sl [.ref m0, .long y, .long z] ++ List.replicate (6 - (lg_sl [.ref m0, .long y, .long z]).length) Slot.unset).toArray = ls at hl ⊢
  have hl : lv_has ls 6 [(0, .ref m0), (1, .long y), (3, .long z)] := hl
  have hw12 : ∀ w ∈ wsX120, w ∈ wsX12_number := fun w h => (List.mem_cons_of_mem _ (List.mem_append_right _ h))
  generalize hQ : MQ below _ _ s _ _ _ = Q
  refine lv_aload_n hx hb dX12_number_0 rfl (lv_at hl 0 rfl) ?_
  refine va_get (ci := 12) (v := .long wo) (C := RX12) (T := TX12) (N := 60) hx hb hts hw12 hown hK hP 0 rfl rfl 17 (by decide) (hts (.fieldLink RX12 249 "SmokeTuneModel" "worth" "J") (List.mem_cons_of_mem _ (List.mem_append_left _ (List.mem_append_left _ (List.mem_of_getElem? (i := 0) rfl))))) (fun _ h9 => h9) rfl dX12_number_1 ?_
  refine lv_l2i hx hb dX12_number_4 rfl ?_
  refine lv_topi (fun x_137 ex_137 => ?_)
  refine lv_istore (lv' := [(5, .int x_137), (0, .ref m0), (1, .long y), (3, .long z)]) hx hb dX12_number_5 hl (by decide) rfl (fun ls hl => ?_)
  refine lv_aload_n hx hb dX12_number_7 rfl (lv_at hl 1 rfl) ?_
  refine lv_aload_n hx hb dX12_number_8 rfl (lv_at hl 1 rfl) ?_
  refine va_get (ci := 12) (v := .int so) (C := RX12) (T := TX12) (N := 60) hx hb hts hw12 hown hK hP 0 rfl rfl 16 (by decide) (hts (.fieldLink RX12 259 "SmokeTuneModel" "sort" "I") (List.mem_cons_of_mem _ (List.mem_append_left _ (List.mem_append_left _ (List.mem_of_getElem? (i := 1) rfl))))) (fun _ h9 => h9) rfl dX12_number_9 ?_
  refine lv_iconst (v := 2) hx hb dX12_number_12 (by decide) ?_
  refine lv_icmp_ne (tgt := 32) hx hb dX12_number_13 (by decide) (fun c_138 => ?_) (fun c_138 => ?_)
  · have c_138i := i_ne (x := so.toInt) (y := 2) rfl rfl c_138
    refine lv_iconst (v := 0) hx hb dX12_number_32 (by decide) ?_
    have hz_z_139 : (0 : Int32).toInt = 0 := rfl
    refine kcv (S := Su) (wr := []) (va_runV (As := [.int 0]) (rest := []) ⟨hx, hb, hml, hown, hts⟩ (v_must l D K m0 0 m_0 m_1 m_2 m_3 m_4 m_5 m_6 m_7 m_8 m_9 m_10 m_11 t0 ta fr to so wo fau bd m_20 m_21 m_22 m_23 m_24 m_25 m_26 m_27 m_28 m_29 m_30 m_31 m_32 m_33 m_34 m_35 m_36 m_37 m_38 m_39 m_40 m_41 m_42 m_43 m_44 m_45 m_46 m_47 m_48 m_49 m_50 m_51 m_52 m_53 m_54 m_55 m_56 m_57 m_58 m_59 ft s.heap.size (by first | omega | decide) (by first | omega | decide) (by first | omega | decide) (by first | omega | decide) (by first | omega | decide) (by first | omega | decide)) (cwV 1 hts gX12_number_X12_must rfl rfl rfl (by decide +kernel) ⟨Nat.le_of_ble_eq_true rfl, Nat.le_of_ble_eq_true rfl⟩) (mkV hK hN (hP.sub [0, 1] rfl) (hD.sub [0, 1] (by decide) rfl) (ci := 12) (q0 := 0) rfl rfl) rfl rfl hl.1 rfl (lv_room (Nat.le_of_ble_eq_true rfl)) dX12_number_33 ⟨Nat.le_of_ble_eq_true rfl, Nat.le_of_ble_eq_true rfl⟩) hP hD hS hA [0, 1] [] rfl rfl (by decide) (by decide) (fun u_141 H locs hw hP hD hS => ?_)
    have hP : va_P D vwCl [(m0, .inr (12, [m_0, m_1, m_2, m_3, m_4, m_5, m_6, m_7, m_8, m_9, m_10, m_11, .ref t0, .int ta, .int (u_141.2.2.2.1 0), .int (u_141.2.2.2.1 1), .int (u_141.2.2.2.1 2), .long (u_141.2.2.2.2.1 0), .int (u_141.2.2.2.1 3), .int (u_141.2.2.2.1 4), m_20, m_21, m_22, m_23, m_24, m_25, m_26, m_27, m_28, m_29, m_30, m_31, m_32, m_33, m_34, m_35, m_36, m_37, m_38, m_39, m_40, m_41, m_42, m_43, m_44, m_45, m_46, m_47, m_48, m_49, m_50, m_51, m_52, m_53, m_54, m_55, m_56, m_57, m_58, m_59])), (t0, .inl (K 0, 400, .inl ft))] H := hP
    have hD : va_D A [(m0, .inr (12, [m_0, m_1, m_2, m_3, m_4, m_5, m_6, m_7, m_8, m_9, m_10, m_11, .ref t0, .int ta, .int (u_141.2.2.2.1 0), .int (u_141.2.2.2.1 1), .int (u_141.2.2.2.1 2), .long (u_141.2.2.2.2.1 0), .int (u_141.2.2.2.1 3), .int (u_141.2.2.2.1 4), m_20, m_21, m_22, m_23, m_24, m_25, m_26, m_27, m_28, m_29, m_30, m_31, m_32, m_33, m_34, m_35, m_36, m_37, m_38, m_39, m_40, m_41, m_42, m_43, m_44, m_45, m_46, m_47, m_48, m_49, m_50, m_51, m_52, m_53, m_54, m_55, m_56, m_57, m_58, m_59])), (t0, .inl (K 0, 400, .inl ft))] := hD
    obtain ⟨k_142, k_143, k_144, k_145, k_146, k_147, k_148, -⟩ := hw
    refine lv_iload hx hb dX12_number_36 (lv_at hl 0 rfl) ?_
    rw [← hQ]
    have hP9 := hP.sub (ws' := [(m0, .inr (12, [m_0, m_1, m_2, m_3, m_4, m_5, m_6, m_7, m_8, m_9, m_10, m_11, .ref t0, .int ta, .int (u_141.2.2.2.1 0), .int (u_141.2.2.2.1 1), .int (u_141.2.2.2.1 2), .long (u_141.2.2.2.2.1 0), .int (u_141.2.2.2.1 3), .int (u_141.2.2.2.1 4), m_20, m_21, m_22, m_23, m_24, m_25, m_26, m_27, m_28, m_29, m_30, m_31, m_32, m_33, m_34, m_35, m_36, m_37, m_38, m_39, m_40, m_41, m_42, m_43, m_44, m_45, m_46, m_47, m_48, m_49, m_50, m_51, m_52, m_53, m_54, m_55, m_56, m_57, m_58, m_59])), (t0, .inl (K 0, 400, .inl ft))]) [0, 1] rfl
    have hD9 := hD.sub (ws' := [(m0, .inr (12, [m_0, m_1, m_2, m_3, m_4, m_5, m_6, m_7, m_8, m_9, m_10, m_11, .ref t0, .int ta, .int (u_141.2.2.2.1 0), .int (u_141.2.2.2.1 1), .int (u_141.2.2.2.1 2), .long (u_141.2.2.2.2.1 0), .int (u_141.2.2.2.1 3), .int (u_141.2.2.2.1 4), m_20, m_21, m_22, m_23, m_24, m_25, m_26, m_27, m_28, m_29, m_30, m_31, m_32, m_33, m_34, m_35, m_36, m_37, m_38, m_39, m_40, m_41, m_42, m_43, m_44, m_45, m_46, m_47, m_48, m_49, m_50, m_51, m_52, m_53, m_54, m_55, m_56, m_57, m_58, m_59])), (t0, .inl (K 0, 400, .inl ft))]) [0, 1] (by decide) rfl
    exact W.iret (v := x_137) hx hb hr (fun t ht hW => ⟨⟨x_137, ((fun _ => 0, fun _ => fun _ => 0, fun _ => fun _ => 0, fun i => match i with | 0 => (u_141.2.2.2.1 0) | 1 => (u_141.2.2.2.1 1) | 2 => (u_141.2.2.2.1 2) | 3 => (u_141.2.2.2.1 3) | _ => (u_141.2.2.2.1 4), fun i => match i with | _ => (u_141.2.2.2.2.1 0), fun _ => fun _ => none) : Su), rfl, ⟨(show 0 ≤ ((u_141.2.2.2.1 0) : Int32).toInt ∧ ((u_141.2.2.2.1 0) : Int32).toInt ≤ 400 by omega), (show 0 ≤ ((u_141.2.2.2.1 1) : Int32).toInt ∧ ((u_141.2.2.2.1 1) : Int32).toInt ≤ 400 by omega), (show 0 ≤ ((u_141.2.2.2.1 2) : Int32).toInt ∧ ((u_141.2.2.2.1 2) : Int32).toInt ≤ 3 by omega), (show 0 ≤ ((u_141.2.2.2.1 4) : Int32).toInt ∧ ((u_141.2.2.2.1 4) : Int32).toInt ≤ 1 by omega), (show ((0 ≤ ((u_141.2.2.2.1 0) : Int32).toInt ∧ ((u_141.2.2.2.1 0) : Int32).toInt ≤ ((u_141.2.2.2.1 1) : Int32).toInt ∧ ((u_141.2.2.2.1 1) : Int32).toInt ≤ ta.toInt) ∧ (((u_141.2.2.2.1 2) : Int32).toInt = 0 ∨ ((u_141.2.2.2.1 0) : Int32).toInt < ((u_141.2.2.2.1 1) : Int32).toInt) ∧ (((u_141.2.2.2.1 2) : Int32).toInt ≠ 1 ∨ ((u_141.2.2.2.1 0) : Int32).toInt + 1 < ((u_141.2.2.2.1 1) : Int32).toInt ∨ ((u_141.2.2.2.2.1 0) : Int64).toInt ≤ 26)) by omega), (show (((u_141.2.2.2.1 4) : Int32).toInt = 1 ∨ (bd.toInt = 0 ∧ so.toInt = 2 ∧ to.toInt ≤ ((u_141.2.2.2.1 0) : Int32).toInt)) by omega), (show fr.toInt ≤ ((u_141.2.2.2.1 0) : Int32).toInt by omega), (show (((u_141.2.2.2.1 4) : Int32).toInt = 1 ∨ (y.toInt ≤ (x_137 : Int32).toInt ∧ (x_137 : Int32).toInt ≤ z.toInt)) by first | omega | (have q9 : x_137.toInt = wo.toInt := (by rw [ex_137]; exact l_nar rfl (by omega)); omega)), trivial⟩, (⟨by rw [ht]; exact hP9, hD9⟩ : Wd D A _ t)⟩, hS.F ht⟩) hS.2.2 dX12_number_38
  · have c_138i := i_eq (x := so.toInt) (y := 2) rfl rfl c_138
    refine lv_aload_n hx hb dX12_number_16 rfl (lv_at hl 1 rfl) ?_
    refine va_get (ci := 12) (v := .long wo) (C := RX12) (T := TX12) (N := 60) hx hb hts hw12 hown hK hP 0 rfl rfl 17 (by decide) (hts (.fieldLink RX12 249 "SmokeTuneModel" "worth" "J") (List.mem_cons_of_mem _ (List.mem_append_left _ (List.mem_append_left _ (List.mem_of_getElem? (i := 0) rfl))))) (fun _ h9 => h9) rfl dX12_number_17 ?_
    refine lv_lload_n hx hb dX12_number_20 rfl (lv_at hl 2 rfl) ?_
    refine lv_lload_n hx hb dX12_number_21 rfl (lv_at hl 3 rfl) ?_
    refine pci (va_runS (As := [.long wo, .long y, .long z]) (rest := [.ref m0]) ⟨hx, hb, hml, hown, hts⟩ (v_in l D K wo.toInt y.toInt z.toInt wo y z s.heap.size rfl rfl rfl) (va_cwS 3 hts gX12_number_X12_in rfl rfl rfl (by decide +kernel) ⟨Nat.le_of_ble_eq_true rfl, Nat.le_of_ble_eq_true rfl⟩) (mkS hK hN (va_P.nil) (va_D.nil (A := fun _ => True))) rfl rfl hl.1 rfl (lv_room (Nat.le_of_ble_eq_true rfl)) dX12_number_22 ⟨Nat.le_of_ble_eq_true rfl, Nat.le_of_ble_eq_true rfl⟩) (fun r_149 hw => ?_)
    obtain ⟨hw, -⟩ := hw
    rcases hw with ⟨rfl, h_150, h_151⟩ | ⟨rfl, h_152⟩
    · refine lv_if_eq (tgt := 32) hx hb dX12_number_25 (by decide) (fun c_153 => absurd c_153 (by decide)) (fun c_153 => ?_)
      refine lv_iconst (v := 1) hx hb dX12_number_28 (by decide) ?_
      refine lv_goto (tgt := 33) hx hb dX12_number_29 (by decide) ?_
      have hz_z_154 : (1 : Int32).toInt = 1 := rfl
      refine kcv (S := Su) (wr := []) (va_runV (As := [.int 1]) (rest := []) ⟨hx, hb, hml, hown, hts⟩ (v_must l D K m0 1 m_0 m_1 m_2 m_3 m_4 m_5 m_6 m_7 m_8 m_9 m_10 m_11 t0 ta fr to so wo fau bd m_20 m_21 m_22 m_23 m_24 m_25 m_26 m_27 m_28 m_29 m_30 m_31 m_32 m_33 m_34 m_35 m_36 m_37 m_38 m_39 m_40 m_41 m_42 m_43 m_44 m_45 m_46 m_47 m_48 m_49 m_50 m_51 m_52 m_53 m_54 m_55 m_56 m_57 m_58 m_59 ft s.heap.size (by first | omega | decide) (by first | omega | decide) (by first | omega | decide) (by first | omega | decide) (by first | omega | decide) (by first | omega | decide)) (cwV 1 hts gX12_number_X12_must rfl rfl rfl (by decide +kernel) ⟨Nat.le_of_ble_eq_true rfl, Nat.le_of_ble_eq_true rfl⟩) (mkV hK hN (hP.sub [0, 1] rfl) (hD.sub [0, 1] (by decide) rfl) (ci := 12) (q0 := 0) rfl rfl) rfl rfl hl.1 rfl (lv_room (Nat.le_of_ble_eq_true rfl)) dX12_number_33 ⟨Nat.le_of_ble_eq_true rfl, Nat.le_of_ble_eq_true rfl⟩) hP hD hS hA [0, 1] [] rfl rfl (by decide) (by decide) (fun u_156 H locs hw hP hD hS => ?_)
      have hP : va_P D vwCl [(m0, .inr (12, [m_0, m_1, m_2, m_3, m_4, m_5, m_6, m_7, m_8, m_9, m_10, m_11, .ref t0, .int ta, .int (u_156.2.2.2.1 0), .int (u_156.2.2.2.1 1), .int (u_156.2.2.2.1 2), .long (u_156.2.2.2.2.1 0), .int (u_156.2.2.2.1 3), .int (u_156.2.2.2.1 4), m_20, m_21, m_22, m_23, m_24, m_25, m_26, m_27, m_28, m_29, m_30, m_31, m_32, m_33, m_34, m_35, m_36, m_37, m_38, m_39, m_40, m_41, m_42, m_43, m_44, m_45, m_46, m_47, m_48, m_49, m_50, m_51, m_52, m_53, m_54, m_55, m_56, m_57, m_58, m_59])), (t0, .inl (K 0, 400, .inl ft))] H := hP
      have hD : va_D A [(m0, .inr (12, [m_0, m_1, m_2, m_3, m_4, m_5, m_6, m_7, m_8, m_9, m_10, m_11, .ref t0, .int ta, .int (u_156.2.2.2.1 0), .int (u_156.2.2.2.1 1), .int (u_156.2.2.2.1 2), .long (u_156.2.2.2.2.1 0), .int (u_156.2.2.2.1 3), .int (u_156.2.2.2.1 4), m_20, m_21, m_22, m_23, m_24, m_25, m_26, m_27, m_28, m_29, m_30, m_31, m_32, m_33, m_34, m_35, m_36, m_37, m_38, m_39, m_40, m_41, m_42, m_43, m_44, m_45, m_46, m_47, m_48, m_49, m_50, m_51, m_52, m_53, m_54, m_55, m_56, m_57, m_58, m_59])), (t0, .inl (K 0, 400, .inl ft))] := hD
      obtain ⟨k_157, k_158, k_159, k_160, k_161, k_162, k_163, -⟩ := hw
      refine lv_iload hx hb dX12_number_36 (lv_at hl 0 rfl) ?_
      rw [← hQ]
      have hP9 := hP.sub (ws' := [(m0, .inr (12, [m_0, m_1, m_2, m_3, m_4, m_5, m_6, m_7, m_8, m_9, m_10, m_11, .ref t0, .int ta, .int (u_156.2.2.2.1 0), .int (u_156.2.2.2.1 1), .int (u_156.2.2.2.1 2), .long (u_156.2.2.2.2.1 0), .int (u_156.2.2.2.1 3), .int (u_156.2.2.2.1 4), m_20, m_21, m_22, m_23, m_24, m_25, m_26, m_27, m_28, m_29, m_30, m_31, m_32, m_33, m_34, m_35, m_36, m_37, m_38, m_39, m_40, m_41, m_42, m_43, m_44, m_45, m_46, m_47, m_48, m_49, m_50, m_51, m_52, m_53, m_54, m_55, m_56, m_57, m_58, m_59])), (t0, .inl (K 0, 400, .inl ft))]) [0, 1] rfl
      have hD9 := hD.sub (ws' := [(m0, .inr (12, [m_0, m_1, m_2, m_3, m_4, m_5, m_6, m_7, m_8, m_9, m_10, m_11, .ref t0, .int ta, .int (u_156.2.2.2.1 0), .int (u_156.2.2.2.1 1), .int (u_156.2.2.2.1 2), .long (u_156.2.2.2.2.1 0), .int (u_156.2.2.2.1 3), .int (u_156.2.2.2.1 4), m_20, m_21, m_22, m_23, m_24, m_25, m_26, m_27, m_28, m_29, m_30, m_31, m_32, m_33, m_34, m_35, m_36, m_37, m_38, m_39, m_40, m_41, m_42, m_43, m_44, m_45, m_46, m_47, m_48, m_49, m_50, m_51, m_52, m_53, m_54, m_55, m_56, m_57, m_58, m_59])), (t0, .inl (K 0, 400, .inl ft))]) [0, 1] (by decide) rfl
      exact W.iret (v := x_137) hx hb hr (fun t ht hW => ⟨⟨x_137, ((fun _ => 0, fun _ => fun _ => 0, fun _ => fun _ => 0, fun i => match i with | 0 => (u_156.2.2.2.1 0) | 1 => (u_156.2.2.2.1 1) | 2 => (u_156.2.2.2.1 2) | 3 => (u_156.2.2.2.1 3) | _ => (u_156.2.2.2.1 4), fun i => match i with | _ => (u_156.2.2.2.2.1 0), fun _ => fun _ => none) : Su), rfl, ⟨(show 0 ≤ ((u_156.2.2.2.1 0) : Int32).toInt ∧ ((u_156.2.2.2.1 0) : Int32).toInt ≤ 400 by omega), (show 0 ≤ ((u_156.2.2.2.1 1) : Int32).toInt ∧ ((u_156.2.2.2.1 1) : Int32).toInt ≤ 400 by omega), (show 0 ≤ ((u_156.2.2.2.1 2) : Int32).toInt ∧ ((u_156.2.2.2.1 2) : Int32).toInt ≤ 3 by omega), (show 0 ≤ ((u_156.2.2.2.1 4) : Int32).toInt ∧ ((u_156.2.2.2.1 4) : Int32).toInt ≤ 1 by omega), (show ((0 ≤ ((u_156.2.2.2.1 0) : Int32).toInt ∧ ((u_156.2.2.2.1 0) : Int32).toInt ≤ ((u_156.2.2.2.1 1) : Int32).toInt ∧ ((u_156.2.2.2.1 1) : Int32).toInt ≤ ta.toInt) ∧ (((u_156.2.2.2.1 2) : Int32).toInt = 0 ∨ ((u_156.2.2.2.1 0) : Int32).toInt < ((u_156.2.2.2.1 1) : Int32).toInt) ∧ (((u_156.2.2.2.1 2) : Int32).toInt ≠ 1 ∨ ((u_156.2.2.2.1 0) : Int32).toInt + 1 < ((u_156.2.2.2.1 1) : Int32).toInt ∨ ((u_156.2.2.2.2.1 0) : Int64).toInt ≤ 26)) by omega), (show (((u_156.2.2.2.1 4) : Int32).toInt = 1 ∨ (bd.toInt = 0 ∧ so.toInt = 2 ∧ to.toInt ≤ ((u_156.2.2.2.1 0) : Int32).toInt)) by omega), (show fr.toInt ≤ ((u_156.2.2.2.1 0) : Int32).toInt by omega), (show (((u_156.2.2.2.1 4) : Int32).toInt = 1 ∨ (y.toInt ≤ (x_137 : Int32).toInt ∧ (x_137 : Int32).toInt ≤ z.toInt)) by first | omega | (have q9 : x_137.toInt = wo.toInt := (by rw [ex_137]; exact l_nar rfl (by omega)); omega)), trivial⟩, (⟨by rw [ht]; exact hP9, hD9⟩ : Wd D A _ t)⟩, hS.F ht⟩) hS.2.2 dX12_number_38
    · refine lv_if_eq (tgt := 32) hx hb dX12_number_25 (by decide) (fun c_164 => ?_) (fun c_164 => absurd (by decide) c_164)
      refine lv_iconst (v := 0) hx hb dX12_number_32 (by decide) ?_
      have hz_z_165 : (0 : Int32).toInt = 0 := rfl
      refine kcv (S := Su) (wr := []) (va_runV (As := [.int 0]) (rest := []) ⟨hx, hb, hml, hown, hts⟩ (v_must l D K m0 0 m_0 m_1 m_2 m_3 m_4 m_5 m_6 m_7 m_8 m_9 m_10 m_11 t0 ta fr to so wo fau bd m_20 m_21 m_22 m_23 m_24 m_25 m_26 m_27 m_28 m_29 m_30 m_31 m_32 m_33 m_34 m_35 m_36 m_37 m_38 m_39 m_40 m_41 m_42 m_43 m_44 m_45 m_46 m_47 m_48 m_49 m_50 m_51 m_52 m_53 m_54 m_55 m_56 m_57 m_58 m_59 ft s.heap.size (by first | omega | decide) (by first | omega | decide) (by first | omega | decide) (by first | omega | decide) (by first | omega | decide) (by first | omega | decide)) (cwV 1 hts gX12_number_X12_must rfl rfl rfl (by decide +kernel) ⟨Nat.le_of_ble_eq_true rfl, Nat.le_of_ble_eq_true rfl⟩) (mkV hK hN (hP.sub [0, 1] rfl) (hD.sub [0, 1] (by decide) rfl) (ci := 12) (q0 := 0) rfl rfl) rfl rfl hl.1 rfl (lv_room (Nat.le_of_ble_eq_true rfl)) dX12_number_33 ⟨Nat.le_of_ble_eq_true rfl, Nat.le_of_ble_eq_true rfl⟩) hP hD hS hA [0, 1] [] rfl rfl (by decide) (by decide) (fun u_167 H locs hw hP hD hS => ?_)
      have hP : va_P D vwCl [(m0, .inr (12, [m_0, m_1, m_2, m_3, m_4, m_5, m_6, m_7, m_8, m_9, m_10, m_11, .ref t0, .int ta, .int (u_167.2.2.2.1 0), .int (u_167.2.2.2.1 1), .int (u_167.2.2.2.1 2), .long (u_167.2.2.2.2.1 0), .int (u_167.2.2.2.1 3), .int (u_167.2.2.2.1 4), m_20, m_21, m_22, m_23, m_24, m_25, m_26, m_27, m_28, m_29, m_30, m_31, m_32, m_33, m_34, m_35, m_36, m_37, m_38, m_39, m_40, m_41, m_42, m_43, m_44, m_45, m_46, m_47, m_48, m_49, m_50, m_51, m_52, m_53, m_54, m_55, m_56, m_57, m_58, m_59])), (t0, .inl (K 0, 400, .inl ft))] H := hP
      have hD : va_D A [(m0, .inr (12, [m_0, m_1, m_2, m_3, m_4, m_5, m_6, m_7, m_8, m_9, m_10, m_11, .ref t0, .int ta, .int (u_167.2.2.2.1 0), .int (u_167.2.2.2.1 1), .int (u_167.2.2.2.1 2), .long (u_167.2.2.2.2.1 0), .int (u_167.2.2.2.1 3), .int (u_167.2.2.2.1 4), m_20, m_21, m_22, m_23, m_24, m_25, m_26, m_27, m_28, m_29, m_30, m_31, m_32, m_33, m_34, m_35, m_36, m_37, m_38, m_39, m_40, m_41, m_42, m_43, m_44, m_45, m_46, m_47, m_48, m_49, m_50, m_51, m_52, m_53, m_54, m_55, m_56, m_57, m_58, m_59])), (t0, .inl (K 0, 400, .inl ft))] := hD
      obtain ⟨k_168, k_169, k_170, k_171, k_172, k_173, k_174, -⟩ := hw
      refine lv_iload hx hb dX12_number_36 (lv_at hl 0 rfl) ?_
      rw [← hQ]
      have hP9 := hP.sub (ws' := [(m0, .inr (12, [m_0, m_1, m_2, m_3, m_4, m_5, m_6, m_7, m_8, m_9, m_10, m_11, .ref t0, .int ta, .int (u_167.2.2.2.1 0), .int (u_167.2.2.2.1 1), .int (u_167.2.2.2.1 2), .long (u_167.2.2.2.2.1 0), .int (u_167.2.2.2.1 3), .int (u_167.2.2.2.1 4), m_20, m_21, m_22, m_23, m_24, m_25, m_26, m_27, m_28, m_29, m_30, m_31, m_32, m_33, m_34, m_35, m_36, m_37, m_38, m_39, m_40, m_41, m_42, m_43, m_44, m_45, m_46, m_47, m_48, m_49, m_50, m_51, m_52, m_53, m_54, m_55, m_56, m_57, m_58, m_59])), (t0, .inl (K 0, 400, .inl ft))]) [0, 1] rfl
      have hD9 := hD.sub (ws' := [(m0, .inr (12, [m_0, m_1, m_2, m_3, m_4, m_5, m_6, m_7, m_8, m_9, m_10, m_11, .ref t0, .int ta, .int (u_167.2.2.2.1 0), .int (u_167.2.2.2.1 1), .int (u_167.2.2.2.1 2), .long (u_167.2.2.2.2.1 0), .int (u_167.2.2.2.1 3), .int (u_167.2.2.2.1 4), m_20, m_21, m_22, m_23, m_24, m_25, m_26, m_27, m_28, m_29, m_30, m_31, m_32, m_33, m_34, m_35, m_36, m_37, m_38, m_39, m_40, m_41, m_42, m_43, m_44, m_45, m_46, m_47, m_48, m_49, m_50, m_51, m_52, m_53, m_54, m_55, m_56, m_57, m_58, m_59])), (t0, .inl (K 0, 400, .inl ft))]) [0, 1] (by decide) rfl
      exact W.iret (v := x_137) hx hb hr (fun t ht hW => ⟨⟨x_137, ((fun _ => 0, fun _ => fun _ => 0, fun _ => fun _ => 0, fun i => match i with | 0 => (u_167.2.2.2.1 0) | 1 => (u_167.2.2.2.1 1) | 2 => (u_167.2.2.2.1 2) | 3 => (u_167.2.2.2.1 3) | _ => (u_167.2.2.2.1 4), fun i => match i with | _ => (u_167.2.2.2.2.1 0), fun _ => fun _ => none) : Su), rfl, ⟨(show 0 ≤ ((u_167.2.2.2.1 0) : Int32).toInt ∧ ((u_167.2.2.2.1 0) : Int32).toInt ≤ 400 by omega), (show 0 ≤ ((u_167.2.2.2.1 1) : Int32).toInt ∧ ((u_167.2.2.2.1 1) : Int32).toInt ≤ 400 by omega), (show 0 ≤ ((u_167.2.2.2.1 2) : Int32).toInt ∧ ((u_167.2.2.2.1 2) : Int32).toInt ≤ 3 by omega), (show 0 ≤ ((u_167.2.2.2.1 4) : Int32).toInt ∧ ((u_167.2.2.2.1 4) : Int32).toInt ≤ 1 by omega), (show ((0 ≤ ((u_167.2.2.2.1 0) : Int32).toInt ∧ ((u_167.2.2.2.1 0) : Int32).toInt ≤ ((u_167.2.2.2.1 1) : Int32).toInt ∧ ((u_167.2.2.2.1 1) : Int32).toInt ≤ ta.toInt) ∧ (((u_167.2.2.2.1 2) : Int32).toInt = 0 ∨ ((u_167.2.2.2.1 0) : Int32).toInt < ((u_167.2.2.2.1 1) : Int32).toInt) ∧ (((u_167.2.2.2.1 2) : Int32).toInt ≠ 1 ∨ ((u_167.2.2.2.1 0) : Int32).toInt + 1 < ((u_167.2.2.2.1 1) : Int32).toInt ∨ ((u_167.2.2.2.2.1 0) : Int64).toInt ≤ 26)) by omega), (show (((u_167.2.2.2.1 4) : Int32).toInt = 1 ∨ (bd.toInt = 0 ∧ so.toInt = 2 ∧ to.toInt ≤ ((u_167.2.2.2.1 0) : Int32).toInt)) by omega), (show fr.toInt ≤ ((u_167.2.2.2.1 0) : Int32).toInt by omega), (show (((u_167.2.2.2.1 4) : Int32).toInt = 1 ∨ (y.toInt ≤ (x_137 : Int32).toInt ∧ (x_137 : Int32).toInt ≤ z.toInt)) by first | omega | (have q9 : x_137.toInt = wo.toInt := (by rw [ex_137]; exact l_nar rfl (by omega)); omega)), trivial⟩, (⟨by rw [ht]; exact hP9, hD9⟩ : Wd D A _ t)⟩, hS.F ht⟩) hS.2.2 dX12_number_38
set_option maxHeartbeats 4000000 in
set_option maxRecDepth 100000 in
theorem v_partAt (l : Launch) (D : va_G) (K : Nat → ClassId) (m0 : Nat) (m_0 : Value) (m_1 : Value) (m_2 : Value) (m_3 : Value) (m_4 : Value) (m_5 : Value) (m_6 : Value) (m_7 : Value) (m_8 : Value) (m_9 : Value) (m_10 : Value) (m_11 : Value) (m_12 : Value) (m_13 : Value) (m_14 : Value) (m_15 : Value) (so : Int32) (wo : Int64) (m_18 : Value) (m_19 : Value) (m_20 : Value) (m_21 : Value) (m_22 : Value) (m_23 : Value) (m_24 : Value) (m_25 : Value) (m_26 : Value) (m_27 : Value) (m_28 : Value) (m_29 : Value) (m_30 : Value) (wd : Nat) (m_32 : Value) (m_33 : Value) (m_34 : Value) (m_35 : Value) (m_36 : Value) (m_37 : Value) (m_38 : Value) (m_39 : Value) (m_40 : Value) (m_41 : Value) (m_42 : Value) (m_43 : Value) (m_44 : Value) (m_45 : Value) (m_46 : Value) (m_47 : Value) (m_48 : Value) (m_49 : Value) (m_50 : Value) (m_51 : Value) (m_52 : Value) (m_53 : Value) (m_54 : Value) (m_55 : Value) (m_56 : Value) (m_57 : Value) (m_58 : Value) (m_59 : Value) (fwd : Nat → Int64) (sz : Nat) : Met l yX12_partAt wsX12_partAt ({ frames := 1, cells := 0, slots := 0, locals := 22 }) (va_Pc [.ref m0] (Pre D K [(m0, .inr (12, [m_0, m_1, m_2, m_3, m_4, m_5, m_6, m_7, m_8, m_9, m_10, m_11, m_12, m_13, m_14, m_15, .int so, .long wo, m_18, m_19, m_20, m_21, m_22, m_23, m_24, m_25, m_26, m_27, m_28, m_29, m_30, .ref wd, m_32, m_33, m_34, m_35, m_36, m_37, m_38, m_39, m_40, m_41, m_42, m_43, m_44, m_45, m_46, m_47, m_48, m_49, m_50, m_51, m_52, m_53, m_54, m_55, m_56, m_57, m_58, m_59])), (wd, .inl (K 2, 9, .inr (.inl fwd)))] sz)) (vp_Si (fun r : Int32 => (r.toInt = -1 ∨ (so.toInt = 1 ∧ 1 ≤ r.toInt ∧ r.toInt ≤ 9)) ∧ True)) 0 0 (fun _ => False) := by
  refine Met.ofW (cc := cX12_partAt) (maxL := 3) (ret := (some .int)) (by decide) rfl ?_
  intro p e s m args below meth c s₁ B hml hv
  obtain ⟨rfl, hsz, hP, hK, hD0, hN⟩ := hv
  have hx := B.exec
  have hb := B.bytes
  have hr := B.returns
  have hts := atoms_spec (ws := wsX12_partAt) B.pre
  have hown : s.vm.findClass RX12 = some m.cls := findClass_of_methodNamed B.named
  have hlocks := B.notSynchronized
  subst hsz
  have hD := hD0
  have hP : va_P D vwCl [(m0, .inr (12, [m_0, m_1, m_2, m_3, m_4, m_5, m_6, m_7, m_8, m_9, m_10, m_11, m_12, m_13, m_14, m_15, .int so, .long wo, m_18, m_19, m_20, m_21, m_22, m_23, m_24, m_25, m_26, m_27, m_28, m_29, m_30, .ref wd, m_32, m_33, m_34, m_35, m_36, m_37, m_38, m_39, m_40, m_41, m_42, m_43, m_44, m_45, m_46, m_47, m_48, m_49, m_50, m_51, m_52, m_53, m_54, m_55, m_56, m_57, m_58, m_59])), (wd, .inl (K 2, 9, .inr (.inl fwd)))] s.heap := hP
  have hl := lv_entry [.ref m0] (n := 3) (Nat.le_of_ble_eq_true rfl)
  rw [lg_entry_eq]
  generalize (lg_sl [.ref m0] ++ List.replicate (3 - (lg_sl [.ref m0]).length) Slot.unset).toArray = ls at hl ⊢
  have hl : lv_has ls 3 [(0, .ref m0)] := hl
  have hw12 : ∀ w ∈ wsX120, w ∈ wsX12_partAt := fun w h => (List.mem_cons_of_mem _ (List.mem_append_right _ h))
  generalize hQ : MQ below _ _ s _ _ _ = Q
  refine lv_iconst (v := (-1)) hx hb dX12_partAt_0 (by decide) ?_
  refine lv_istore_n (lv' := [(1, .int (-1)), (0, .ref m0)]) hx hb dX12_partAt_1 rfl hl (by decide) rfl (fun ls hl => ?_)
  refine lv_iconst (v := 0) hx hb dX12_partAt_2 (by decide) ?_
  refine lv_istore_n (lv' := [(2, .int 0), (1, .int (-1)), (0, .ref m0)]) hx hb dX12_partAt_3 rfl hl (by decide) rfl (fun ls hl => ?_)
  have lp_293 : ∀ (nn_ : Nat) (v_269 : Int32) (v_270 : Int32) (hv_269 : 0 ≤ v_269.toInt ∧ v_269.toInt ≤ 9) (hv_270 : (-1) ≤ v_270.toInt ∧ v_270.toInt ≤ 9) (hr0_lp_293 : (v_270.toInt = -1 ∨ (so.toInt = 1 ∧ 1 ≤ v_270.toInt ∧ v_270.toInt ≤ v_269.toInt))) (hn : (10 - v_269.toInt : Int).toNat < nn_) (ls : Array Slot) (hl : lv_has ls 3 [(2, .int v_269), (1, .int v_270), (0, .ref m0)]), W p l e ({ frames := 1, cells := 0, slots := 0, locals := 22 }) s m (([.ref m0] : List Value).toArray) below meth c s.heap [] 0 0 Q (F0 m 4 ls []) := by
    intro nn_
    induction nn_ with
    | zero =>
      intro v_269 v_270 hv_269 hv_270 hr0_lp_293 hn ls hl
      exact absurd hn (Nat.not_lt_zero _)
    | succ nn_ ih_294 =>
      intro v_269 v_270 hv_269 hv_270 hr0_lp_293 hn ls hl
      refine lv_iload_n hx hb dX12_partAt_4 rfl (lv_at hl 0 rfl) ?_
      refine lv_bipush (v := 9) hx hb dX12_partAt_5 (by decide) ?_
      refine lv_icmp_ge (tgt := 37) hx hb dX12_partAt_7 (by decide) (fun c_295 => ?_) (fun c_295 => ?_)
      · have c_295i := i_le (x := 9) (y := v_269.toInt) rfl rfl c_295
        refine lv_iload_n hx hb dX12_partAt_37 rfl (lv_at hl 1 rfl) ?_
        rw [← hQ]
        exact W.iret (v := v_270) hx hb hr (fun t ht hW => ⟨_, rfl, ⟨by omega, trivial⟩, ht⟩) (fun q hq => by cases hq) dX12_partAt_38
      · have c_295i := i_nle (x := 9) (y := v_269.toInt) rfl rfl c_295
        refine lv_aload_n hx hb dX12_partAt_10 rfl (lv_at hl 2 rfl) ?_
        refine lv_aload_n hx hb dX12_partAt_11 rfl (lv_at hl 2 rfl) ?_
        refine va_get (ci := 12) (v := .ref wd) (C := RX12) (T := TX12) (N := 60) hx hb hts hw12 hown hK hP 0 rfl rfl 31 (by decide) (hts (.fieldLink RX12 75 "SmokeTuneModel" "words" "[J") (List.mem_cons_of_mem _ (List.mem_append_left _ (List.mem_of_getElem? (i := 0) rfl)))) (fun _ h9 => h9) rfl dX12_partAt_12 ?_
        refine lv_iload_n hx hb dX12_partAt_15 rfl (lv_at hl 0 rfl) ?_
        refine va_lald hx hb hK hP 1 2 rfl rfl (i_in rfl (by omega)) dX12_partAt_16 ?_
        refine lv_topl (fun x_296 ex_296 => ?_)
        refine pci (va_runV (As := [.long x_296]) (rest := []) ⟨hx, hb, hml, hown, hts⟩ (v_isWord l D K m0 x_296 m_0 m_1 m_2 m_3 m_4 m_5 m_6 m_7 m_8 m_9 m_10 m_11 m_12 m_13 m_14 m_15 so wo m_18 m_19 m_20 m_21 m_22 m_23 m_24 m_25 m_26 m_27 m_28 m_29 m_30 (.ref wd) m_32 m_33 m_34 m_35 m_36 m_37 m_38 m_39 m_40 m_41 m_42 m_43 m_44 m_45 m_46 m_47 m_48 m_49 m_50 m_51 m_52 m_53 m_54 m_55 m_56 m_57 m_58 m_59 s.heap.size) (cwV 1 hts gX12_partAt_X12_isWord rfl rfl rfl (by decide +kernel) ⟨Nat.le_of_ble_eq_true rfl, Nat.le_of_ble_eq_true rfl⟩) (mkV hK hN (hP.sub [0] rfl) (hD.sub [0] (by decide) rfl) (ci := 12) (q0 := 0) rfl rfl) rfl rfl hl.1 rfl (lv_room (Nat.le_of_ble_eq_true rfl)) dX12_partAt_17 ⟨Nat.le_of_ble_eq_true rfl, Nat.le_of_ble_eq_true rfl⟩) (fun r_297 hw => ?_)
        obtain ⟨hw, -⟩ := hw
        rcases hw with ⟨rfl, h_298, h_299⟩ | rfl
        · refine lv_if_eq (tgt := 29) hx hb dX12_partAt_20 (by decide) (fun c_300 => absurd c_300 (by decide)) (fun c_300 => ?_)
          refine lv_iload_n hx hb dX12_partAt_23 rfl (lv_at hl 0 rfl) ?_
          refine lv_iconst (v := 1) hx hb dX12_partAt_24 (by decide) ?_
          refine lv_iadd hx hb dX12_partAt_25 ?_
          refine lv_topi (fun x_301 ex_301 => ?_)
          have hx_301 : x_301.toInt = (v_269.toInt + 1) := by rw [ex_301]; exact i_add rfl (show (1 : Int32).toInt = 1 from rfl) (by omega)
          refine lv_goto (tgt := 30) hx hb dX12_partAt_26 (by decide) ?_
          refine lv_istore_n (lv' := [(1, .int x_301), (2, .int v_269), (0, .ref m0)]) hx hb dX12_partAt_30 rfl hl (by decide) rfl (fun ls hl => ?_)
          obtain ⟨x_302, ex_302⟩ : ∃ y : Int32, y = v_269 + Int32.ofInt 1 := ⟨_, rfl⟩
          have hx_302 : x_302.toInt = (v_269.toInt + 1) := by rw [ex_302]; exact i_add rfl (show (Int32.ofInt 1).toInt = 1 from rfl) (by omega)
          refine lv_iinc (v := x_302) (lv' := [(2, .int x_302), (1, .int x_301), (0, .ref m0)]) hx hb dX12_partAt_31 hl (k := 1) rfl (by rw [ex_302]) (by decide) rfl (fun ls hl => ?_)
          refine lv_goto (tgt := 4) hx hb dX12_partAt_34 (by decide) ?_
          exact ih_294 x_302 x_301 (by rw [hx_302]; omega) (by rw [hx_301]; omega) (show ((x_301 : Int32).toInt = -1 ∨ (so.toInt = 1 ∧ 1 ≤ (x_301 : Int32).toInt ∧ (x_301 : Int32).toInt ≤ (x_302 : Int32).toInt)) by omega) (by omega) ls (lv_sub hl [0, 1, 2] rfl)
        · refine lv_if_eq (tgt := 29) hx hb dX12_partAt_20 (by decide) (fun c_303 => ?_) (fun c_303 => absurd (by decide) c_303)
          refine lv_iload_n hx hb dX12_partAt_29 rfl (lv_at hl 1 rfl) ?_
          refine lv_istore_n (lv' := [(1, .int v_270), (2, .int v_269), (0, .ref m0)]) hx hb dX12_partAt_30 rfl hl (by decide) rfl (fun ls hl => ?_)
          obtain ⟨x_304, ex_304⟩ : ∃ y : Int32, y = v_269 + Int32.ofInt 1 := ⟨_, rfl⟩
          have hx_304 : x_304.toInt = (v_269.toInt + 1) := by rw [ex_304]; exact i_add rfl (show (Int32.ofInt 1).toInt = 1 from rfl) (by omega)
          refine lv_iinc (v := x_304) (lv' := [(2, .int x_304), (1, .int v_270), (0, .ref m0)]) hx hb dX12_partAt_31 hl (k := 1) rfl (by rw [ex_304]) (by decide) rfl (fun ls hl => ?_)
          refine lv_goto (tgt := 4) hx hb dX12_partAt_34 (by decide) ?_
          exact ih_294 x_304 v_270 (by rw [hx_304]; omega) (by omega) (show ((v_270 : Int32).toInt = -1 ∨ (so.toInt = 1 ∧ 1 ≤ (v_270 : Int32).toInt ∧ (v_270 : Int32).toInt ≤ (x_304 : Int32).toInt)) by omega) (by omega) ls (lv_sub hl [0, 1, 2] rfl)
  have hz_305 : (0 : Int32).toInt = 0 := rfl
  have hz_306 : ((-1) : Int32).toInt = (-1) := rfl
  exact lp_293 ((10 - (0 : Int32).toInt : Int).toNat + 1) 0 (-1) (by decide) (by decide) (show (((-1) : Int32).toInt = -1 ∨ (so.toInt = 1 ∧ 1 ≤ ((-1) : Int32).toInt ∧ ((-1) : Int32).toInt ≤ (0 : Int32).toInt)) by omega) (Nat.lt_succ_self _) ls (lv_sub hl [0, 1, 2] rfl)
set_option maxHeartbeats 4000000 in
set_option maxRecDepth 100000 in
theorem v_orderPartAt (l : Launch) (D : va_G) (K : Nat → ClassId) (m0 : Nat) (m_0 : Value) (m_1 : Value) (m_2 : Value) (m_3 : Value) (m_4 : Value) (m_5 : Value) (m_6 : Value) (m_7 : Value) (m_8 : Value) (m_9 : Value) (m_10 : Value) (m_11 : Value) (m_12 : Value) (m_13 : Value) (m_14 : Value) (m_15 : Value) (so : Int32) (wo : Int64) (m_18 : Value) (m_19 : Value) (m_20 : Value) (m_21 : Value) (m_22 : Value) (m_23 : Value) (m_24 : Value) (m_25 : Value) (m_26 : Value) (m_27 : Value) (m_28 : Value) (m_29 : Value) (m_30 : Value) (m_31 : Value) (wd : Nat) (m_33 : Value) (m_34 : Value) (m_35 : Value) (m_36 : Value) (m_37 : Value) (m_38 : Value) (m_39 : Value) (m_40 : Value) (m_41 : Value) (m_42 : Value) (m_43 : Value) (m_44 : Value) (m_45 : Value) (m_46 : Value) (m_47 : Value) (m_48 : Value) (m_49 : Value) (m_50 : Value) (m_51 : Value) (m_52 : Value) (m_53 : Value) (m_54 : Value) (m_55 : Value) (m_56 : Value) (m_57 : Value) (m_58 : Value) (m_59 : Value) (fwd : Nat → Int64) (sz : Nat) : Met l yX12_orderPartAt wsX12_orderPartAt ({ frames := 1, cells := 0, slots := 0, locals := 22 }) (va_Pc [.ref m0] (Pre D K [(m0, .inr (12, [m_0, m_1, m_2, m_3, m_4, m_5, m_6, m_7, m_8, m_9, m_10, m_11, m_12, m_13, m_14, m_15, .int so, .long wo, m_18, m_19, m_20, m_21, m_22, m_23, m_24, m_25, m_26, m_27, m_28, m_29, m_30, m_31, .ref wd, m_33, m_34, m_35, m_36, m_37, m_38, m_39, m_40, m_41, m_42, m_43, m_44, m_45, m_46, m_47, m_48, m_49, m_50, m_51, m_52, m_53, m_54, m_55, m_56, m_57, m_58, m_59])), (wd, .inl (K 2, 8, .inr (.inl fwd)))] sz)) (vp_Si (fun r : Int32 => (r.toInt = -1 ∨ (so.toInt = 1 ∧ 1 ≤ r.toInt ∧ r.toInt ≤ 8)) ∧ True)) 0 0 (fun _ => False) := by
  refine Met.ofW (cc := cX12_orderPartAt) (maxL := 3) (ret := (some .int)) (by decide) rfl ?_
  intro p e s m args below meth c s₁ B hml hv
  obtain ⟨rfl, hsz, hP, hK, hD0, hN⟩ := hv
  have hx := B.exec
  have hb := B.bytes
  have hr := B.returns
  have hts := atoms_spec (ws := wsX12_orderPartAt) B.pre
  have hown : s.vm.findClass RX12 = some m.cls := findClass_of_methodNamed B.named
  have hlocks := B.notSynchronized
  subst hsz
  have hD := hD0
  have hP : va_P D vwCl [(m0, .inr (12, [m_0, m_1, m_2, m_3, m_4, m_5, m_6, m_7, m_8, m_9, m_10, m_11, m_12, m_13, m_14, m_15, .int so, .long wo, m_18, m_19, m_20, m_21, m_22, m_23, m_24, m_25, m_26, m_27, m_28, m_29, m_30, m_31, .ref wd, m_33, m_34, m_35, m_36, m_37, m_38, m_39, m_40, m_41, m_42, m_43, m_44, m_45, m_46, m_47, m_48, m_49, m_50, m_51, m_52, m_53, m_54, m_55, m_56, m_57, m_58, m_59])), (wd, .inl (K 2, 8, .inr (.inl fwd)))] s.heap := hP
  have hl := lv_entry [.ref m0] (n := 3) (Nat.le_of_ble_eq_true rfl)
  rw [lg_entry_eq]
  generalize (lg_sl [.ref m0] ++ List.replicate (3 - (lg_sl [.ref m0]).length) Slot.unset).toArray = ls at hl ⊢
  have hl : lv_has ls 3 [(0, .ref m0)] := hl
  have hw12 : ∀ w ∈ wsX120, w ∈ wsX12_orderPartAt := fun w h => (List.mem_cons_of_mem _ (List.mem_append_right _ h))
  generalize hQ : MQ below _ _ s _ _ _ = Q
  refine lv_iconst (v := (-1)) hx hb dX12_orderPartAt_0 (by decide) ?_
  refine lv_istore_n (lv' := [(1, .int (-1)), (0, .ref m0)]) hx hb dX12_orderPartAt_1 rfl hl (by decide) rfl (fun ls hl => ?_)
  refine lv_iconst (v := 0) hx hb dX12_orderPartAt_2 (by decide) ?_
  refine lv_istore_n (lv' := [(2, .int 0), (1, .int (-1)), (0, .ref m0)]) hx hb dX12_orderPartAt_3 rfl hl (by decide) rfl (fun ls hl => ?_)
  have lp_293 : ∀ (nn_ : Nat) (v_269 : Int32) (v_270 : Int32) (hv_269 : 0 ≤ v_269.toInt ∧ v_269.toInt ≤ 8) (hv_270 : (-1) ≤ v_270.toInt ∧ v_270.toInt ≤ 9) (hr0_lp_293 : (v_270.toInt = -1 ∨ (so.toInt = 1 ∧ 1 ≤ v_270.toInt ∧ v_270.toInt ≤ v_269.toInt))) (hn : (9 - v_269.toInt : Int).toNat < nn_) (ls : Array Slot) (hl : lv_has ls 3 [(2, .int v_269), (1, .int v_270), (0, .ref m0)]), W p l e ({ frames := 1, cells := 0, slots := 0, locals := 22 }) s m (([.ref m0] : List Value).toArray) below meth c s.heap [] 0 0 Q (F0 m 4 ls []) := by
    intro nn_
    induction nn_ with
    | zero =>
      intro v_269 v_270 hv_269 hv_270 hr0_lp_293 hn ls hl
      exact absurd hn (Nat.not_lt_zero _)
    | succ nn_ ih_294 =>
      intro v_269 v_270 hv_269 hv_270 hr0_lp_293 hn ls hl
      refine lv_iload_n hx hb dX12_orderPartAt_4 rfl (lv_at hl 0 rfl) ?_
      refine lv_bipush (v := 8) hx hb dX12_orderPartAt_5 (by decide) ?_
      refine lv_icmp_ge (tgt := 37) hx hb dX12_orderPartAt_7 (by decide) (fun c_295 => ?_) (fun c_295 => ?_)
      · have c_295i := i_le (x := 8) (y := v_269.toInt) rfl rfl c_295
        refine lv_iload_n hx hb dX12_orderPartAt_37 rfl (lv_at hl 1 rfl) ?_
        rw [← hQ]
        exact W.iret (v := v_270) hx hb hr (fun t ht hW => ⟨_, rfl, ⟨by omega, trivial⟩, ht⟩) (fun q hq => by cases hq) dX12_orderPartAt_38
      · have c_295i := i_nle (x := 8) (y := v_269.toInt) rfl rfl c_295
        refine lv_aload_n hx hb dX12_orderPartAt_10 rfl (lv_at hl 2 rfl) ?_
        refine lv_aload_n hx hb dX12_orderPartAt_11 rfl (lv_at hl 2 rfl) ?_
        refine va_get (ci := 12) (v := .ref wd) (C := RX12) (T := TX12) (N := 60) hx hb hts hw12 hown hK hP 0 rfl rfl 32 (by decide) (hts (.fieldLink RX12 87 "SmokeTuneModel" "orderWords" "[J") (List.mem_cons_of_mem _ (List.mem_append_left _ (List.mem_of_getElem? (i := 0) rfl)))) (fun _ h9 => h9) rfl dX12_orderPartAt_12 ?_
        refine lv_iload_n hx hb dX12_orderPartAt_15 rfl (lv_at hl 0 rfl) ?_
        refine va_lald hx hb hK hP 1 2 rfl rfl (i_in rfl (by omega)) dX12_orderPartAt_16 ?_
        refine lv_topl (fun x_296 ex_296 => ?_)
        refine pci (va_runV (As := [.long x_296]) (rest := []) ⟨hx, hb, hml, hown, hts⟩ (v_isWord l D K m0 x_296 m_0 m_1 m_2 m_3 m_4 m_5 m_6 m_7 m_8 m_9 m_10 m_11 m_12 m_13 m_14 m_15 so wo m_18 m_19 m_20 m_21 m_22 m_23 m_24 m_25 m_26 m_27 m_28 m_29 m_30 m_31 (.ref wd) m_33 m_34 m_35 m_36 m_37 m_38 m_39 m_40 m_41 m_42 m_43 m_44 m_45 m_46 m_47 m_48 m_49 m_50 m_51 m_52 m_53 m_54 m_55 m_56 m_57 m_58 m_59 s.heap.size) (cwV 1 hts gX12_orderPartAt_X12_isWord rfl rfl rfl (by decide +kernel) ⟨Nat.le_of_ble_eq_true rfl, Nat.le_of_ble_eq_true rfl⟩) (mkV hK hN (hP.sub [0] rfl) (hD.sub [0] (by decide) rfl) (ci := 12) (q0 := 0) rfl rfl) rfl rfl hl.1 rfl (lv_room (Nat.le_of_ble_eq_true rfl)) dX12_orderPartAt_17 ⟨Nat.le_of_ble_eq_true rfl, Nat.le_of_ble_eq_true rfl⟩) (fun r_297 hw => ?_)
        obtain ⟨hw, -⟩ := hw
        rcases hw with ⟨rfl, h_298, h_299⟩ | rfl
        · refine lv_if_eq (tgt := 29) hx hb dX12_orderPartAt_20 (by decide) (fun c_300 => absurd c_300 (by decide)) (fun c_300 => ?_)
          refine lv_iload_n hx hb dX12_orderPartAt_23 rfl (lv_at hl 0 rfl) ?_
          refine lv_iconst (v := 1) hx hb dX12_orderPartAt_24 (by decide) ?_
          refine lv_iadd hx hb dX12_orderPartAt_25 ?_
          refine lv_topi (fun x_301 ex_301 => ?_)
          have hx_301 : x_301.toInt = (v_269.toInt + 1) := by rw [ex_301]; exact i_add rfl (show (1 : Int32).toInt = 1 from rfl) (by omega)
          refine lv_goto (tgt := 30) hx hb dX12_orderPartAt_26 (by decide) ?_
          refine lv_istore_n (lv' := [(1, .int x_301), (2, .int v_269), (0, .ref m0)]) hx hb dX12_orderPartAt_30 rfl hl (by decide) rfl (fun ls hl => ?_)
          obtain ⟨x_302, ex_302⟩ : ∃ y : Int32, y = v_269 + Int32.ofInt 1 := ⟨_, rfl⟩
          have hx_302 : x_302.toInt = (v_269.toInt + 1) := by rw [ex_302]; exact i_add rfl (show (Int32.ofInt 1).toInt = 1 from rfl) (by omega)
          refine lv_iinc (v := x_302) (lv' := [(2, .int x_302), (1, .int x_301), (0, .ref m0)]) hx hb dX12_orderPartAt_31 hl (k := 1) rfl (by rw [ex_302]) (by decide) rfl (fun ls hl => ?_)
          refine lv_goto (tgt := 4) hx hb dX12_orderPartAt_34 (by decide) ?_
          exact ih_294 x_302 x_301 (by rw [hx_302]; omega) (by rw [hx_301]; omega) (show ((x_301 : Int32).toInt = -1 ∨ (so.toInt = 1 ∧ 1 ≤ (x_301 : Int32).toInt ∧ (x_301 : Int32).toInt ≤ (x_302 : Int32).toInt)) by omega) (by omega) ls (lv_sub hl [0, 1, 2] rfl)
        · refine lv_if_eq (tgt := 29) hx hb dX12_orderPartAt_20 (by decide) (fun c_303 => ?_) (fun c_303 => absurd (by decide) c_303)
          refine lv_iload_n hx hb dX12_orderPartAt_29 rfl (lv_at hl 1 rfl) ?_
          refine lv_istore_n (lv' := [(1, .int v_270), (2, .int v_269), (0, .ref m0)]) hx hb dX12_orderPartAt_30 rfl hl (by decide) rfl (fun ls hl => ?_)
          obtain ⟨x_304, ex_304⟩ : ∃ y : Int32, y = v_269 + Int32.ofInt 1 := ⟨_, rfl⟩
          have hx_304 : x_304.toInt = (v_269.toInt + 1) := by rw [ex_304]; exact i_add rfl (show (Int32.ofInt 1).toInt = 1 from rfl) (by omega)
          refine lv_iinc (v := x_304) (lv' := [(2, .int x_304), (1, .int v_270), (0, .ref m0)]) hx hb dX12_orderPartAt_31 hl (k := 1) rfl (by rw [ex_304]) (by decide) rfl (fun ls hl => ?_)
          refine lv_goto (tgt := 4) hx hb dX12_orderPartAt_34 (by decide) ?_
          exact ih_294 x_304 v_270 (by rw [hx_304]; omega) (by omega) (show ((v_270 : Int32).toInt = -1 ∨ (so.toInt = 1 ∧ 1 ≤ (v_270 : Int32).toInt ∧ (v_270 : Int32).toInt ≤ (x_304 : Int32).toInt)) by omega) (by omega) ls (lv_sub hl [0, 1, 2] rfl)
  have hz_305 : (0 : Int32).toInt = 0 := rfl
  have hz_306 : ((-1) : Int32).toInt = (-1) := rfl
  exact lp_293 ((9 - (0 : Int32).toInt : Int).toNat + 1) 0 (-1) (by decide) (by decide) (show (((-1) : Int32).toInt = -1 ∨ (so.toInt = 1 ∧ 1 ≤ ((-1) : Int32).toInt ∧ ((-1) : Int32).toInt ≤ (0 : Int32).toInt)) by omega) (Nat.lt_succ_self _) ls (lv_sub hl [0, 1, 2] rfl)
