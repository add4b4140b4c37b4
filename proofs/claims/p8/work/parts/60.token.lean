theorem dX12_isSmall_0 : decode cX12_isSmall 0 = .ok (.iload_n 0, 1) := by decide +kernel
theorem dX12_isSmall_1 : decode cX12_isSmall 1 = .ok (.bipush 97, 2) := by decide +kernel
theorem dX12_isSmall_3 : decode cX12_isSmall 3 = .ok (.if_icmp .lt 13, 3) := by decide +kernel
theorem dX12_isSmall_16 : decode cX12_isSmall 16 = .ok (.iconst 0, 1) := by decide +kernel
theorem dX12_isSmall_17 : decode cX12_isSmall 17 = .ok (.ireturn, 1) := by decide +kernel
theorem dX12_isSmall_6 : decode cX12_isSmall 6 = .ok (.iload_n 0, 1) := by decide +kernel
theorem dX12_isSmall_7 : decode cX12_isSmall 7 = .ok (.bipush 122, 2) := by decide +kernel
theorem dX12_isSmall_9 : decode cX12_isSmall 9 = .ok (.if_icmp .gt 7, 3) := by decide +kernel
theorem dX12_isSmall_12 : decode cX12_isSmall 12 = .ok (.iconst 1, 1) := by decide +kernel
theorem dX12_isSmall_13 : decode cX12_isSmall 13 = .ok (.goto 4, 3) := by decide +kernel
theorem dX12_isDigit_0 : decode cX12_isDigit 0 = .ok (.iload_n 0, 1) := by decide +kernel
theorem dX12_isDigit_1 : decode cX12_isDigit 1 = .ok (.bipush 48, 2) := by decide +kernel
theorem dX12_isDigit_3 : decode cX12_isDigit 3 = .ok (.if_icmp .lt 13, 3) := by decide +kernel
theorem dX12_isDigit_16 : decode cX12_isDigit 16 = .ok (.iconst 0, 1) := by decide +kernel
theorem dX12_isDigit_17 : decode cX12_isDigit 17 = .ok (.ireturn, 1) := by decide +kernel
theorem dX12_isDigit_6 : decode cX12_isDigit 6 = .ok (.iload_n 0, 1) := by decide +kernel
theorem dX12_isDigit_7 : decode cX12_isDigit 7 = .ok (.bipush 57, 2) := by decide +kernel
theorem dX12_isDigit_9 : decode cX12_isDigit 9 = .ok (.if_icmp .gt 7, 3) := by decide +kernel
theorem dX12_isDigit_12 : decode cX12_isDigit 12 = .ok (.iconst 1, 1) := by decide +kernel
theorem dX12_isDigit_13 : decode cX12_isDigit 13 = .ok (.goto 4, 3) := by decide +kernel
theorem dX12_next_0 : decode cX12_next 0 = .ok (.aload_n 0, 1) := by decide +kernel
theorem dX12_next_1 : decode cX12_next 1 = .ok (.aload_n 0, 1) := by decide +kernel
theorem dX12_next_2 : decode cX12_next 2 = .ok (.getfield 236, 3) := by decide +kernel
theorem dX12_next_5 : decode cX12_next 5 = .ok (.putfield 246, 3) := by decide +kernel
theorem dX12_next_8 : decode cX12_next 8 = .ok (.aload_n 0, 1) := by decide +kernel
theorem dX12_next_9 : decode cX12_next 9 = .ok (.getfield 246, 3) := by decide +kernel
theorem dX12_next_12 : decode cX12_next 12 = .ok (.aload_n 0, 1) := by decide +kernel
theorem dX12_next_13 : decode cX12_next 13 = .ok (.getfield 227, 3) := by decide +kernel
theorem dX12_next_16 : decode cX12_next 16 = .ok (.if_icmp .ge 30, 3) := by decide +kernel
theorem dX12_next_19 : decode cX12_next 19 = .ok (.aload_n 0, 1) := by decide +kernel
theorem dX12_next_20 : decode cX12_next 20 = .ok (.getfield 35, 3) := by decide +kernel
theorem dX12_next_23 : decode cX12_next 23 = .ok (.aload_n 0, 1) := by decide +kernel
theorem dX12_next_24 : decode cX12_next 24 = .ok (.getfield 246, 3) := by decide +kernel
theorem dX12_next_27 : decode cX12_next 27 = .ok (.iaload, 1) := by decide +kernel
theorem dX12_next_28 : decode cX12_next 28 = .ok (.bipush 32, 2) := by decide +kernel
theorem dX12_next_30 : decode cX12_next 30 = .ok (.if_icmp .ne 16, 3) := by decide +kernel
theorem dX12_next_33 : decode cX12_next 33 = .ok (.aload_n 0, 1) := by decide +kernel
theorem dX12_next_34 : decode cX12_next 34 = .ok (.dup, 1) := by decide +kernel
theorem dX12_next_35 : decode cX12_next 35 = .ok (.getfield 246, 3) := by decide +kernel
theorem dX12_next_38 : decode cX12_next 38 = .ok (.iconst 1, 1) := by decide +kernel
theorem dX12_next_39 : decode cX12_next 39 = .ok (.iadd, 1) := by decide +kernel
theorem dX12_next_40 : decode cX12_next 40 = .ok (.putfield 246, 3) := by decide +kernel
theorem dX12_next_43 : decode cX12_next 43 = .ok (.goto (-35), 3) := by decide +kernel
theorem dX12_next_46 : decode cX12_next 46 = .ok (.aload_n 0, 1) := by decide +kernel
theorem dX12_next_47 : decode cX12_next 47 = .ok (.aload_n 0, 1) := by decide +kernel
theorem dX12_next_48 : decode cX12_next 48 = .ok (.getfield 246, 3) := by decide +kernel
theorem dX12_next_51 : decode cX12_next 51 = .ok (.putfield 236, 3) := by decide +kernel
theorem dX12_next_54 : decode cX12_next 54 = .ok (.aload_n 0, 1) := by decide +kernel
theorem dX12_next_55 : decode cX12_next 55 = .ok (.lconst 0, 1) := by decide +kernel
theorem dX12_next_56 : decode cX12_next 56 = .ok (.putfield 249, 3) := by decide +kernel
theorem dX12_next_59 : decode cX12_next 59 = .ok (.aload_n 0, 1) := by decide +kernel
theorem dX12_next_60 : decode cX12_next 60 = .ok (.aload_n 0, 1) := by decide +kernel
theorem dX12_next_61 : decode cX12_next 61 = .ok (.getfield 246, 3) := by decide +kernel
theorem dX12_next_64 : decode cX12_next 64 = .ok (.aload_n 0, 1) := by decide +kernel
theorem dX12_next_65 : decode cX12_next 65 = .ok (.getfield 227, 3) := by decide +kernel
theorem dX12_next_68 : decode cX12_next 68 = .ok (.if_icmp .ne 7, 3) := by decide +kernel
theorem dX12_next_75 : decode cX12_next 75 = .ok (.aload_n 0, 1) := by decide +kernel
theorem dX12_next_76 : decode cX12_next 76 = .ok (.getfield 35, 3) := by decide +kernel
theorem dX12_next_79 : decode cX12_next 79 = .ok (.aload_n 0, 1) := by decide +kernel
theorem dX12_next_80 : decode cX12_next 80 = .ok (.getfield 246, 3) := by decide +kernel
theorem dX12_next_83 : decode cX12_next 83 = .ok (.iaload, 1) := by decide +kernel
theorem dX12_next_84 : decode cX12_next 84 = .ok (.invokestatic 253, 3) := by decide +kernel
theorem dX12_next_87 : decode cX12_next 87 = .ok (.ifCond .eq 7, 3) := by decide +kernel
theorem dX12_next_90 : decode cX12_next 90 = .ok (.iconst 1, 1) := by decide +kernel
theorem dX12_next_91 : decode cX12_next 91 = .ok (.goto 23, 3) := by decide +kernel
theorem dX12_next_114 : decode cX12_next 114 = .ok (.putfield 259, 3) := by decide +kernel
theorem dX12_next_117 : decode cX12_next 117 = .ok (.aload_n 0, 1) := by decide +kernel
theorem dX12_next_118 : decode cX12_next 118 = .ok (.getfield 259, 3) := by decide +kernel
theorem dX12_next_121 : decode cX12_next 121 = .ok (.iconst 3, 1) := by decide +kernel
theorem dX12_next_122 : decode cX12_next 122 = .ok (.if_icmp .ne 27, 3) := by decide +kernel
theorem dX12_next_149 : decode cX12_next 149 = .ok (.aload_n 0, 1) := by decide +kernel
theorem dX12_next_150 : decode cX12_next 150 = .ok (.getfield 259, 3) := by decide +kernel
theorem dX12_next_153 : decode cX12_next 153 = .ok (.iconst 1, 1) := by decide +kernel
theorem dX12_next_154 : decode cX12_next 154 = .ok (.if_icmp .ne 89, 3) := by decide +kernel
theorem dX12_next_157 : decode cX12_next 157 = .ok (.aload_n 0, 1) := by decide +kernel
theorem dX12_next_158 : decode cX12_next 158 = .ok (.getfield 236, 3) := by decide +kernel
theorem dX12_next_161 : decode cX12_next 161 = .ok (.aload_n 0, 1) := by decide +kernel
theorem dX12_next_162 : decode cX12_next 162 = .ok (.getfield 227, 3) := by decide +kernel
theorem dX12_next_165 : decode cX12_next 165 = .ok (.if_icmp .ge 78, 3) := by decide +kernel
theorem dX12_next_243 : decode cX12_next 243 = .ok (.aload_n 0, 1) := by decide +kernel
theorem dX12_next_244 : decode cX12_next 244 = .ok (.getfield 259, 3) := by decide +kernel
theorem dX12_next_247 : decode cX12_next 247 = .ok (.iconst 2, 1) := by decide +kernel
theorem dX12_next_248 : decode cX12_next 248 = .ok (.if_icmp .ne 87, 3) := by decide +kernel
theorem dX12_next_335 : decode cX12_next 335 = .ok (.return_, 1) := by decide +kernel
theorem dX12_next_168 : decode cX12_next 168 = .ok (.aload_n 0, 1) := by decide +kernel
theorem dX12_next_169 : decode cX12_next 169 = .ok (.getfield 35, 3) := by decide +kernel
theorem dX12_next_172 : decode cX12_next 172 = .ok (.aload_n 0, 1) := by decide +kernel
theorem dX12_next_173 : decode cX12_next 173 = .ok (.getfield 236, 3) := by decide +kernel
theorem dX12_next_176 : decode cX12_next 176 = .ok (.iaload, 1) := by decide +kernel
theorem dX12_next_177 : decode cX12_next 177 = .ok (.invokestatic 253, 3) := by decide +kernel
theorem dX12_next_180 : decode cX12_next 180 = .ok (.ifCond .eq 63, 3) := by decide +kernel
theorem dX12_next_183 : decode cX12_next 183 = .ok (.aload_n 0, 1) := by decide +kernel
theorem dX12_next_184 : decode cX12_next 184 = .ok (.aload_n 0, 1) := by decide +kernel
theorem dX12_next_185 : decode cX12_next 185 = .ok (.getfield 236, 3) := by decide +kernel
theorem dX12_next_188 : decode cX12_next 188 = .ok (.aload_n 0, 1) := by decide +kernel
theorem dX12_next_189 : decode cX12_next 189 = .ok (.getfield 246, 3) := by decide +kernel
theorem dX12_next_192 : decode cX12_next 192 = .ok (.isub, 1) := by decide +kernel
theorem dX12_next_193 : decode cX12_next 193 = .ok (.bipush 10, 2) := by decide +kernel
theorem dX12_next_195 : decode cX12_next 195 = .ok (.if_icmp .ge 29, 3) := by decide +kernel
theorem dX12_next_224 : decode cX12_next 224 = .ok (.ldc2_w 266, 3) := by decide +kernel
theorem dX12_next_227 : decode cX12_next 227 = .ok (.putfield 249, 3) := by decide +kernel
theorem dX12_next_230 : decode cX12_next 230 = .ok (.aload_n 0, 1) := by decide +kernel
theorem dX12_next_231 : decode cX12_next 231 = .ok (.dup, 1) := by decide +kernel
theorem dX12_next_232 : decode cX12_next 232 = .ok (.getfield 236, 3) := by decide +kernel
theorem dX12_next_235 : decode cX12_next 235 = .ok (.iconst 1, 1) := by decide +kernel
theorem dX12_next_236 : decode cX12_next 236 = .ok (.iadd, 1) := by decide +kernel
theorem dX12_next_237 : decode cX12_next 237 = .ok (.putfield 236, 3) := by decide +kernel
theorem dX12_next_240 : decode cX12_next 240 = .ok (.goto (-91), 3) := by decide +kernel
theorem dX12_next_198 : decode cX12_next 198 = .ok (.aload_n 0, 1) := by decide +kernel
theorem dX12_next_199 : decode cX12_next 199 = .ok (.getfield 249, 3) := by decide +kernel
theorem dX12_next_202 : decode cX12_next 202 = .ok (.ldc2_w 262, 3) := by decide +kernel
theorem dX12_next_205 : decode cX12_next 205 = .ok (.lmul, 1) := by decide +kernel
theorem dX12_next_206 : decode cX12_next 206 = .ok (.aload_n 0, 1) := by decide +kernel
theorem dX12_next_207 : decode cX12_next 207 = .ok (.getfield 35, 3) := by decide +kernel
theorem dX12_next_210 : decode cX12_next 210 = .ok (.aload_n 0, 1) := by decide +kernel
theorem dX12_next_211 : decode cX12_next 211 = .ok (.getfield 236, 3) := by decide +kernel
theorem dX12_next_214 : decode cX12_next 214 = .ok (.iaload, 1) := by decide +kernel
theorem dX12_next_215 : decode cX12_next 215 = .ok (.i2l, 1) := by decide +kernel
theorem dX12_next_216 : decode cX12_next 216 = .ok (.ladd, 1) := by decide +kernel
theorem dX12_next_217 : decode cX12_next 217 = .ok (.ldc2_w 264, 3) := by decide +kernel
theorem dX12_next_220 : decode cX12_next 220 = .ok (.lsub, 1) := by decide +kernel
theorem dX12_next_221 : decode cX12_next 221 = .ok (.goto 6, 3) := by decide +kernel
theorem dX12_next_94 : decode cX12_next 94 = .ok (.aload_n 0, 1) := by decide +kernel
theorem dX12_next_95 : decode cX12_next 95 = .ok (.getfield 35, 3) := by decide +kernel
theorem dX12_next_98 : decode cX12_next 98 = .ok (.aload_n 0, 1) := by decide +kernel
theorem dX12_next_99 : decode cX12_next 99 = .ok (.getfield 246, 3) := by decide +kernel
theorem dX12_next_102 : decode cX12_next 102 = .ok (.iaload, 1) := by decide +kernel
theorem dX12_next_103 : decode cX12_next 103 = .ok (.invokestatic 256, 3) := by decide +kernel
theorem dX12_next_106 : decode cX12_next 106 = .ok (.ifCond .eq 7, 3) := by decide +kernel
theorem dX12_next_109 : decode cX12_next 109 = .ok (.iconst 2, 1) := by decide +kernel
theorem dX12_next_110 : decode cX12_next 110 = .ok (.goto 4, 3) := by decide +kernel
theorem dX12_next_251 : decode cX12_next 251 = .ok (.aload_n 0, 1) := by decide +kernel
theorem dX12_next_252 : decode cX12_next 252 = .ok (.getfield 236, 3) := by decide +kernel
theorem dX12_next_255 : decode cX12_next 255 = .ok (.aload_n 0, 1) := by decide +kernel
theorem dX12_next_256 : decode cX12_next 256 = .ok (.getfield 227, 3) := by decide +kernel
theorem dX12_next_259 : decode cX12_next 259 = .ok (.if_icmp .ge 76, 3) := by decide +kernel
theorem dX12_next_262 : decode cX12_next 262 = .ok (.aload_n 0, 1) := by decide +kernel
theorem dX12_next_263 : decode cX12_next 263 = .ok (.getfield 35, 3) := by decide +kernel
theorem dX12_next_266 : decode cX12_next 266 = .ok (.aload_n 0, 1) := by decide +kernel
theorem dX12_next_267 : decode cX12_next 267 = .ok (.getfield 236, 3) := by decide +kernel
theorem dX12_next_270 : decode cX12_next 270 = .ok (.iaload, 1) := by decide +kernel
theorem dX12_next_271 : decode cX12_next 271 = .ok (.invokestatic 256, 3) := by decide +kernel
theorem dX12_next_274 : decode cX12_next 274 = .ok (.ifCond .eq 61, 3) := by decide +kernel
theorem dX12_next_277 : decode cX12_next 277 = .ok (.aload_n 0, 1) := by decide +kernel
theorem dX12_next_278 : decode cX12_next 278 = .ok (.aload_n 0, 1) := by decide +kernel
theorem dX12_next_279 : decode cX12_next 279 = .ok (.getfield 249, 3) := by decide +kernel
theorem dX12_next_282 : decode cX12_next 282 = .ok (.ldc2_w 268, 3) := by decide +kernel
theorem dX12_next_285 : decode cX12_next 285 = .ok (.lcmp, 1) := by decide +kernel
theorem dX12_next_286 : decode cX12_next 286 = .ok (.ifCond .le 10, 3) := by decide +kernel
theorem dX12_next_296 : decode cX12_next 296 = .ok (.aload_n 0, 1) := by decide +kernel
theorem dX12_next_297 : decode cX12_next 297 = .ok (.getfield 249, 3) := by decide +kernel
theorem dX12_next_300 : decode cX12_next 300 = .ok (.ldc2_w 219, 3) := by decide +kernel
theorem dX12_next_303 : decode cX12_next 303 = .ok (.lmul, 1) := by decide +kernel
theorem dX12_next_304 : decode cX12_next 304 = .ok (.aload_n 0, 1) := by decide +kernel
theorem dX12_next_305 : decode cX12_next 305 = .ok (.getfield 35, 3) := by decide +kernel
theorem dX12_next_308 : decode cX12_next 308 = .ok (.aload_n 0, 1) := by decide +kernel
theorem dX12_next_309 : decode cX12_next 309 = .ok (.getfield 236, 3) := by decide +kernel
theorem dX12_next_312 : decode cX12_next 312 = .ok (.iaload, 1) := by decide +kernel
theorem dX12_next_313 : decode cX12_next 313 = .ok (.i2l, 1) := by decide +kernel
theorem dX12_next_314 : decode cX12_next 314 = .ok (.ladd, 1) := by decide +kernel
theorem dX12_next_315 : decode cX12_next 315 = .ok (.ldc2_w 270, 3) := by decide +kernel
theorem dX12_next_318 : decode cX12_next 318 = .ok (.lsub, 1) := by decide +kernel
theorem dX12_next_319 : decode cX12_next 319 = .ok (.putfield 249, 3) := by decide +kernel
theorem dX12_next_322 : decode cX12_next 322 = .ok (.aload_n 0, 1) := by decide +kernel
theorem dX12_next_323 : decode cX12_next 323 = .ok (.dup, 1) := by decide +kernel
theorem dX12_next_324 : decode cX12_next 324 = .ok (.getfield 236, 3) := by decide +kernel
theorem dX12_next_327 : decode cX12_next 327 = .ok (.iconst 1, 1) := by decide +kernel
theorem dX12_next_328 : decode cX12_next 328 = .ok (.iadd, 1) := by decide +kernel
theorem dX12_next_329 : decode cX12_next 329 = .ok (.putfield 236, 3) := by decide +kernel
theorem dX12_next_332 : decode cX12_next 332 = .ok (.goto (-89), 3) := by decide +kernel
theorem dX12_next_289 : decode cX12_next 289 = .ok (.aload_n 0, 1) := by decide +kernel
theorem dX12_next_290 : decode cX12_next 290 = .ok (.getfield 249, 3) := by decide +kernel
theorem dX12_next_293 : decode cX12_next 293 = .ok (.goto 26, 3) := by decide +kernel
theorem dX12_next_113 : decode cX12_next 113 = .ok (.iconst 3, 1) := by decide +kernel
theorem dX12_next_125 : decode cX12_next 125 = .ok (.aload_n 0, 1) := by decide +kernel
theorem dX12_next_126 : decode cX12_next 126 = .ok (.aload_n 0, 1) := by decide +kernel
theorem dX12_next_127 : decode cX12_next 127 = .ok (.getfield 35, 3) := by decide +kernel
theorem dX12_next_130 : decode cX12_next 130 = .ok (.aload_n 0, 1) := by decide +kernel
theorem dX12_next_131 : decode cX12_next 131 = .ok (.getfield 246, 3) := by decide +kernel
theorem dX12_next_134 : decode cX12_next 134 = .ok (.iaload, 1) := by decide +kernel
theorem dX12_next_135 : decode cX12_next 135 = .ok (.i2l, 1) := by decide +kernel
theorem dX12_next_136 : decode cX12_next 136 = .ok (.putfield 249, 3) := by decide +kernel
theorem dX12_next_139 : decode cX12_next 139 = .ok (.aload_n 0, 1) := by decide +kernel
theorem dX12_next_140 : decode cX12_next 140 = .ok (.dup, 1) := by decide +kernel
theorem dX12_next_141 : decode cX12_next 141 = .ok (.getfield 236, 3) := by decide +kernel
theorem dX12_next_144 : decode cX12_next 144 = .ok (.iconst 1, 1) := by decide +kernel
theorem dX12_next_145 : decode cX12_next 145 = .ok (.iadd, 1) := by decide +kernel
theorem dX12_next_146 : decode cX12_next 146 = .ok (.putfield 236, 3) := by decide +kernel
theorem dX12_next_71 : decode cX12_next 71 = .ok (.iconst 0, 1) := by decide +kernel
theorem dX12_next_72 : decode cX12_next 72 = .ok (.goto 42, 3) := by decide +kernel
theorem dX12_begin_0 : decode cX12_begin 0 = .ok (.aload_n 0, 1) := by decide +kernel
theorem dX12_begin_1 : decode cX12_begin 1 = .ok (.iconst 0, 1) := by decide +kernel
theorem dX12_begin_2 : decode cX12_begin 2 = .ok (.putfield 236, 3) := by decide +kernel
theorem dX12_begin_5 : decode cX12_begin 5 = .ok (.aload_n 0, 1) := by decide +kernel
theorem dX12_begin_6 : decode cX12_begin 6 = .ok (.iconst 0, 1) := by decide +kernel
theorem dX12_begin_7 : decode cX12_begin 7 = .ok (.putfield 239, 3) := by decide +kernel
theorem dX12_begin_10 : decode cX12_begin 10 = .ok (.aload_n 0, 1) := by decide +kernel
theorem dX12_begin_11 : decode cX12_begin 11 = .ok (.iconst (-1), 1) := by decide +kernel
theorem dX12_begin_12 : decode cX12_begin 12 = .ok (.putfield 38, 3) := by decide +kernel
theorem dX12_begin_15 : decode cX12_begin 15 = .ok (.aload_n 0, 1) := by decide +kernel
theorem dX12_begin_16 : decode cX12_begin 16 = .ok (.invokevirtual 243, 3) := by decide +kernel
theorem dX12_begin_19 : decode cX12_begin 19 = .ok (.return_, 1) := by decide +kernel
theorem dX12_isWord_0 : decode cX12_isWord 0 = .ok (.aload_n 0, 1) := by decide +kernel
theorem dX12_isWord_1 : decode cX12_isWord 1 = .ok (.getfield 259, 3) := by decide +kernel
theorem dX12_isWord_4 : decode cX12_isWord 4 = .ok (.iconst 1, 1) := by decide +kernel
theorem dX12_isWord_5 : decode cX12_isWord 5 = .ok (.if_icmp .ne 16, 3) := by decide +kernel
theorem dX12_isWord_21 : decode cX12_isWord 21 = .ok (.iconst 0, 1) := by decide +kernel
theorem dX12_isWord_22 : decode cX12_isWord 22 = .ok (.ireturn, 1) := by decide +kernel
theorem dX12_isWord_8 : decode cX12_isWord 8 = .ok (.aload_n 0, 1) := by decide +kernel
theorem dX12_isWord_9 : decode cX12_isWord 9 = .ok (.getfield 249, 3) := by decide +kernel
theorem dX12_isWord_12 : decode cX12_isWord 12 = .ok (.lload_n 1, 1) := by decide +kernel
theorem dX12_isWord_13 : decode cX12_isWord 13 = .ok (.lcmp, 1) := by decide +kernel
theorem dX12_isWord_14 : decode cX12_isWord 14 = .ok (.ifCond .ne 7, 3) := by decide +kernel
theorem dX12_isWord_17 : decode cX12_isWord 17 = .ok (.iconst 1, 1) := by decide +kernel
theorem dX12_isWord_18 : decode cX12_isWord 18 = .ok (.goto 4, 3) := by decide +kernel
theorem dX12_isSign_0 : decode cX12_isSign 0 = .ok (.aload_n 0, 1) := by decide +kernel
theorem dX12_isSign_1 : decode cX12_isSign 1 = .ok (.getfield 259, 3) := by decide +kernel
theorem dX12_isSign_4 : decode cX12_isSign 4 = .ok (.iconst 3, 1) := by decide +kernel
theorem dX12_isSign_5 : decode cX12_isSign 5 = .ok (.if_icmp .ne 17, 3) := by decide +kernel
theorem dX12_isSign_22 : decode cX12_isSign 22 = .ok (.iconst 0, 1) := by decide +kernel
theorem dX12_isSign_23 : decode cX12_isSign 23 = .ok (.ireturn, 1) := by decide +kernel
theorem dX12_isSign_8 : decode cX12_isSign 8 = .ok (.aload_n 0, 1) := by decide +kernel
theorem dX12_isSign_9 : decode cX12_isSign 9 = .ok (.getfield 249, 3) := by decide +kernel
theorem dX12_isSign_12 : decode cX12_isSign 12 = .ok (.iload_n 1, 1) := by decide +kernel
theorem dX12_isSign_13 : decode cX12_isSign 13 = .ok (.i2l, 1) := by decide +kernel
theorem dX12_isSign_14 : decode cX12_isSign 14 = .ok (.lcmp, 1) := by decide +kernel
theorem dX12_isSign_15 : decode cX12_isSign 15 = .ok (.ifCond .ne 7, 3) := by decide +kernel
theorem dX12_isSign_18 : decode cX12_isSign 18 = .ok (.iconst 1, 1) := by decide +kernel
theorem dX12_isSign_19 : decode cX12_isSign 19 = .ok (.goto 4, 3) := by decide +kernel
theorem dX12_must_0 : decode cX12_must 0 = .ok (.aload_n 0, 1) := by decide +kernel
theorem dX12_must_1 : decode cX12_must 1 = .ok (.getfield 239, 3) := by decide +kernel
theorem dX12_must_4 : decode cX12_must 4 = .ok (.ifCond .ne 20, 3) := by decide +kernel
theorem dX12_must_24 : decode cX12_must 24 = .ok (.aload_n 0, 1) := by decide +kernel
theorem dX12_must_25 : decode cX12_must 25 = .ok (.getfield 239, 3) := by decide +kernel
theorem dX12_must_28 : decode cX12_must 28 = .ok (.ifCond .ne 7, 3) := by decide +kernel
theorem dX12_must_35 : decode cX12_must 35 = .ok (.return_, 1) := by decide +kernel
theorem dX12_must_7 : decode cX12_must 7 = .ok (.iload_n 1, 1) := by decide +kernel
theorem dX12_must_8 : decode cX12_must 8 = .ok (.ifCond .ne 16, 3) := by decide +kernel
theorem dX12_must_31 : decode cX12_must 31 = .ok (.aload_n 0, 1) := by decide +kernel
theorem dX12_must_32 : decode cX12_must 32 = .ok (.invokevirtual 243, 3) := by decide +kernel
theorem dX12_must_11 : decode cX12_must 11 = .ok (.aload_n 0, 1) := by decide +kernel
theorem dX12_must_12 : decode cX12_must 12 = .ok (.iconst 1, 1) := by decide +kernel
theorem dX12_must_13 : decode cX12_must 13 = .ok (.putfield 239, 3) := by decide +kernel
theorem dX12_must_16 : decode cX12_must 16 = .ok (.aload_n 0, 1) := by decide +kernel
theorem dX12_must_17 : decode cX12_must 17 = .ok (.aload_n 0, 1) := by decide +kernel
theorem dX12_must_18 : decode cX12_must 18 = .ok (.getfield 246, 3) := by decide +kernel
theorem dX12_must_21 : decode cX12_must 21 = .ok (.putfield 38, 3) := by decide +kernel
theorem dX12_number_0 : decode cX12_number 0 = .ok (.aload_n 0, 1) := by decide +kernel
theorem dX12_number_1 : decode cX12_number 1 = .ok (.getfield 249, 3) := by decide +kernel
theorem dX12_number_4 : decode cX12_number 4 = .ok (.l2i, 1) := by decide +kernel
theorem dX12_number_5 : decode cX12_number 5 = .ok (.istore 5, 2) := by decide +kernel
theorem dX12_number_7 : decode cX12_number 7 = .ok (.aload_n 0, 1) := by decide +kernel
theorem dX12_number_8 : decode cX12_number 8 = .ok (.aload_n 0, 1) := by decide +kernel
theorem dX12_number_9 : decode cX12_number 9 = .ok (.getfield 259, 3) := by decide +kernel
theorem dX12_number_12 : decode cX12_number 12 = .ok (.iconst 2, 1) := by decide +kernel
theorem dX12_number_13 : decode cX12_number 13 = .ok (.if_icmp .ne 19, 3) := by decide +kernel
theorem dX12_number_32 : decode cX12_number 32 = .ok (.iconst 0, 1) := by decide +kernel
theorem dX12_number_33 : decode cX12_number 33 = .ok (.invokevirtual 272, 3) := by decide +kernel
theorem dX12_number_36 : decode cX12_number 36 = .ok (.iload 5, 2) := by decide +kernel
theorem dX12_number_38 : decode cX12_number 38 = .ok (.ireturn, 1) := by decide +kernel
theorem dX12_number_16 : decode cX12_number 16 = .ok (.aload_n 0, 1) := by decide +kernel
theorem dX12_number_17 : decode cX12_number 17 = .ok (.getfield 249, 3) := by decide +kernel
theorem dX12_number_20 : decode cX12_number 20 = .ok (.lload_n 1, 1) := by decide +kernel
theorem dX12_number_21 : decode cX12_number 21 = .ok (.lload_n 3, 1) := by decide +kernel
theorem dX12_number_22 : decode cX12_number 22 = .ok (.invokestatic 178, 3) := by decide +kernel
theorem dX12_number_25 : decode cX12_number 25 = .ok (.ifCond .eq 7, 3) := by decide +kernel
theorem dX12_number_28 : decode cX12_number 28 = .ok (.iconst 1, 1) := by decide +kernel
theorem dX12_number_29 : decode cX12_number 29 = .ok (.goto 4, 3) := by decide +kernel
theorem dX12_partAt_0 : decode cX12_partAt 0 = .ok (.iconst (-1), 1) := by decide +kernel
theorem dX12_partAt_1 : decode cX12_partAt 1 = .ok (.istore_n 1, 1) := by decide +kernel
theorem dX12_partAt_2 : decode cX12_partAt 2 = .ok (.iconst 0, 1) := by decide +kernel
theorem dX12_partAt_3 : decode cX12_partAt 3 = .ok (.istore_n 2, 1) := by decide +kernel
theorem dX12_partAt_4 : decode cX12_partAt 4 = .ok (.iload_n 2, 1) := by decide +kernel
theorem dX12_partAt_5 : decode cX12_partAt 5 = .ok (.bipush 9, 2) := by decide +kernel
theorem dX12_partAt_7 : decode cX12_partAt 7 = .ok (.if_icmp .ge 30, 3) := by decide +kernel
theorem dX12_partAt_10 : decode cX12_partAt 10 = .ok (.aload_n 0, 1) := by decide +kernel
theorem dX12_partAt_11 : decode cX12_partAt 11 = .ok (.aload_n 0, 1) := by decide +kernel
theorem dX12_partAt_12 : decode cX12_partAt 12 = .ok (.getfield 75, 3) := by decide +kernel
theorem dX12_partAt_15 : decode cX12_partAt 15 = .ok (.iload_n 2, 1) := by decide +kernel
theorem dX12_partAt_16 : decode cX12_partAt 16 = .ok (.laload, 1) := by decide +kernel
theorem dX12_partAt_17 : decode cX12_partAt 17 = .ok (.invokevirtual 295, 3) := by decide +kernel
theorem dX12_partAt_20 : decode cX12_partAt 20 = .ok (.ifCond .eq 9, 3) := by decide +kernel
theorem dX12_partAt_23 : decode cX12_partAt 23 = .ok (.iload_n 2, 1) := by decide +kernel
theorem dX12_partAt_24 : decode cX12_partAt 24 = .ok (.iconst 1, 1) := by decide +kernel
theorem dX12_partAt_25 : decode cX12_partAt 25 = .ok (.iadd, 1) := by decide +kernel
theorem dX12_partAt_26 : decode cX12_partAt 26 = .ok (.goto 4, 3) := by decide +kernel
theorem dX12_partAt_30 : decode cX12_partAt 30 = .ok (.istore_n 1, 1) := by decide +kernel
theorem dX12_partAt_31 : decode cX12_partAt 31 = .ok (.iinc 2 1, 3) := by decide +kernel
theorem dX12_partAt_34 : decode cX12_partAt 34 = .ok (.goto (-30), 3) := by decide +kernel
theorem dX12_partAt_29 : decode cX12_partAt 29 = .ok (.iload_n 1, 1) := by decide +kernel
theorem dX12_partAt_37 : decode cX12_partAt 37 = .ok (.iload_n 1, 1) := by decide +kernel
theorem dX12_partAt_38 : decode cX12_partAt 38 = .ok (.ireturn, 1) := by decide +kernel
theorem dX12_orderPartAt_0 : decode cX12_orderPartAt 0 = .ok (.iconst (-1), 1) := by decide +kernel
theorem dX12_orderPartAt_1 : decode cX12_orderPartAt 1 = .ok (.istore_n 1, 1) := by decide +kernel
theorem dX12_orderPartAt_2 : decode cX12_orderPartAt 2 = .ok (.iconst 0, 1) := by decide +kernel
theorem dX12_orderPartAt_3 : decode cX12_orderPartAt 3 = .ok (.istore_n 2, 1) := by decide +kernel
theorem dX12_orderPartAt_4 : decode cX12_orderPartAt 4 = .ok (.iload_n 2, 1) := by decide +kernel
theorem dX12_orderPartAt_5 : decode cX12_orderPartAt 5 = .ok (.bipush 8, 2) := by decide +kernel
theorem dX12_orderPartAt_7 : decode cX12_orderPartAt 7 = .ok (.if_icmp .ge 30, 3) := by decide +kernel
theorem dX12_orderPartAt_10 : decode cX12_orderPartAt 10 = .ok (.aload_n 0, 1) := by decide +kernel
theorem dX12_orderPartAt_11 : decode cX12_orderPartAt 11 = .ok (.aload_n 0, 1) := by decide +kernel
theorem dX12_orderPartAt_12 : decode cX12_orderPartAt 12 = .ok (.getfield 87, 3) := by decide +kernel
theorem dX12_orderPartAt_15 : decode cX12_orderPartAt 15 = .ok (.iload_n 2, 1) := by decide +kernel
theorem dX12_orderPartAt_16 : decode cX12_orderPartAt 16 = .ok (.laload, 1) := by decide +kernel
theorem dX12_orderPartAt_17 : decode cX12_orderPartAt 17 = .ok (.invokevirtual 295, 3) := by decide +kernel
theorem dX12_orderPartAt_20 : decode cX12_orderPartAt 20 = .ok (.ifCond .eq 9, 3) := by decide +kernel
theorem dX12_orderPartAt_23 : decode cX12_orderPartAt 23 = .ok (.iload_n 2, 1) := by decide +kernel
theorem dX12_orderPartAt_24 : decode cX12_orderPartAt 24 = .ok (.iconst 1, 1) := by decide +kernel
theorem dX12_orderPartAt_25 : decode cX12_orderPartAt 25 = .ok (.iadd, 1) := by decide +kernel
theorem dX12_orderPartAt_26 : decode cX12_orderPartAt 26 = .ok (.goto 4, 3) := by decide +kernel
theorem dX12_orderPartAt_30 : decode cX12_orderPartAt 30 = .ok (.istore_n 1, 1) := by decide +kernel
theorem dX12_orderPartAt_31 : decode cX12_orderPartAt 31 = .ok (.iinc 2 1, 3) := by decide +kernel
theorem dX12_orderPartAt_34 : decode cX12_orderPartAt 34 = .ok (.goto (-30), 3) := by decide +kernel
theorem dX12_orderPartAt_29 : decode cX12_orderPartAt 29 = .ok (.iload_n 1, 1) := by decide +kernel
theorem dX12_orderPartAt_37 : decode cX12_orderPartAt 37 = .ok (.iload_n 1, 1) := by decide +kernel
theorem dX12_orderPartAt_38 : decode cX12_orderPartAt 38 = .ok (.ireturn, 1) := by decide +kernel
set_option maxRecDepth 20000 in
theorem ggX12_next_X12_isSmall : GoodIn wsX12_next wsX12_isSmall := goodIn_r _ [16] (by decide +kernel) (by decide +kernel)
set_option maxRecDepth 20000 in
theorem gX12_next_X12_isSmall : GoodIn wsX12_next (va_wsS RX12 253 yX12_isSmall wsX12_isSmall) := goodIn_app (goodIn_of _ (by decide +kernel)) ggX12_next_X12_isSmall
set_option maxRecDepth 20000 in
theorem ggX12_next_X12_isDigit : GoodIn wsX12_next wsX12_isDigit := goodIn_r _ [19] (by decide +kernel) (by decide +kernel)
set_option maxRecDepth 20000 in
theorem gX12_next_X12_isDigit : GoodIn wsX12_next (va_wsS RX12 256 yX12_isDigit wsX12_isDigit) := goodIn_app (goodIn_of _ (by decide +kernel)) ggX12_next_X12_isDigit
set_option maxRecDepth 100000 in
set_option maxHeartbeats 4000000 in
theorem ggX12_begin_X12_next : GoodIn wsX12_begin wsX12_next := goodIn_q _ [8, 22, 25] [1, 9, 10, 11, 12, 13, 14, 15, 16, 17, 18, 19, 20, 21, 7, 23, 24, 26, 27, 28, 29, 30, 31, 32, 33, 34, 35, 36, 37, 38, 39, 40, 41, 42, 43, 44, 45, 46, 47, 48, 49, 50, 51, 52, 53, 54, 55, 56, 57, 58, 59, 60, 61, 62, 63, 64, 65, 66, 67, 68, 69, 70, 71, 72, 73, 74, 75, 76, 77, 78, 79, 80, 81, 82, 83, 84, 85] rfl (by decide +kernel) (by decide +kernel)
set_option maxRecDepth 20000 in
theorem gX12_begin_X12_next : GoodIn wsX12_begin (wsV RX12 243 RX12 yX12_next wsX12_next) := goodIn_app (goodIn_of _ (by decide +kernel)) ggX12_begin_X12_next
set_option maxRecDepth 100000 in
set_option maxHeartbeats 4000000 in
theorem ggX12_must_X12_next : GoodIn wsX12_must wsX12_next := goodIn_q _ [8, 22, 25] [9, 2, 10, 11, 12, 13, 14, 15, 16, 17, 18, 19, 20, 21, 7, 23, 24, 26, 27, 28, 29, 30, 31, 32, 33, 34, 35, 36, 37, 38, 39, 40, 41, 42, 43, 44, 45, 46, 47, 48, 49, 50, 51, 52, 53, 54, 55, 56, 57, 58, 59, 60, 61, 62, 63, 64, 65, 66, 67, 68, 69, 70, 71, 72, 73, 74, 75, 76, 77, 78, 79, 80, 81, 82, 83, 84, 85] rfl (by decide +kernel) (by decide +kernel)
set_option maxRecDepth 20000 in
theorem gX12_must_X12_next : GoodIn wsX12_must (wsV RX12 243 RX12 yX12_next wsX12_next) := goodIn_app (goodIn_of _ (by decide +kernel)) ggX12_must_X12_next
set_option maxRecDepth 100000 in
set_option maxHeartbeats 4000000 in
theorem ggX12_number_X12_must : GoodIn wsX12_number wsX12_must := goodIn_q _ [10, 17, 29, 32] [11, 12, 13, 14, 15, 16, 5, 18, 19, 20, 1, 2, 21, 22, 23, 24, 25, 26, 27, 28, 30, 31, 33, 34, 35, 36, 37, 38, 39, 40, 41, 42, 43, 44, 45, 46, 47, 48, 49, 50, 51, 52, 53, 54, 55, 56, 57, 58, 59, 60, 61, 62, 63, 64, 65, 66, 67, 68, 69, 70, 71, 72, 73, 74, 75, 76, 77, 78, 79, 80, 81, 82, 83, 84, 85, 86, 87, 88, 89, 90, 91, 92] rfl (by decide +kernel) (by decide +kernel)
set_option maxRecDepth 20000 in
theorem gX12_number_X12_must : GoodIn wsX12_number (wsV RX12 272 RX12 yX12_must wsX12_must) := goodIn_app (goodIn_of _ (by decide +kernel)) ggX12_number_X12_must
set_option maxRecDepth 20000 in
theorem ggX12_number_X12_in : GoodIn wsX12_number wsX12_in := goodIn_r _ [6] (by decide +kernel) (by decide +kernel)
set_option maxRecDepth 20000 in
theorem gX12_number_X12_in : GoodIn wsX12_number (va_wsS RX12 178 yX12_in wsX12_in) := goodIn_app (goodIn_of _ (by decide +kernel)) ggX12_number_X12_in
set_option maxRecDepth 100000 in
set_option maxHeartbeats 4000000 in
theorem ggX12_partAt_X12_isWord : GoodIn wsX12_partAt wsX12_isWord := goodIn_q _ [6] [7, 8, 9, 10, 11, 12, 13, 14, 15, 16, 17, 18, 19, 20, 21, 22, 23, 24, 25, 26, 27, 28, 29, 30, 31, 32, 33, 34, 35, 36, 37, 38, 39, 40, 41, 42, 43, 44, 45, 46, 47, 48, 49, 50, 51, 52, 53, 54, 55, 56, 57, 58, 59, 60, 61, 62, 63, 64, 65, 66, 67, 68] rfl (by decide +kernel) (by decide +kernel)
set_option maxRecDepth 20000 in
theorem gX12_partAt_X12_isWord : GoodIn wsX12_partAt (wsV RX12 295 RX12 yX12_isWord wsX12_isWord) := goodIn_app (goodIn_of _ (by decide +kernel)) ggX12_partAt_X12_isWord
set_option maxRecDepth 100000 in
set_option maxHeartbeats 4000000 in
theorem ggX12_orderPartAt_X12_isWord : GoodIn wsX12_orderPartAt wsX12_isWord := goodIn_q _ [6] [7, 8, 9, 10, 11, 12, 13, 14, 15, 16, 17, 18, 19, 20, 21, 22, 23, 24, 25, 26, 27, 28, 29, 30, 31, 32, 33, 34, 35, 36, 37, 38, 39, 40, 41, 42, 43, 44, 45, 46, 47, 48, 49, 50, 51, 52, 53, 54, 55, 56, 57, 58, 59, 60, 61, 62, 63, 64, 65, 66, 67, 68] rfl (by decide +kernel) (by decide +kernel)
set_option maxRecDepth 20000 in
theorem gX12_orderPartAt_X12_isWord : GoodIn wsX12_orderPartAt (wsV RX12 295 RX12 yX12_isWord wsX12_isWord) := goodIn_app (goodIn_of _ (by decide +kernel)) ggX12_orderPartAt_X12_isWord
set_option maxHeartbeats 4000000 in
set_option maxRecDepth 100000 in
theorem v_isSmall (l : Launch) (D : va_G) (K : Nat → ClassId) (X : Int) (x : Int32) (sz : Nat) (qx : x.toInt = X) : Met l yX12_isSmall wsX12_isSmall ({ frames := 0, cells := 0, slots := 0, locals := 0 }) (va_Pc [.int x] (Pre D K [] sz)) (vp_Si (fun r : Int32 => ((r = 1 ∧ 97 ≤ X ∧ X ≤ 122) ∨ (r = 0 ∧ (X < 97 ∨ 122 < X))) ∧ True)) 0 0 (fun _ => False) := by
  refine Met.ofW (cc := cX12_isSmall) (maxL := 1) (ret := (some .boolean)) (by decide) rfl ?_
  intro p e s m args below meth c s₁ B hml hv
  obtain ⟨rfl, hsz, hP, hK, hD0, hN⟩ := hv
  have hx := B.exec
  have hb := B.bytes
  have hr := B.returns
  have hts := atoms_spec (ws := wsX12_isSmall) B.pre
  have hown : s.vm.findClass RX12 = some m.cls := findClass_of_methodNamed B.named
  have hlocks := B.notSynchronized
  subst hsz
  have hD := hD0
  have hP : va_P D vwCl [] s.heap := hP
  have hl := lv_entry [.int x] (n := 1) (Nat.le_of_ble_eq_true rfl)
  rw [lg_entry_eq]
  generalize (lg_sl [.int x] ++ List.replicate (1 - (lg_sl [.int x]).length) Slot.unset).toArray = ls at hl ⊢
  have hl : lv_has ls 1 [(0, .int x)] := hl
  generalize hQ : MQ below _ _ s _ _ _ = Q
  refine lv_iload_n hx hb dX12_isSmall_0 rfl (lv_at hl 0 rfl) ?_
  refine lv_bipush (v := 97) hx hb dX12_isSmall_1 (by decide) ?_
  refine lv_icmp_lt (tgt := 16) hx hb dX12_isSmall_3 (by decide) (fun c_3 => ?_) (fun c_3 => ?_)
  · have c_3i := i_lt (x := X) (y := 97) qx rfl c_3
    refine lv_iconst (v := 0) hx hb dX12_isSmall_16 (by decide) ?_
    subst hQ
    exact W.zret (v := 0) hx hb hr (by decide) (fun t ht hW => ⟨_, rfl, ⟨(by first | exact Or.inr (⟨rfl, by first | omega | decide | (subst_vars; assumption)⟩)), trivial⟩, ht⟩) (fun q hq => by cases hq) dX12_isSmall_17
  · have c_3i := i_nlt (x := X) (y := 97) qx rfl c_3
    refine lv_iload_n hx hb dX12_isSmall_6 rfl (lv_at hl 0 rfl) ?_
    refine lv_bipush (v := 122) hx hb dX12_isSmall_7 (by decide) ?_
    refine lv_icmp_gt (tgt := 16) hx hb dX12_isSmall_9 (by decide) (fun c_4 => ?_) (fun c_4 => ?_)
    · have c_4i := i_lt (x := 122) (y := X) rfl qx c_4
      refine lv_iconst (v := 0) hx hb dX12_isSmall_16 (by decide) ?_
      subst hQ
      exact W.zret (v := 0) hx hb hr (by decide) (fun t ht hW => ⟨_, rfl, ⟨(by first | exact Or.inr (⟨rfl, by first | omega | decide | (subst_vars; assumption)⟩)), trivial⟩, ht⟩) (fun q hq => by cases hq) dX12_isSmall_17
    · have c_4i := i_nlt (x := 122) (y := X) rfl qx c_4
      refine lv_iconst (v := 1) hx hb dX12_isSmall_12 (by decide) ?_
      refine lv_goto (tgt := 17) hx hb dX12_isSmall_13 (by decide) ?_
      subst hQ
      exact W.zret (v := 1) hx hb hr (by decide) (fun t ht hW => ⟨_, rfl, ⟨(by first | exact Or.inl ⟨rfl, by first | omega | decide | (subst_vars; assumption), by first | omega | decide | (subst_vars; assumption)⟩), trivial⟩, ht⟩) (fun q hq => by cases hq) dX12_isSmall_17
set_option maxHeartbeats 4000000 in
set_option maxRecDepth 100000 in
theorem v_isDigit (l : Launch) (D : va_G) (K : Nat → ClassId) (X : Int) (x : Int32) (sz : Nat) (qx : x.toInt = X) : Met l yX12_isDigit wsX12_isDigit ({ frames := 0, cells := 0, slots := 0, locals := 0 }) (va_Pc [.int x] (Pre D K [] sz)) (vp_Si (fun r : Int32 => ((r = 1 ∧ 48 ≤ X ∧ X ≤ 57) ∨ (r = 0 ∧ (X < 48 ∨ 57 < X))) ∧ True)) 0 0 (fun _ => False) := by
  refine Met.ofW (cc := cX12_isDigit) (maxL := 1) (ret := (some .boolean)) (by decide) rfl ?_
  intro p e s m args below meth c s₁ B hml hv
  obtain ⟨rfl, hsz, hP, hK, hD0, hN⟩ := hv
  have hx := B.exec
  have hb := B.bytes
  have hr := B.returns
  have hts := atoms_spec (ws := wsX12_isDigit) B.pre
  have hown : s.vm.findClass RX12 = some m.cls := findClass_of_methodNamed B.named
  have hlocks := B.notSynchronized
  subst hsz
  have hD := hD0
  have hP : va_P D vwCl [] s.heap := hP
  have hl := lv_entry [.int x] (n := 1) (Nat.le_of_ble_eq_true rfl)
  rw [lg_entry_eq]
  generalize (lg_sl [.int x] ++ List.replicate (1 - (lg_sl [.int x]).length) Slot.unset).toArray = ls at hl ⊢
  have hl : lv_has ls 1 [(0, .int x)] := hl
  generalize hQ : MQ below _ _ s _ _ _ = Q
  refine lv_iload_n hx hb dX12_isDigit_0 rfl (lv_at hl 0 rfl) ?_
  refine lv_bipush (v := 48) hx hb dX12_isDigit_1 (by decide) ?_
  refine lv_icmp_lt (tgt := 16) hx hb dX12_isDigit_3 (by decide) (fun c_3 => ?_) (fun c_3 => ?_)
  · have c_3i := i_lt (x := X) (y := 48) qx rfl c_3
    refine lv_iconst (v := 0) hx hb dX12_isDigit_16 (by decide) ?_
    subst hQ
    exact W.zret (v := 0) hx hb hr (by decide) (fun t ht hW => ⟨_, rfl, ⟨(by first | exact Or.inr (⟨rfl, by first | omega | decide | (subst_vars; assumption)⟩)), trivial⟩, ht⟩) (fun q hq => by cases hq) dX12_isDigit_17
  · have c_3i := i_nlt (x := X) (y := 48) qx rfl c_3
    refine lv_iload_n hx hb dX12_isDigit_6 rfl (lv_at hl 0 rfl) ?_
    refine lv_bipush (v := 57) hx hb dX12_isDigit_7 (by decide) ?_
    refine lv_icmp_gt (tgt := 16) hx hb dX12_isDigit_9 (by decide) (fun c_4 => ?_) (fun c_4 => ?_)
    · have c_4i := i_lt (x := 57) (y := X) rfl qx c_4
      refine lv_iconst (v := 0) hx hb dX12_isDigit_16 (by decide) ?_
      subst hQ
      exact W.zret (v := 0) hx hb hr (by decide) (fun t ht hW => ⟨_, rfl, ⟨(by first | exact Or.inr (⟨rfl, by first | omega | decide | (subst_vars; assumption)⟩)), trivial⟩, ht⟩) (fun q hq => by cases hq) dX12_isDigit_17
    · have c_4i := i_nlt (x := 57) (y := X) rfl qx c_4
      refine lv_iconst (v := 1) hx hb dX12_isDigit_12 (by decide) ?_
      refine lv_goto (tgt := 17) hx hb dX12_isDigit_13 (by decide) ?_
      subst hQ
      exact W.zret (v := 1) hx hb hr (by decide) (fun t ht hW => ⟨_, rfl, ⟨(by first | exact Or.inl ⟨rfl, by first | omega | decide | (subst_vars; assumption), by first | omega | decide | (subst_vars; assumption)⟩), trivial⟩, ht⟩) (fun q hq => by cases hq) dX12_isDigit_17
set_option maxHeartbeats 4000000 in
set_option maxRecDepth 100000 in
theorem v_next (l : Launch) (D : va_G) (K : Nat → ClassId) (m0 : Nat) (m_0 : Value) (m_1 : Value) (m_2 : Value) (m_3 : Value) (m_4 : Value) (m_5 : Value) (m_6 : Value) (m_7 : Value) (m_8 : Value) (m_9 : Value) (m_10 : Value) (m_11 : Value) (t0 : Nat) (ta : Int32) (fr : Int32) (to : Int32) (so : Int32) (wo : Int64) (m_18 : Value) (m_19 : Value) (m_20 : Value) (m_21 : Value) (m_22 : Value) (m_23 : Value) (m_24 : Value) (m_25 : Value) (m_26 : Value) (m_27 : Value) (m_28 : Value) (m_29 : Value) (m_30 : Value) (m_31 : Value) (m_32 : Value) (m_33 : Value) (m_34 : Value) (m_35 : Value) (m_36 : Value) (m_37 : Value) (m_38 : Value) (m_39 : Value) (m_40 : Value) (m_41 : Value) (m_42 : Value) (m_43 : Value) (m_44 : Value) (m_45 : Value) (m_46 : Value) (m_47 : Value) (m_48 : Value) (m_49 : Value) (m_50 : Value) (m_51 : Value) (m_52 : Value) (m_53 : Value) (m_54 : Value) (m_55 : Value) (m_56 : Value) (m_57 : Value) (m_58 : Value) (m_59 : Value) (ft : Nat → Int32) (sz : Nat) (zto : 0 ≤ to.toInt ∧ to.toInt ≤ ta.toInt ∧ ta.toInt ≤ 400) : Met l yX12_next wsX12_next ({ frames := 1, cells := 0, slots := 0, locals := 20 }) (va_Pc [.ref m0] (Pre D K [(m0, .inr (12, [m_0, m_1, m_2, m_3, m_4, m_5, m_6, m_7, m_8, m_9, m_10, m_11, .ref t0, .int ta, .int fr, .int to, .int so, .long wo, m_18, m_19, m_20, m_21, m_22, m_23, m_24, m_25, m_26, m_27, m_28, m_29, m_30, m_31, m_32, m_33, m_34, m_35, m_36, m_37, m_38, m_39, m_40, m_41, m_42, m_43, m_44, m_45, m_46, m_47, m_48, m_49, m_50, m_51, m_52, m_53, m_54, m_55, m_56, m_57, m_58, m_59])), (t0, .inl (K 0, 400, .inl ft))] sz)) (va_Qv (S := Su) (fun (u : Su) => (0 ≤ (u.2.2.2.1 0).toInt ∧ (u.2.2.2.1 0).toInt ≤ 400) ∧ (0 ≤ (u.2.2.2.1 1).toInt ∧ (u.2.2.2.1 1).toInt ≤ 401) ∧ (0 ≤ (u.2.2.2.1 2).toInt ∧ (u.2.2.2.1 2).toInt ≤ 3) ∧ (((0 ≤ (u.2.2.2.1 0).toInt ∧ (u.2.2.2.1 0).toInt ≤ (u.2.2.2.1 1).toInt ∧ (u.2.2.2.1 1).toInt ≤ ta.toInt) ∧ ((u.2.2.2.1 2).toInt = 0 ∨ (u.2.2.2.1 0).toInt < (u.2.2.2.1 1).toInt) ∧ ((u.2.2.2.1 2).toInt ≠ 1 ∨ (u.2.2.2.1 0).toInt + 1 < (u.2.2.2.1 1).toInt ∨ (u.2.2.2.2.1 0).toInt ≤ 26))) ∧ (to.toInt ≤ (u.2.2.2.1 0).toInt) ∧ True) (fun u t => Wd D (va_A [(m0, .inr (12, [m_0, m_1, m_2, m_3, m_4, m_5, m_6, m_7, m_8, m_9, m_10, m_11, .ref t0, .int ta, .int fr, .int to, .int so, .long wo, m_18, m_19, m_20, m_21, m_22, m_23, m_24, m_25, m_26, m_27, m_28, m_29, m_30, m_31, m_32, m_33, m_34, m_35, m_36, m_37, m_38, m_39, m_40, m_41, m_42, m_43, m_44, m_45, m_46, m_47, m_48, m_49, m_50, m_51, m_52, m_53, m_54, m_55, m_56, m_57, m_58, m_59])), (t0, .inl (K 0, 400, .inl ft))] sz) ((fun u => [(m0, .inr (12, [m_0, m_1, m_2, m_3, m_4, m_5, m_6, m_7, m_8, m_9, m_10, m_11, .ref t0, .int ta, .int (u.2.2.2.1 0), .int (u.2.2.2.1 1), .int (u.2.2.2.1 2), .long (u.2.2.2.2.1 0), m_18, m_19, m_20, m_21, m_22, m_23, m_24, m_25, m_26, m_27, m_28, m_29, m_30, m_31, m_32, m_33, m_34, m_35, m_36, m_37, m_38, m_39, m_40, m_41, m_42, m_43, m_44, m_45, m_46, m_47, m_48, m_49, m_50, m_51, m_52, m_53, m_54, m_55, m_56, m_57, m_58, m_59])), (t0, .inl (K 0, 400, .inl ft))]) u) t) (va_A [(m0, .inr (12, [m_0, m_1, m_2, m_3, m_4, m_5, m_6, m_7, m_8, m_9, m_10, m_11, .ref t0, .int ta, .int fr, .int to, .int so, .long wo, m_18, m_19, m_20, m_21, m_22, m_23, m_24, m_25, m_26, m_27, m_28, m_29, m_30, m_31, m_32, m_33, m_34, m_35, m_36, m_37, m_38, m_39, m_40, m_41, m_42, m_43, m_44, m_45, m_46, m_47, m_48, m_49, m_50, m_51, m_52, m_53, m_54, m_55, m_56, m_57, m_58, m_59])), (t0, .inl (K 0, 400, .inl ft))] sz)) 0 0 (va_A [(m0, .inr (12, [m_0, m_1, m_2, m_3, m_4, m_5, m_6, m_7, m_8, m_9, m_10, m_11, .ref t0, .int ta, .int fr, .int to, .int so, .long wo, m_18, m_19, m_20, m_21, m_22, m_23, m_24, m_25, m_26, m_27, m_28, m_29, m_30, m_31, m_32, m_33, m_34, m_35, m_36, m_37, m_38, m_39, m_40, m_41, m_42, m_43, m_44, m_45, m_46, m_47, m_48, m_49, m_50, m_51, m_52, m_53, m_54, m_55, m_56, m_57, m_58, m_59])), (t0, .inl (K 0, 400, .inl ft))] sz) := by
  refine Met.ofW (cc := cX12_next) (maxL := 1) (ret := none) (by decide) rfl ?_
  intro p e s m args below meth c s₁ B hml hv
  obtain ⟨rfl, hsz, hP, hK, hD0, hN⟩ := hv
  have hx := B.exec
  have hb := B.bytes
  have hr := B.returns
  have hts := atoms_spec (ws := wsX12_next) B.pre
  have hown : s.vm.findClass RX12 = some m.cls := findClass_of_methodNamed B.named
  have hlocks := B.notSynchronized
  subst hsz
  have hD := hD0.self (sz := s.heap.size)
  generalize hAe : va_A [(m0, .inr (12, [m_0, m_1, m_2, m_3, m_4, m_5, m_6, m_7, m_8, m_9, m_10, m_11, .ref t0, .int ta, .int fr, .int to, .int so, .long wo, m_18, m_19, m_20, m_21, m_22, m_23, m_24, m_25, m_26, m_27, m_28, m_29, m_30, m_31, m_32, m_33, m_34, m_35, m_36, m_37, m_38, m_39, m_40, m_41, m_42, m_43, m_44, m_45, m_46, m_47, m_48, m_49, m_50, m_51, m_52, m_53, m_54, m_55, m_56, m_57, m_58, m_59])), (t0, .inl (K 0, 400, .inl ft))] s.heap.size = A at hD ⊢
  have hA : ∀ q : Nat, s.heap.size ≤ q → A q := fun q h => by rw [← hAe]; exact Or.inr h
  have hS : va_S A s.heap s.heap [] := va_S.rf
  have hP : va_P D vwCl [(m0, .inr (12, [m_0, m_1, m_2, m_3, m_4, m_5, m_6, m_7, m_8, m_9, m_10, m_11, .ref t0, .int ta, .int fr, .int to, .int so, .long wo, m_18, m_19, m_20, m_21, m_22, m_23, m_24, m_25, m_26, m_27, m_28, m_29, m_30, m_31, m_32, m_33, m_34, m_35, m_36, m_37, m_38, m_39, m_40, m_41, m_42, m_43, m_44, m_45, m_46, m_47, m_48, m_49, m_50, m_51, m_52, m_53, m_54, m_55, m_56, m_57, m_58, m_59])), (t0, .inl (K 0, 400, .inl ft))] s.heap := hP
  have hl := lv_entry [.ref m0] (n := 1) (Nat.le_of_ble_eq_true rfl)
  rw [lg_entry_eq]
  generalize (lg_sl [.ref m0] ++ List.replicate (1 - (lg_sl [.ref m0]).length) Slot.unset).toArray = ls at hl ⊢
  have hl : lv_has ls 1 [(0, .ref m0)] := hl
  have hw12 : ∀ w ∈ wsX120, w ∈ wsX12_next := fun w h => (List.mem_cons_of_mem _ (List.mem_append_right _ h))
  generalize hQ : MQ below _ _ s _ _ _ = Q
  refine lv_aload_n hx hb dX12_next_0 rfl (lv_at hl 0 rfl) ?_
  refine lv_aload_n hx hb dX12_next_1 rfl (lv_at hl 0 rfl) ?_
  refine va_get (ci := 12) (v := .int to) (C := RX12) (T := TX12) (N := 60) hx hb hts hw12 hown hK hP 0 rfl rfl 15 (by decide) (hts (.fieldLink RX12 236 "SmokeTuneModel" "to" "I") (List.mem_cons_of_mem _ (List.mem_append_left _ (List.mem_of_getElem? (i := 0) rfl)))) (fun _ h9 => h9) rfl dX12_next_2 ?_
  refine va_put (ci := 12) (v := .int to) (ty := .int) (C := RX12) (T := TX12) (N := 60) hx hb hts hw12 tyX12 tyX12_ok nmX12 hown hK hP hD hS 0 rfl rfl 14 (by decide) (hts (.fieldLink RX12 246 "SmokeTuneModel" "from" "I") (List.mem_cons_of_mem _ (List.mem_append_left _ (List.mem_of_getElem? (i := 1) rfl)))) (fun _ h9 => h9) rfl (by decide +kernel) (by first | rfl | decide) (by first | rfl | decide) (Nat.le_of_ble_eq_true rfl) dX12_next_5 (fun H locs hP hD hS => ?_)
  have hP : va_P D vwCl [(m0, .inr (12, [m_0, m_1, m_2, m_3, m_4, m_5, m_6, m_7, m_8, m_9, m_10, m_11, .ref t0, .int ta, .int to, .int to, .int so, .long wo, m_18, m_19, m_20, m_21, m_22, m_23, m_24, m_25, m_26, m_27, m_28, m_29, m_30, m_31, m_32, m_33, m_34, m_35, m_36, m_37, m_38, m_39, m_40, m_41, m_42, m_43, m_44, m_45, m_46, m_47, m_48, m_49, m_50, m_51, m_52, m_53, m_54, m_55, m_56, m_57, m_58, m_59])), (t0, .inl (K 0, 400, .inl ft))] H := hP
  have hD : va_D A [(m0, .inr (12, [m_0, m_1, m_2, m_3, m_4, m_5, m_6, m_7, m_8, m_9, m_10, m_11, .ref t0, .int ta, .int to, .int to, .int so, .long wo, m_18, m_19, m_20, m_21, m_22, m_23, m_24, m_25, m_26, m_27, m_28, m_29, m_30, m_31, m_32, m_33, m_34, m_35, m_36, m_37, m_38, m_39, m_40, m_41, m_42, m_43, m_44, m_45, m_46, m_47, m_48, m_49, m_50, m_51, m_52, m_53, m_54, m_55, m_56, m_57, m_58, m_59])), (t0, .inl (K 0, 400, .inl ft))] := hD
  have lp_1802 : ∀ (nn_ : Nat) (v_1792 : Int32) (hv_1792 : 0 ≤ v_1792.toInt ∧ v_1792.toInt ≤ 400) (hr0_lp_1802 : to.toInt ≤ v_1792.toInt ∧ v_1792.toInt ≤ ta.toInt) (hn : (ta.toInt - v_1792.toInt : Int).toNat < nn_) (H : Heap) (locs : List Loc) (hP : va_P D vwCl [(m0, .inr (12, [m_0, m_1, m_2, m_3, m_4, m_5, m_6, m_7, m_8, m_9, m_10, m_11, .ref t0, .int ta, .int v_1792, .int to, .int so, .long wo, m_18, m_19, m_20, m_21, m_22, m_23, m_24, m_25, m_26, m_27, m_28, m_29, m_30, m_31, m_32, m_33, m_34, m_35, m_36, m_37, m_38, m_39, m_40, m_41, m_42, m_43, m_44, m_45, m_46, m_47, m_48, m_49, m_50, m_51, m_52, m_53, m_54, m_55, m_56, m_57, m_58, m_59])), (t0, .inl (K 0, 400, .inl ft))] H) (hD : va_D A [(m0, .inr (12, [m_0, m_1, m_2, m_3, m_4, m_5, m_6, m_7, m_8, m_9, m_10, m_11, .ref t0, .int ta, .int v_1792, .int to, .int so, .long wo, m_18, m_19, m_20, m_21, m_22, m_23, m_24, m_25, m_26, m_27, m_28, m_29, m_30, m_31, m_32, m_33, m_34, m_35, m_36, m_37, m_38, m_39, m_40, m_41, m_42, m_43, m_44, m_45, m_46, m_47, m_48, m_49, m_50, m_51, m_52, m_53, m_54, m_55, m_56, m_57, m_58, m_59])), (t0, .inl (K 0, 400, .inl ft))]) (hS : va_S A s.heap H locs) (ls : Array Slot) (hl : lv_has ls 1 [(0, .ref m0)]), W p l e ({ frames := 1, cells := 0, slots := 0, locals := 20 }) s m (([.ref m0] : List Value).toArray) below meth c H locs 0 0 Q (F0 m 8 ls []) := by
    intro nn_
    induction nn_ with
    | zero =>
      intro v_1792 hv_1792 hr0_lp_1802 hn H locs hP hD hS ls hl
      exact absurd hn (Nat.not_lt_zero _)
    | succ nn_ ih_1803 =>
      intro v_1792 hv_1792 hr0_lp_1802 hn H locs hP hD hS ls hl
      refine lv_aload_n hx hb dX12_next_8 rfl (lv_at hl 0 rfl) ?_
      refine va_get (ci := 12) (v := .int v_1792) (C := RX12) (T := TX12) (N := 60) hx hb hts hw12 hown hK hP 0 rfl rfl 14 (by decide) (hts (.fieldLink RX12 246 "SmokeTuneModel" "from" "I") (List.mem_cons_of_mem _ (List.mem_append_left _ (List.mem_of_getElem? (i := 1) rfl)))) (fun _ h9 => h9) rfl dX12_next_9 ?_
      refine lv_aload_n hx hb dX12_next_12 rfl (lv_at hl 0 rfl) ?_
      refine va_get (ci := 12) (v := .int ta) (C := RX12) (T := TX12) (N := 60) hx hb hts hw12 hown hK hP 0 rfl rfl 13 (by decide) (hts (.fieldLink RX12 227 "SmokeTuneModel" "taped" "I") (List.mem_cons_of_mem _ (List.mem_append_left _ (List.mem_of_getElem? (i := 2) rfl)))) (fun _ h9 => h9) rfl dX12_next_13 ?_
      refine lv_icmp_ge (tgt := 46) hx hb dX12_next_16 (by decide) (fun c_1804 => ?_) (fun c_1804 => ?_)
      · have c_1804i := i_le (x := ta.toInt) (y := v_1792.toInt) rfl rfl c_1804
        refine lv_aload_n hx hb dX12_next_46 rfl (lv_at hl 0 rfl) ?_
        refine lv_aload_n hx hb dX12_next_47 rfl (lv_at hl 0 rfl) ?_
        refine va_get (ci := 12) (v := .int v_1792) (C := RX12) (T := TX12) (N := 60) hx hb hts hw12 hown hK hP 0 rfl rfl 14 (by decide) (hts (.fieldLink RX12 246 "SmokeTuneModel" "from" "I") (List.mem_cons_of_mem _ (List.mem_append_left _ (List.mem_of_getElem? (i := 1) rfl)))) (fun _ h9 => h9) rfl dX12_next_48 ?_
        refine va_put (ci := 12) (v := .int v_1792) (ty := .int) (C := RX12) (T := TX12) (N := 60) hx hb hts hw12 tyX12 tyX12_ok nmX12 hown hK hP hD hS 0 rfl rfl 15 (by decide) (hts (.fieldLink RX12 236 "SmokeTuneModel" "to" "I") (List.mem_cons_of_mem _ (List.mem_append_left _ (List.mem_of_getElem? (i := 0) rfl)))) (fun _ h9 => h9) rfl (by decide +kernel) (by first | rfl | decide) (by first | rfl | decide) (Nat.le_of_ble_eq_true rfl) dX12_next_51 (fun H locs hP hD hS => ?_)
        have hP : va_P D vwCl [(m0, .inr (12, [m_0, m_1, m_2, m_3, m_4, m_5, m_6, m_7, m_8, m_9, m_10, m_11, .ref t0, .int ta, .int v_1792, .int v_1792, .int so, .long wo, m_18, m_19, m_20, m_21, m_22, m_23, m_24, m_25, m_26, m_27, m_28, m_29, m_30, m_31, m_32, m_33, m_34, m_35, m_36, m_37, m_38, m_39, m_40, m_41, m_42, m_43, m_44, m_45, m_46, m_47, m_48, m_49, m_50, m_51, m_52, m_53, m_54, m_55, m_56, m_57, m_58, m_59])), (t0, .inl (K 0, 400, .inl ft))] H := hP
        have hD : va_D A [(m0, .inr (12, [m_0, m_1, m_2, m_3, m_4, m_5, m_6, m_7, m_8, m_9, m_10, m_11, .ref t0, .int ta, .int v_1792, .int v_1792, .int so, .long wo, m_18, m_19, m_20, m_21, m_22, m_23, m_24, m_25, m_26, m_27, m_28, m_29, m_30, m_31, m_32, m_33, m_34, m_35, m_36, m_37, m_38, m_39, m_40, m_41, m_42, m_43, m_44, m_45, m_46, m_47, m_48, m_49, m_50, m_51, m_52, m_53, m_54, m_55, m_56, m_57, m_58, m_59])), (t0, .inl (K 0, 400, .inl ft))] := hD
        refine lv_aload_n hx hb dX12_next_54 rfl (lv_at hl 0 rfl) ?_
        refine lv_lconst (v := 0) hx hb dX12_next_55 (by decide) ?_
        refine va_put (ci := 12) (v := .long 0) (ty := .long) (C := RX12) (T := TX12) (N := 60) hx hb hts hw12 tyX12 tyX12_ok nmX12 hown hK hP hD hS 0 rfl rfl 17 (by decide) (hts (.fieldLink RX12 249 "SmokeTuneModel" "worth" "J") (List.mem_cons_of_mem _ (List.mem_append_left _ (List.mem_of_getElem? (i := 4) rfl)))) (fun _ h9 => h9) rfl (by decide +kernel) (by first | rfl | decide) (by first | rfl | decide) (Nat.le_of_ble_eq_true rfl) dX12_next_56 (fun H locs hP hD hS => ?_)
        have hP : va_P D vwCl [(m0, .inr (12, [m_0, m_1, m_2, m_3, m_4, m_5, m_6, m_7, m_8, m_9, m_10, m_11, .ref t0, .int ta, .int v_1792, .int v_1792, .int so, .long 0, m_18, m_19, m_20, m_21, m_22, m_23, m_24, m_25, m_26, m_27, m_28, m_29, m_30, m_31, m_32, m_33, m_34, m_35, m_36, m_37, m_38, m_39, m_40, m_41, m_42, m_43, m_44, m_45, m_46, m_47, m_48, m_49, m_50, m_51, m_52, m_53, m_54, m_55, m_56, m_57, m_58, m_59])), (t0, .inl (K 0, 400, .inl ft))] H := hP
        have hD : va_D A [(m0, .inr (12, [m_0, m_1, m_2, m_3, m_4, m_5, m_6, m_7, m_8, m_9, m_10, m_11, .ref t0, .int ta, .int v_1792, .int v_1792, .int so, .long 0, m_18, m_19, m_20, m_21, m_22, m_23, m_24, m_25, m_26, m_27, m_28, m_29, m_30, m_31, m_32, m_33, m_34, m_35, m_36, m_37, m_38, m_39, m_40, m_41, m_42, m_43, m_44, m_45, m_46, m_47, m_48, m_49, m_50, m_51, m_52, m_53, m_54, m_55, m_56, m_57, m_58, m_59])), (t0, .inl (K 0, 400, .inl ft))] := hD
        refine lv_aload_n hx hb dX12_next_59 rfl (lv_at hl 0 rfl) ?_
        refine lv_aload_n hx hb dX12_next_60 rfl (lv_at hl 0 rfl) ?_
        refine va_get (ci := 12) (v := .int v_1792) (C := RX12) (T := TX12) (N := 60) hx hb hts hw12 hown hK hP 0 rfl rfl 14 (by decide) (hts (.fieldLink RX12 246 "SmokeTuneModel" "from" "I") (List.mem_cons_of_mem _ (List.mem_append_left _ (List.mem_of_getElem? (i := 1) rfl)))) (fun _ h9 => h9) rfl dX12_next_61 ?_
        refine lv_aload_n hx hb dX12_next_64 rfl (lv_at hl 0 rfl) ?_
        refine va_get (ci := 12) (v := .int ta) (C := RX12) (T := TX12) (N := 60) hx hb hts hw12 hown hK hP 0 rfl rfl 13 (by decide) (hts (.fieldLink RX12 227 "SmokeTuneModel" "taped" "I") (List.mem_cons_of_mem _ (List.mem_append_left _ (List.mem_of_getElem? (i := 2) rfl)))) (fun _ h9 => h9) rfl dX12_next_65 ?_
        refine lv_icmp_ne (tgt := 75) hx hb dX12_next_68 (by decide) (fun c_1805 => ?_) (fun c_1805 => ?_)
        · have c_1805i := i_ne (x := v_1792.toInt) (y := ta.toInt) rfl rfl c_1805
          refine lv_aload_n hx hb dX12_next_75 rfl (lv_at hl 0 rfl) ?_
          refine va_get (ci := 12) (v := .ref t0) (C := RX12) (T := TX12) (N := 60) hx hb hts hw12 hown hK hP 0 rfl rfl 12 (by decide) (hts (.fieldLink RX12 35 "SmokeTuneModel" "tape" "[I") (List.mem_cons_of_mem _ (List.mem_append_left _ (List.mem_of_getElem? (i := 3) rfl)))) (fun _ h9 => h9) rfl dX12_next_76 ?_
          refine lv_aload_n hx hb dX12_next_79 rfl (lv_at hl 0 rfl) ?_
          refine va_get (ci := 12) (v := .int v_1792) (C := RX12) (T := TX12) (N := 60) hx hb hts hw12 hown hK hP 0 rfl rfl 14 (by decide) (hts (.fieldLink RX12 246 "SmokeTuneModel" "from" "I") (List.mem_cons_of_mem _ (List.mem_append_left _ (List.mem_of_getElem? (i := 1) rfl)))) (fun _ h9 => h9) rfl dX12_next_80 ?_
          refine va_iald hx hb hK hP 1 0 rfl rfl (i_in rfl (by omega)) dX12_next_83 ?_
          refine lv_topi (fun x_1806 ex_1806 => ?_)
          have kx_1806 : ft (v_1792.toInt).toNat = x_1806 := by rw [ex_1806, i_clamp rfl]
          refine pci (va_runS (As := [.int x_1806]) (rest := [.ref m0]) ⟨hx, hb, hml, hown, hts⟩ (v_isSmall l D K x_1806.toInt x_1806 H.size rfl) (va_cwS 1 hts gX12_next_X12_isSmall rfl rfl rfl (by decide +kernel) ⟨Nat.le_of_ble_eq_true rfl, Nat.le_of_ble_eq_true rfl⟩) (mkS hK hN (va_P.nil) (va_D.nil (A := fun _ => True))) rfl rfl hl.1 rfl (lv_room (Nat.le_of_ble_eq_true rfl)) dX12_next_84 ⟨Nat.le_of_ble_eq_true rfl, Nat.le_of_ble_eq_true rfl⟩) (fun r_1807 hw => ?_)
          obtain ⟨hw, -⟩ := hw
          rcases hw with ⟨rfl, h_1808, h_1809⟩ | ⟨rfl, h_1810⟩
          · refine lv_if_eq (tgt := 94) hx hb dX12_next_87 (by decide) (fun c_1811 => absurd c_1811 (by decide)) (fun c_1811 => ?_)
            refine lv_iconst (v := 1) hx hb dX12_next_90 (by decide) ?_
            refine lv_goto (tgt := 114) hx hb dX12_next_91 (by decide) ?_
            refine va_put (ci := 12) (v := .int 1) (ty := .int) (C := RX12) (T := TX12) (N := 60) hx hb hts hw12 tyX12 tyX12_ok nmX12 hown hK hP hD hS 0 rfl rfl 16 (by decide) (hts (.fieldLink RX12 259 "SmokeTuneModel" "sort" "I") (List.mem_cons_of_mem _ (List.mem_append_left _ (List.mem_of_getElem? (i := 5) rfl)))) (fun _ h9 => h9) rfl (by decide +kernel) (by first | rfl | decide) (by first | rfl | decide) (Nat.le_of_ble_eq_true rfl) dX12_next_114 (fun H locs hP hD hS => ?_)
            have hP : va_P D vwCl [(m0, .inr (12, [m_0, m_1, m_2, m_3, m_4, m_5, m_6, m_7, m_8, m_9, m_10, m_11, .ref t0, .int ta, .int v_1792, .int v_1792, .int 1, .long 0, m_18, m_19, m_20, m_21, m_22, m_23, m_24, m_25, m_26, m_27, m_28, m_29, m_30, m_31, m_32, m_33, m_34, m_35, m_36, m_37, m_38, m_39, m_40, m_41, m_42, m_43, m_44, m_45, m_46, m_47, m_48, m_49, m_50, m_51, m_52, m_53, m_54, m_55, m_56, m_57, m_58, m_59])), (t0, .inl (K 0, 400, .inl ft))] H := hP
            have hD : va_D A [(m0, .inr (12, [m_0, m_1, m_2, m_3, m_4, m_5, m_6, m_7, m_8, m_9, m_10, m_11, .ref t0, .int ta, .int v_1792, .int v_1792, .int 1, .long 0, m_18, m_19, m_20, m_21, m_22, m_23, m_24, m_25, m_26, m_27, m_28, m_29, m_30, m_31, m_32, m_33, m_34, m_35, m_36, m_37, m_38, m_39, m_40, m_41, m_42, m_43, m_44, m_45, m_46, m_47, m_48, m_49, m_50, m_51, m_52, m_53, m_54, m_55, m_56, m_57, m_58, m_59])), (t0, .inl (K 0, 400, .inl ft))] := hD
            refine lv_aload_n hx hb dX12_next_117 rfl (lv_at hl 0 rfl) ?_
            refine va_get (ci := 12) (v := .int 1) (C := RX12) (T := TX12) (N := 60) hx hb hts hw12 hown hK hP 0 rfl rfl 16 (by decide) (hts (.fieldLink RX12 259 "SmokeTuneModel" "sort" "I") (List.mem_cons_of_mem _ (List.mem_append_left _ (List.mem_of_getElem? (i := 5) rfl)))) (fun _ h9 => h9) rfl dX12_next_118 ?_
            refine lv_iconst (v := 3) hx hb dX12_next_121 (by decide) ?_
            refine lv_icmp_ne (tgt := 149) hx hb dX12_next_122 (by decide) (fun c_1812 => ?_) (fun c_1812 => absurd c_1812 (by decide))
            refine lv_aload_n hx hb dX12_next_149 rfl (lv_at hl 0 rfl) ?_
            refine va_get (ci := 12) (v := .int 1) (C := RX12) (T := TX12) (N := 60) hx hb hts hw12 hown hK hP 0 rfl rfl 16 (by decide) (hts (.fieldLink RX12 259 "SmokeTuneModel" "sort" "I") (List.mem_cons_of_mem _ (List.mem_append_left _ (List.mem_of_getElem? (i := 5) rfl)))) (fun _ h9 => h9) rfl dX12_next_150 ?_
            refine lv_iconst (v := 1) hx hb dX12_next_153 (by decide) ?_
            refine lv_icmp_ne (tgt := 243) hx hb dX12_next_154 (by decide) (fun c_1813 => absurd (by decide) c_1813) (fun c_1813 => ?_)
            refine lv_aload_n hx hb dX12_next_157 rfl (lv_at hl 0 rfl) ?_
            refine va_get (ci := 12) (v := .int v_1792) (C := RX12) (T := TX12) (N := 60) hx hb hts hw12 hown hK hP 0 rfl rfl 15 (by decide) (hts (.fieldLink RX12 236 "SmokeTuneModel" "to" "I") (List.mem_cons_of_mem _ (List.mem_append_left _ (List.mem_of_getElem? (i := 0) rfl)))) (fun _ h9 => h9) rfl dX12_next_158 ?_
            refine lv_aload_n hx hb dX12_next_161 rfl (lv_at hl 0 rfl) ?_
            refine va_get (ci := 12) (v := .int ta) (C := RX12) (T := TX12) (N := 60) hx hb hts hw12 hown hK hP 0 rfl rfl 13 (by decide) (hts (.fieldLink RX12 227 "SmokeTuneModel" "taped" "I") (List.mem_cons_of_mem _ (List.mem_append_left _ (List.mem_of_getElem? (i := 2) rfl)))) (fun _ h9 => h9) rfl dX12_next_162 ?_
            refine lv_icmp_ge (tgt := 243) hx hb dX12_next_165 (by decide) (fun c_1814 => ?_) (fun c_1814 => ?_)
            · have c_1814i := i_le (x := ta.toInt) (y := v_1792.toInt) rfl rfl c_1814
              refine lv_aload_n hx hb dX12_next_243 rfl (lv_at hl 0 rfl) ?_
              refine va_get (ci := 12) (v := .int 1) (C := RX12) (T := TX12) (N := 60) hx hb hts hw12 hown hK hP 0 rfl rfl 16 (by decide) (hts (.fieldLink RX12 259 "SmokeTuneModel" "sort" "I") (List.mem_cons_of_mem _ (List.mem_append_left _ (List.mem_of_getElem? (i := 5) rfl)))) (fun _ h9 => h9) rfl dX12_next_244 ?_
              refine lv_iconst (v := 2) hx hb dX12_next_247 (by decide) ?_
              refine lv_icmp_ne (tgt := 335) hx hb dX12_next_248 (by decide) (fun c_1815 => ?_) (fun c_1815 => absurd c_1815 (by decide))
              subst hQ
              have hP9 := hP.sub (ws' := [(m0, .inr (12, [m_0, m_1, m_2, m_3, m_4, m_5, m_6, m_7, m_8, m_9, m_10, m_11, .ref t0, .int ta, .int v_1792, .int v_1792, .int 1, .long 0, m_18, m_19, m_20, m_21, m_22, m_23, m_24, m_25, m_26, m_27, m_28, m_29, m_30, m_31, m_32, m_33, m_34, m_35, m_36, m_37, m_38, m_39, m_40, m_41, m_42, m_43, m_44, m_45, m_46, m_47, m_48, m_49, m_50, m_51, m_52, m_53, m_54, m_55, m_56, m_57, m_58, m_59])), (t0, .inl (K 0, 400, .inl ft))]) [0, 1] rfl
              have hD9 := hD.sub (ws' := [(m0, .inr (12, [m_0, m_1, m_2, m_3, m_4, m_5, m_6, m_7, m_8, m_9, m_10, m_11, .ref t0, .int ta, .int v_1792, .int v_1792, .int 1, .long 0, m_18, m_19, m_20, m_21, m_22, m_23, m_24, m_25, m_26, m_27, m_28, m_29, m_30, m_31, m_32, m_33, m_34, m_35, m_36, m_37, m_38, m_39, m_40, m_41, m_42, m_43, m_44, m_45, m_46, m_47, m_48, m_49, m_50, m_51, m_52, m_53, m_54, m_55, m_56, m_57, m_58, m_59])), (t0, .inl (K 0, 400, .inl ft))]) [0, 1] (by decide) rfl
              exact W.vret hx hb hr (fun t ht hW => ⟨⟨((fun _ => 0, fun _ => fun _ => 0, fun _ => fun _ => 0, fun i => match i with | 0 => v_1792 | 1 => v_1792 | _ => 1, fun i => match i with | _ => 0, fun _ => fun _ => none) : Su), rfl, ⟨(show 0 ≤ (v_1792 : Int32).toInt ∧ (v_1792 : Int32).toInt ≤ 400 by omega), (show 0 ≤ (v_1792 : Int32).toInt ∧ (v_1792 : Int32).toInt ≤ 401 by omega), (show 0 ≤ (1 : Int32).toInt ∧ (1 : Int32).toInt ≤ 3 by decide), (show ((0 ≤ (v_1792 : Int32).toInt ∧ (v_1792 : Int32).toInt ≤ (v_1792 : Int32).toInt ∧ (v_1792 : Int32).toInt ≤ ta.toInt) ∧ (1 = 0 ∨ (v_1792 : Int32).toInt < (v_1792 : Int32).toInt) ∧ (1 ≠ 1 ∨ (v_1792 : Int32).toInt + 1 < (v_1792 : Int32).toInt ∨ 0 ≤ 26)) by omega), (show to.toInt ≤ (v_1792 : Int32).toInt by omega), trivial⟩, (⟨by rw [ht]; exact hP9, hD9⟩ : Wd D A _ t)⟩, hS.F ht⟩) hS.2.2 dX12_next_335
            · have c_1814i := i_nle (x := ta.toInt) (y := v_1792.toInt) rfl rfl c_1814
              refine lv_aload_n hx hb dX12_next_168 rfl (lv_at hl 0 rfl) ?_
              refine va_get (ci := 12) (v := .ref t0) (C := RX12) (T := TX12) (N := 60) hx hb hts hw12 hown hK hP 0 rfl rfl 12 (by decide) (hts (.fieldLink RX12 35 "SmokeTuneModel" "tape" "[I") (List.mem_cons_of_mem _ (List.mem_append_left _ (List.mem_of_getElem? (i := 3) rfl)))) (fun _ h9 => h9) rfl dX12_next_169 ?_
              refine lv_aload_n hx hb dX12_next_172 rfl (lv_at hl 0 rfl) ?_
              refine va_get (ci := 12) (v := .int v_1792) (C := RX12) (T := TX12) (N := 60) hx hb hts hw12 hown hK hP 0 rfl rfl 15 (by decide) (hts (.fieldLink RX12 236 "SmokeTuneModel" "to" "I") (List.mem_cons_of_mem _ (List.mem_append_left _ (List.mem_of_getElem? (i := 0) rfl)))) (fun _ h9 => h9) rfl dX12_next_173 ?_
              refine va_iald hx hb hK hP 1 0 rfl rfl (i_in rfl (by omega)) dX12_next_176 ?_
              refine lv_topi (fun x_1816 ex_1816 => ?_)
              obtain rfl : x_1816 = x_1806 := ex_1816.trans (by rw [i_clamp rfl]; exact kx_1806)
              refine pci (va_runS (As := [.int x_1806]) (rest := []) ⟨hx, hb, hml, hown, hts⟩ (v_isSmall l D K x_1806.toInt x_1806 H.size rfl) (va_cwS 1 hts gX12_next_X12_isSmall rfl rfl rfl (by decide +kernel) ⟨Nat.le_of_ble_eq_true rfl, Nat.le_of_ble_eq_true rfl⟩) (mkS hK hN (va_P.nil) (va_D.nil (A := fun _ => True))) rfl rfl hl.1 rfl (lv_room (Nat.le_of_ble_eq_true rfl)) dX12_next_177 ⟨Nat.le_of_ble_eq_true rfl, Nat.le_of_ble_eq_true rfl⟩) (fun r_1817 hw => ?_)
              obtain ⟨hw, -⟩ := hw
              rcases hw with ⟨rfl, h_1818, h_1819⟩ | ⟨rfl, h_1820⟩
              · refine lv_if_eq (tgt := 243) hx hb dX12_next_180 (by decide) (fun c_1821 => absurd c_1821 (by decide)) (fun c_1821 => ?_)
                refine lv_aload_n hx hb dX12_next_183 rfl (lv_at hl 0 rfl) ?_
                refine lv_aload_n hx hb dX12_next_184 rfl (lv_at hl 0 rfl) ?_
                refine va_get (ci := 12) (v := .int v_1792) (C := RX12) (T := TX12) (N := 60) hx hb hts hw12 hown hK hP 0 rfl rfl 15 (by decide) (hts (.fieldLink RX12 236 "SmokeTuneModel" "to" "I") (List.mem_cons_of_mem _ (List.mem_append_left _ (List.mem_of_getElem? (i := 0) rfl)))) (fun _ h9 => h9) rfl dX12_next_185 ?_
                refine lv_aload_n hx hb dX12_next_188 rfl (lv_at hl 0 rfl) ?_
                refine va_get (ci := 12) (v := .int v_1792) (C := RX12) (T := TX12) (N := 60) hx hb hts hw12 hown hK hP 0 rfl rfl 14 (by decide) (hts (.fieldLink RX12 246 "SmokeTuneModel" "from" "I") (List.mem_cons_of_mem _ (List.mem_append_left _ (List.mem_of_getElem? (i := 1) rfl)))) (fun _ h9 => h9) rfl dX12_next_189 ?_
                refine lv_isub hx hb dX12_next_192 ?_
                refine lv_topi (fun x_1822 ex_1822 => ?_)
                have hx_1822 : x_1822.toInt = (v_1792.toInt - v_1792.toInt) := by rw [ex_1822]; exact i_sub rfl rfl (by omega)
                refine lv_bipush (v := 10) hx hb dX12_next_193 (by decide) ?_
                refine lv_icmp_ge (tgt := 224) hx hb dX12_next_195 (by decide) (fun c_1823 => ?_) (fun c_1823 => ?_)
                · have c_1823i := i_le (x := 10) (y := (v_1792.toInt - v_1792.toInt)) rfl hx_1822 c_1823
                  refine lv_ldc2 (v := (-1)) hx hb hown (hts (.constantLong RX12 266 (-1)) (List.mem_cons_of_mem _ (List.mem_append_left _ (List.mem_of_getElem? (i := 8) rfl)))) dX12_next_224 ?_
                  refine va_put (ci := 12) (v := .long (-1)) (ty := .long) (C := RX12) (T := TX12) (N := 60) hx hb hts hw12 tyX12 tyX12_ok nmX12 hown hK hP hD hS 0 rfl rfl 17 (by decide) (hts (.fieldLink RX12 249 "SmokeTuneModel" "worth" "J") (List.mem_cons_of_mem _ (List.mem_append_left _ (List.mem_of_getElem? (i := 4) rfl)))) (fun _ h9 => h9) rfl (by decide +kernel) (by first | rfl | decide) (by first | rfl | decide) (Nat.le_of_ble_eq_true rfl) dX12_next_227 (fun H locs hP hD hS => ?_)
                  have hP : va_P D vwCl [(m0, .inr (12, [m_0, m_1, m_2, m_3, m_4, m_5, m_6, m_7, m_8, m_9, m_10, m_11, .ref t0, .int ta, .int v_1792, .int v_1792, .int 1, .long (-1), m_18, m_19, m_20, m_21, m_22, m_23, m_24, m_25, m_26, m_27, m_28, m_29, m_30, m_31, m_32, m_33, m_34, m_35, m_36, m_37, m_38, m_39, m_40, m_41, m_42, m_43, m_44, m_45, m_46, m_47, m_48, m_49, m_50, m_51, m_52, m_53, m_54, m_55, m_56, m_57, m_58, m_59])), (t0, .inl (K 0, 400, .inl ft))] H := hP
                  have hD : va_D A [(m0, .inr (12, [m_0, m_1, m_2, m_3, m_4, m_5, m_6, m_7, m_8, m_9, m_10, m_11, .ref t0, .int ta, .int v_1792, .int v_1792, .int 1, .long (-1), m_18, m_19, m_20, m_21, m_22, m_23, m_24, m_25, m_26, m_27, m_28, m_29, m_30, m_31, m_32, m_33, m_34, m_35, m_36, m_37, m_38, m_39, m_40, m_41, m_42, m_43, m_44, m_45, m_46, m_47, m_48, m_49, m_50, m_51, m_52, m_53, m_54, m_55, m_56, m_57, m_58, m_59])), (t0, .inl (K 0, 400, .inl ft))] := hD
                  refine lv_aload_n hx hb dX12_next_230 rfl (lv_at hl 0 rfl) ?_
                  refine lv_dup hx hb dX12_next_231 rfl ?_
                  refine va_get (ci := 12) (v := .int v_1792) (C := RX12) (T := TX12) (N := 60) hx hb hts hw12 hown hK hP 0 rfl rfl 15 (by decide) (hts (.fieldLink RX12 236 "SmokeTuneModel" "to" "I") (List.mem_cons_of_mem _ (List.mem_append_left _ (List.mem_of_getElem? (i := 0) rfl)))) (fun _ h9 => h9) rfl dX12_next_232 ?_
                  refine lv_iconst (v := 1) hx hb dX12_next_235 (by decide) ?_
                  refine lv_iadd hx hb dX12_next_236 ?_
                  refine lv_topi (fun x_1824 ex_1824 => ?_)
                  have hx_1824 : x_1824.toInt = (v_1792.toInt + 1) := by rw [ex_1824]; exact i_add rfl (show (1 : Int32).toInt = 1 from rfl) (by omega)
                  refine va_put (ci := 12) (v := .int x_1824) (ty := .int) (C := RX12) (T := TX12) (N := 60) hx hb hts hw12 tyX12 tyX12_ok nmX12 hown hK hP hD hS 0 rfl rfl 15 (by decide) (hts (.fieldLink RX12 236 "SmokeTuneModel" "to" "I") (List.mem_cons_of_mem _ (List.mem_append_left _ (List.mem_of_getElem? (i := 0) rfl)))) (fun _ h9 => h9) rfl (by decide +kernel) (by first | rfl | decide) (by first | rfl | decide) (Nat.le_of_ble_eq_true rfl) dX12_next_237 (fun H locs hP hD hS => ?_)
                  have hP : va_P D vwCl [(m0, .inr (12, [m_0, m_1, m_2, m_3, m_4, m_5, m_6, m_7, m_8, m_9, m_10, m_11, .ref t0, .int ta, .int v_1792, .int x_1824, .int 1, .long (-1), m_18, m_19, m_20, m_21, m_22, m_23, m_24, m_25, m_26, m_27, m_28, m_29, m_30, m_31, m_32, m_33, m_34, m_35, m_36, m_37, m_38, m_39, m_40, m_41, m_42, m_43, m_44, m_45, m_46, m_47, m_48, m_49, m_50, m_51, m_52, m_53, m_54, m_55, m_56, m_57, m_58, m_59])), (t0, .inl (K 0, 400, .inl ft))] H := hP
                  have hD : va_D A [(m0, .inr (12, [m_0, m_1, m_2, m_3, m_4, m_5, m_6, m_7, m_8, m_9, m_10, m_11, .ref t0, .int ta, .int v_1792, .int x_1824, .int 1, .long (-1), m_18, m_19, m_20, m_21, m_22, m_23, m_24, m_25, m_26, m_27, m_28, m_29, m_30, m_31, m_32, m_33, m_34, m_35, m_36, m_37, m_38, m_39, m_40, m_41, m_42, m_43, m_44, m_45, m_46, m_47, m_48, m_49, m_50, m_51, m_52, m_53, m_54, m_55, m_56, m_57, m_58, m_59])), (t0, .inl (K 0, 400, .inl ft))] := hD
                  refine lv_goto (tgt := 149) hx hb dX12_next_240 (by decide) ?_
                  have lp_1943 : ∀ (nn_ : Nat) (v_1903 : Int32) (v_1904 : Int64) (hv_1903 : 1 ≤ v_1903.toInt ∧ v_1903.toInt ≤ 400) (hr0_lp_1943 : v_1792.toInt < v_1903.toInt ∧ v_1903.toInt ≤ ta.toInt ∧ (v_1792.toInt + 1 < v_1903.toInt ∨ v_1904.toInt ≤ 26)) (hn : (ta.toInt - v_1903.toInt : Int).toNat < nn_) (H : Heap) (locs : List Loc) (hP : va_P D vwCl [(m0, .inr (12, [m_0, m_1, m_2, m_3, m_4, m_5, m_6, m_7, m_8, m_9, m_10, m_11, .ref t0, .int ta, .int v_1792, .int v_1903, .int 1, .long v_1904, m_18, m_19, m_20, m_21, m_22, m_23, m_24, m_25, m_26, m_27, m_28, m_29, m_30, m_31, m_32, m_33, m_34, m_35, m_36, m_37, m_38, m_39, m_40, m_41, m_42, m_43, m_44, m_45, m_46, m_47, m_48, m_49, m_50, m_51, m_52, m_53, m_54, m_55, m_56, m_57, m_58, m_59])), (t0, .inl (K 0, 400, .inl ft))] H) (hD : va_D A [(m0, .inr (12, [m_0, m_1, m_2, m_3, m_4, m_5, m_6, m_7, m_8, m_9, m_10, m_11, .ref t0, .int ta, .int v_1792, .int v_1903, .int 1, .long v_1904, m_18, m_19, m_20, m_21, m_22, m_23, m_24, m_25, m_26, m_27, m_28, m_29, m_30, m_31, m_32, m_33, m_34, m_35, m_36, m_37, m_38, m_39, m_40, m_41, m_42, m_43, m_44, m_45, m_46, m_47, m_48, m_49, m_50, m_51, m_52, m_53, m_54, m_55, m_56, m_57, m_58, m_59])), (t0, .inl (K 0, 400, .inl ft))]) (hS : va_S A s.heap H locs) (ls : Array Slot) (hl : lv_has ls 1 [(0, .ref m0)]), W p l e ({ frames := 1, cells := 0, slots := 0, locals := 20 }) s m (([.ref m0] : List Value).toArray) below meth c H locs 0 0 Q (F0 m 149 ls []) := by
                    intro nn_
                    induction nn_ with
                    | zero =>
                      intro v_1903 v_1904 hv_1903 hr0_lp_1943 hn H locs hP hD hS ls hl
                      exact absurd hn (Nat.not_lt_zero _)
                    | succ nn_ ih_1944 =>
                      intro v_1903 v_1904 hv_1903 hr0_lp_1943 hn H locs hP hD hS ls hl
                      refine lv_aload_n hx hb dX12_next_149 rfl (lv_at hl 0 rfl) ?_
                      refine va_get (ci := 12) (v := .int 1) (C := RX12) (T := TX12) (N := 60) hx hb hts hw12 hown hK hP 0 rfl rfl 16 (by decide) (hts (.fieldLink RX12 259 "SmokeTuneModel" "sort" "I") (List.mem_cons_of_mem _ (List.mem_append_left _ (List.mem_of_getElem? (i := 5) rfl)))) (fun _ h9 => h9) rfl dX12_next_150 ?_
                      refine lv_iconst (v := 1) hx hb dX12_next_153 (by decide) ?_
                      refine lv_icmp_ne (tgt := 243) hx hb dX12_next_154 (by decide) (fun c_1945 => absurd (by decide) c_1945) (fun c_1945 => ?_)
                      refine lv_aload_n hx hb dX12_next_157 rfl (lv_at hl 0 rfl) ?_
                      refine va_get (ci := 12) (v := .int v_1903) (C := RX12) (T := TX12) (N := 60) hx hb hts hw12 hown hK hP 0 rfl rfl 15 (by decide) (hts (.fieldLink RX12 236 "SmokeTuneModel" "to" "I") (List.mem_cons_of_mem _ (List.mem_append_left _ (List.mem_of_getElem? (i := 0) rfl)))) (fun _ h9 => h9) rfl dX12_next_158 ?_
                      refine lv_aload_n hx hb dX12_next_161 rfl (lv_at hl 0 rfl) ?_
                      refine va_get (ci := 12) (v := .int ta) (C := RX12) (T := TX12) (N := 60) hx hb hts hw12 hown hK hP 0 rfl rfl 13 (by decide) (hts (.fieldLink RX12 227 "SmokeTuneModel" "taped" "I") (List.mem_cons_of_mem _ (List.mem_append_left _ (List.mem_of_getElem? (i := 2) rfl)))) (fun _ h9 => h9) rfl dX12_next_162 ?_
                      refine lv_icmp_ge (tgt := 243) hx hb dX12_next_165 (by decide) (fun c_1946 => ?_) (fun c_1946 => ?_)
                      · have c_1946i := i_le (x := ta.toInt) (y := v_1903.toInt) rfl rfl c_1946
                        refine lv_aload_n hx hb dX12_next_243 rfl (lv_at hl 0 rfl) ?_
                        refine va_get (ci := 12) (v := .int 1) (C := RX12) (T := TX12) (N := 60) hx hb hts hw12 hown hK hP 0 rfl rfl 16 (by decide) (hts (.fieldLink RX12 259 "SmokeTuneModel" "sort" "I") (List.mem_cons_of_mem _ (List.mem_append_left _ (List.mem_of_getElem? (i := 5) rfl)))) (fun _ h9 => h9) rfl dX12_next_244 ?_
                        refine lv_iconst (v := 2) hx hb dX12_next_247 (by decide) ?_
                        refine lv_icmp_ne (tgt := 335) hx hb dX12_next_248 (by decide) (fun c_1947 => ?_) (fun c_1947 => absurd c_1947 (by decide))
                        subst hQ
                        have hP9 := hP.sub (ws' := [(m0, .inr (12, [m_0, m_1, m_2, m_3, m_4, m_5, m_6, m_7, m_8, m_9, m_10, m_11, .ref t0, .int ta, .int v_1792, .int v_1903, .int 1, .long v_1904, m_18, m_19, m_20, m_21, m_22, m_23, m_24, m_25, m_26, m_27, m_28, m_29, m_30, m_31, m_32, m_33, m_34, m_35, m_36, m_37, m_38, m_39, m_40, m_41, m_42, m_43, m_44, m_45, m_46, m_47, m_48, m_49, m_50, m_51, m_52, m_53, m_54, m_55, m_56, m_57, m_58, m_59])), (t0, .inl (K 0, 400, .inl ft))]) [0, 1] rfl
                        have hD9 := hD.sub (ws' := [(m0, .inr (12, [m_0, m_1, m_2, m_3, m_4, m_5, m_6, m_7, m_8, m_9, m_10, m_11, .ref t0, .int ta, .int v_1792, .int v_1903, .int 1, .long v_1904, m_18, m_19, m_20, m_21, m_22, m_23, m_24, m_25, m_26, m_27, m_28, m_29, m_30, m_31, m_32, m_33, m_34, m_35, m_36, m_37, m_38, m_39, m_40, m_41, m_42, m_43, m_44, m_45, m_46, m_47, m_48, m_49, m_50, m_51, m_52, m_53, m_54, m_55, m_56, m_57, m_58, m_59])), (t0, .inl (K 0, 400, .inl ft))]) [0, 1] (by decide) rfl
                        exact W.vret hx hb hr (fun t ht hW => ⟨⟨((fun _ => 0, fun _ => fun _ => 0, fun _ => fun _ => 0, fun i => match i with | 0 => v_1792 | 1 => v_1903 | _ => 1, fun i => match i with | _ => v_1904, fun _ => fun _ => none) : Su), rfl, ⟨(show 0 ≤ (v_1792 : Int32).toInt ∧ (v_1792 : Int32).toInt ≤ 400 by omega), (show 0 ≤ (v_1903 : Int32).toInt ∧ (v_1903 : Int32).toInt ≤ 401 by omega), (show 0 ≤ (1 : Int32).toInt ∧ (1 : Int32).toInt ≤ 3 by decide), (show ((0 ≤ (v_1792 : Int32).toInt ∧ (v_1792 : Int32).toInt ≤ (v_1903 : Int32).toInt ∧ (v_1903 : Int32).toInt ≤ ta.toInt) ∧ (1 = 0 ∨ (v_1792 : Int32).toInt < (v_1903 : Int32).toInt) ∧ (1 ≠ 1 ∨ (v_1792 : Int32).toInt + 1 < (v_1903 : Int32).toInt ∨ (v_1904 : Int64).toInt ≤ 26)) by omega), (show to.toInt ≤ (v_1792 : Int32).toInt by omega), trivial⟩, (⟨by rw [ht]; exact hP9, hD9⟩ : Wd D A _ t)⟩, hS.F ht⟩) hS.2.2 dX12_next_335
                      · have c_1946i := i_nle (x := ta.toInt) (y := v_1903.toInt) rfl rfl c_1946
                        refine lv_aload_n hx hb dX12_next_168 rfl (lv_at hl 0 rfl) ?_
                        refine va_get (ci := 12) (v := .ref t0) (C := RX12) (T := TX12) (N := 60) hx hb hts hw12 hown hK hP 0 rfl rfl 12 (by decide) (hts (.fieldLink RX12 35 "SmokeTuneModel" "tape" "[I") (List.mem_cons_of_mem _ (List.mem_append_left _ (List.mem_of_getElem? (i := 3) rfl)))) (fun _ h9 => h9) rfl dX12_next_169 ?_
                        refine lv_aload_n hx hb dX12_next_172 rfl (lv_at hl 0 rfl) ?_
                        refine va_get (ci := 12) (v := .int v_1903) (C := RX12) (T := TX12) (N := 60) hx hb hts hw12 hown hK hP 0 rfl rfl 15 (by decide) (hts (.fieldLink RX12 236 "SmokeTuneModel" "to" "I") (List.mem_cons_of_mem _ (List.mem_append_left _ (List.mem_of_getElem? (i := 0) rfl)))) (fun _ h9 => h9) rfl dX12_next_173 ?_
                        refine va_iald hx hb hK hP 1 0 rfl rfl (i_in rfl (by omega)) dX12_next_176 ?_
                        refine lv_topi (fun x_1948 ex_1948 => ?_)
                        have kx_1948 : ft (v_1903.toInt).toNat = x_1948 := by rw [ex_1948, i_clamp rfl]
                        refine pci (va_runS (As := [.int x_1948]) (rest := []) ⟨hx, hb, hml, hown, hts⟩ (v_isSmall l D K x_1948.toInt x_1948 H.size rfl) (va_cwS 1 hts gX12_next_X12_isSmall rfl rfl rfl (by decide +kernel) ⟨Nat.le_of_ble_eq_true rfl, Nat.le_of_ble_eq_true rfl⟩) (mkS hK hN (va_P.nil) (va_D.nil (A := fun _ => True))) rfl rfl hl.1 rfl (lv_room (Nat.le_of_ble_eq_true rfl)) dX12_next_177 ⟨Nat.le_of_ble_eq_true rfl, Nat.le_of_ble_eq_true rfl⟩) (fun r_1949 hw => ?_)
                        obtain ⟨hw, -⟩ := hw
                        rcases hw with ⟨rfl, h_1950, h_1951⟩ | ⟨rfl, h_1952⟩
                        · refine lv_if_eq (tgt := 243) hx hb dX12_next_180 (by decide) (fun c_1953 => absurd c_1953 (by decide)) (fun c_1953 => ?_)
                          refine lv_aload_n hx hb dX12_next_183 rfl (lv_at hl 0 rfl) ?_
                          refine lv_aload_n hx hb dX12_next_184 rfl (lv_at hl 0 rfl) ?_
                          refine va_get (ci := 12) (v := .int v_1903) (C := RX12) (T := TX12) (N := 60) hx hb hts hw12 hown hK hP 0 rfl rfl 15 (by decide) (hts (.fieldLink RX12 236 "SmokeTuneModel" "to" "I") (List.mem_cons_of_mem _ (List.mem_append_left _ (List.mem_of_getElem? (i := 0) rfl)))) (fun _ h9 => h9) rfl dX12_next_185 ?_
                          refine lv_aload_n hx hb dX12_next_188 rfl (lv_at hl 0 rfl) ?_
                          refine va_get (ci := 12) (v := .int v_1792) (C := RX12) (T := TX12) (N := 60) hx hb hts hw12 hown hK hP 0 rfl rfl 14 (by decide) (hts (.fieldLink RX12 246 "SmokeTuneModel" "from" "I") (List.mem_cons_of_mem _ (List.mem_append_left _ (List.mem_of_getElem? (i := 1) rfl)))) (fun _ h9 => h9) rfl dX12_next_189 ?_
                          refine lv_isub hx hb dX12_next_192 ?_
                          refine lv_topi (fun x_1954 ex_1954 => ?_)
                          have hx_1954 : x_1954.toInt = (v_1903.toInt - v_1792.toInt) := by rw [ex_1954]; exact i_sub rfl rfl (by omega)
                          refine lv_bipush (v := 10) hx hb dX12_next_193 (by decide) ?_
                          refine lv_icmp_ge (tgt := 224) hx hb dX12_next_195 (by decide) (fun c_1955 => ?_) (fun c_1955 => ?_)
                          · have c_1955i := i_le (x := 10) (y := (v_1903.toInt - v_1792.toInt)) rfl hx_1954 c_1955
                            refine lv_ldc2 (v := (-1)) hx hb hown (hts (.constantLong RX12 266 (-1)) (List.mem_cons_of_mem _ (List.mem_append_left _ (List.mem_of_getElem? (i := 8) rfl)))) dX12_next_224 ?_
                            refine va_put (ci := 12) (v := .long (-1)) (ty := .long) (C := RX12) (T := TX12) (N := 60) hx hb hts hw12 tyX12 tyX12_ok nmX12 hown hK hP hD hS 0 rfl rfl 17 (by decide) (hts (.fieldLink RX12 249 "SmokeTuneModel" "worth" "J") (List.mem_cons_of_mem _ (List.mem_append_left _ (List.mem_of_getElem? (i := 4) rfl)))) (fun _ h9 => h9) rfl (by decide +kernel) (by first | rfl | decide) (by first | rfl | decide) (Nat.le_of_ble_eq_true rfl) dX12_next_227 (fun H locs hP hD hS => ?_)
                            have hP : va_P D vwCl [(m0, .inr (12, [m_0, m_1, m_2, m_3, m_4, m_5, m_6, m_7, m_8, m_9, m_10, m_11, .ref t0, .int ta, .int v_1792, .int v_1903, .int 1, .long (-1), m_18, m_19, m_20, m_21, m_22, m_23, m_24, m_25, m_26, m_27, m_28, m_29, m_30, m_31, m_32, m_33, m_34, m_35, m_36, m_37, m_38, m_39, m_40, m_41, m_42, m_43, m_44, m_45, m_46, m_47, m_48, m_49, m_50, m_51, m_52, m_53, m_54, m_55, m_56, m_57, m_58, m_59])), (t0, .inl (K 0, 400, .inl ft))] H := hP
                            have hD : va_D A [(m0, .inr (12, [m_0, m_1, m_2, m_3, m_4, m_5, m_6, m_7, m_8, m_9, m_10, m_11, .ref t0, .int ta, .int v_1792, .int v_1903, .int 1, .long (-1), m_18, m_19, m_20, m_21, m_22, m_23, m_24, m_25, m_26, m_27, m_28, m_29, m_30, m_31, m_32, m_33, m_34, m_35, m_36, m_37, m_38, m_39, m_40, m_41, m_42, m_43, m_44, m_45, m_46, m_47, m_48, m_49, m_50, m_51, m_52, m_53, m_54, m_55, m_56, m_57, m_58, m_59])), (t0, .inl (K 0, 400, .inl ft))] := hD
                            refine lv_aload_n hx hb dX12_next_230 rfl (lv_at hl 0 rfl) ?_
                            refine lv_dup hx hb dX12_next_231 rfl ?_
                            refine va_get (ci := 12) (v := .int v_1903) (C := RX12) (T := TX12) (N := 60) hx hb hts hw12 hown hK hP 0 rfl rfl 15 (by decide) (hts (.fieldLink RX12 236 "SmokeTuneModel" "to" "I") (List.mem_cons_of_mem _ (List.mem_append_left _ (List.mem_of_getElem? (i := 0) rfl)))) (fun _ h9 => h9) rfl dX12_next_232 ?_
                            refine lv_iconst (v := 1) hx hb dX12_next_235 (by decide) ?_
                            refine lv_iadd hx hb dX12_next_236 ?_
                            refine lv_topi (fun x_1956 ex_1956 => ?_)
                            have hx_1956 : x_1956.toInt = (v_1903.toInt + 1) := by rw [ex_1956]; exact i_add rfl (show (1 : Int32).toInt = 1 from rfl) (by omega)
                            refine va_put (ci := 12) (v := .int x_1956) (ty := .int) (C := RX12) (T := TX12) (N := 60) hx hb hts hw12 tyX12 tyX12_ok nmX12 hown hK hP hD hS 0 rfl rfl 15 (by decide) (hts (.fieldLink RX12 236 "SmokeTuneModel" "to" "I") (List.mem_cons_of_mem _ (List.mem_append_left _ (List.mem_of_getElem? (i := 0) rfl)))) (fun _ h9 => h9) rfl (by decide +kernel) (by first | rfl | decide) (by first | rfl | decide) (Nat.le_of_ble_eq_true rfl) dX12_next_237 (fun H locs hP hD hS => ?_)
                            have hP : va_P D vwCl [(m0, .inr (12, [m_0, m_1, m_2, m_3, m_4, m_5, m_6, m_7, m_8, m_9, m_10, m_11, .ref t0, .int ta, .int v_1792, .int x_1956, .int 1, .long (-1), m_18, m_19, m_20, m_21, m_22, m_23, m_24, m_25, m_26, m_27, m_28, m_29, m_30, m_31, m_32, m_33, m_34, m_35, m_36, m_37, m_38, m_39, m_40, m_41, m_42, m_43, m_44, m_45, m_46, m_47, m_48, m_49, m_50, m_51, m_52, m_53, m_54, m_55, m_56, m_57, m_58, m_59])), (t0, .inl (K 0, 400, .inl ft))] H := hP
                            have hD : va_D A [(m0, .inr (12, [m_0, m_1, m_2, m_3, m_4, m_5, m_6, m_7, m_8, m_9, m_10, m_11, .ref t0, .int ta, .int v_1792, .int x_1956, .int 1, .long (-1), m_18, m_19, m_20, m_21, m_22, m_23, m_24, m_25, m_26, m_27, m_28, m_29, m_30, m_31, m_32, m_33, m_34, m_35, m_36, m_37, m_38, m_39, m_40, m_41, m_42, m_43, m_44, m_45, m_46, m_47, m_48, m_49, m_50, m_51, m_52, m_53, m_54, m_55, m_56, m_57, m_58, m_59])), (t0, .inl (K 0, 400, .inl ft))] := hD
                            refine lv_goto (tgt := 149) hx hb dX12_next_240 (by decide) ?_
                            have hz_1957 : ((-1) : Int64).toInt = (-1) := rfl
                            exact ih_1944 x_1956 (-1) (by rw [hx_1956]; omega) (show v_1792.toInt < (x_1956 : Int32).toInt ∧ (x_1956 : Int32).toInt ≤ ta.toInt ∧ (v_1792.toInt + 1 < (x_1956 : Int32).toInt ∨ ((-1) : Int64).toInt ≤ 26) by omega) (by omega) _ _ hP hD hS ls (lv_sub hl [0] rfl)
                          · have c_1955i := i_nle (x := 10) (y := (v_1903.toInt - v_1792.toInt)) rfl hx_1954 c_1955
                            refine lv_aload_n hx hb dX12_next_198 rfl (lv_at hl 0 rfl) ?_
                            refine va_get (ci := 12) (v := .long v_1904) (C := RX12) (T := TX12) (N := 60) hx hb hts hw12 hown hK hP 0 rfl rfl 17 (by decide) (hts (.fieldLink RX12 249 "SmokeTuneModel" "worth" "J") (List.mem_cons_of_mem _ (List.mem_append_left _ (List.mem_of_getElem? (i := 4) rfl)))) (fun _ h9 => h9) rfl dX12_next_199 ?_
                            refine lv_ldc2 (v := 32) hx hb hown (hts (.constantLong RX12 262 (32)) (List.mem_cons_of_mem _ (List.mem_append_left _ (List.mem_of_getElem? (i := 6) rfl)))) dX12_next_202 ?_
                            refine lv_lmul hx hb dX12_next_205 ?_
                            refine lv_topl (fun x_1958 ex_1958 => ?_)
                            refine lv_aload_n hx hb dX12_next_206 rfl (lv_at hl 0 rfl) ?_
                            refine va_get (ci := 12) (v := .ref t0) (C := RX12) (T := TX12) (N := 60) hx hb hts hw12 hown hK hP 0 rfl rfl 12 (by decide) (hts (.fieldLink RX12 35 "SmokeTuneModel" "tape" "[I") (List.mem_cons_of_mem _ (List.mem_append_left _ (List.mem_of_getElem? (i := 3) rfl)))) (fun _ h9 => h9) rfl dX12_next_207 ?_
                            refine lv_aload_n hx hb dX12_next_210 rfl (lv_at hl 0 rfl) ?_
                            refine va_get (ci := 12) (v := .int v_1903) (C := RX12) (T := TX12) (N := 60) hx hb hts hw12 hown hK hP 0 rfl rfl 15 (by decide) (hts (.fieldLink RX12 236 "SmokeTuneModel" "to" "I") (List.mem_cons_of_mem _ (List.mem_append_left _ (List.mem_of_getElem? (i := 0) rfl)))) (fun _ h9 => h9) rfl dX12_next_211 ?_
                            refine va_iald hx hb hK hP 1 0 rfl rfl (i_in rfl (by omega)) dX12_next_214 ?_
                            refine lv_topi (fun x_1959 ex_1959 => ?_)
                            obtain rfl : x_1959 = x_1948 := ex_1959.trans (by rw [i_clamp rfl]; exact kx_1948)
                            refine lv_i2l hx hb dX12_next_215 rfl ?_
                            refine lv_topl (fun x_1960 ex_1960 => ?_)
                            have hx_1960 : x_1960.toInt = x_1948.toInt := by rw [ex_1960]; exact i_wide rfl
                            refine lv_ladd hx hb dX12_next_216 ?_
                            refine lv_topl (fun x_1961 ex_1961 => ?_)
                            refine lv_ldc2 (v := 96) hx hb hown (hts (.constantLong RX12 264 (96)) (List.mem_cons_of_mem _ (List.mem_append_left _ (List.mem_of_getElem? (i := 7) rfl)))) dX12_next_217 ?_
                            refine lv_lsub hx hb dX12_next_220 ?_
                            refine lv_topl (fun x_1962 ex_1962 => ?_)
                            refine lv_goto (tgt := 227) hx hb dX12_next_221 (by decide) ?_
                            refine va_put (ci := 12) (v := .long x_1962) (ty := .long) (C := RX12) (T := TX12) (N := 60) hx hb hts hw12 tyX12 tyX12_ok nmX12 hown hK hP hD hS 0 rfl rfl 17 (by decide) (hts (.fieldLink RX12 249 "SmokeTuneModel" "worth" "J") (List.mem_cons_of_mem _ (List.mem_append_left _ (List.mem_of_getElem? (i := 4) rfl)))) (fun _ h9 => h9) rfl (by decide +kernel) (by first | rfl | decide) (by first | rfl | decide) (Nat.le_of_ble_eq_true rfl) dX12_next_227 (fun H locs hP hD hS => ?_)
                            have hP : va_P D vwCl [(m0, .inr (12, [m_0, m_1, m_2, m_3, m_4, m_5, m_6, m_7, m_8, m_9, m_10, m_11, .ref t0, .int ta, .int v_1792, .int v_1903, .int 1, .long x_1962, m_18, m_19, m_20, m_21, m_22, m_23, m_24, m_25, m_26, m_27, m_28, m_29, m_30, m_31, m_32, m_33, m_34, m_35, m_36, m_37, m_38, m_39, m_40, m_41, m_42, m_43, m_44, m_45, m_46, m_47, m_48, m_49, m_50, m_51, m_52, m_53, m_54, m_55, m_56, m_57, m_58, m_59])), (t0, .inl (K 0, 400, .inl ft))] H := hP
                            have hD : va_D A [(m0, .inr (12, [m_0, m_1, m_2, m_3, m_4, m_5, m_6, m_7, m_8, m_9, m_10, m_11, .ref t0, .int ta, .int v_1792, .int v_1903, .int 1, .long x_1962, m_18, m_19, m_20, m_21, m_22, m_23, m_24, m_25, m_26, m_27, m_28, m_29, m_30, m_31, m_32, m_33, m_34, m_35, m_36, m_37, m_38, m_39, m_40, m_41, m_42, m_43, m_44, m_45, m_46, m_47, m_48, m_49, m_50, m_51, m_52, m_53, m_54, m_55, m_56, m_57, m_58, m_59])), (t0, .inl (K 0, 400, .inl ft))] := hD
                            refine lv_aload_n hx hb dX12_next_230 rfl (lv_at hl 0 rfl) ?_
                            refine lv_dup hx hb dX12_next_231 rfl ?_
                            refine va_get (ci := 12) (v := .int v_1903) (C := RX12) (T := TX12) (N := 60) hx hb hts hw12 hown hK hP 0 rfl rfl 15 (by decide) (hts (.fieldLink RX12 236 "SmokeTuneModel" "to" "I") (List.mem_cons_of_mem _ (List.mem_append_left _ (List.mem_of_getElem? (i := 0) rfl)))) (fun _ h9 => h9) rfl dX12_next_232 ?_
                            refine lv_iconst (v := 1) hx hb dX12_next_235 (by decide) ?_
                            refine lv_iadd hx hb dX12_next_236 ?_
                            refine lv_topi (fun x_1963 ex_1963 => ?_)
                            have hx_1963 : x_1963.toInt = (v_1903.toInt + 1) := by rw [ex_1963]; exact i_add rfl (show (1 : Int32).toInt = 1 from rfl) (by omega)
                            refine va_put (ci := 12) (v := .int x_1963) (ty := .int) (C := RX12) (T := TX12) (N := 60) hx hb hts hw12 tyX12 tyX12_ok nmX12 hown hK hP hD hS 0 rfl rfl 15 (by decide) (hts (.fieldLink RX12 236 "SmokeTuneModel" "to" "I") (List.mem_cons_of_mem _ (List.mem_append_left _ (List.mem_of_getElem? (i := 0) rfl)))) (fun _ h9 => h9) rfl (by decide +kernel) (by first | rfl | decide) (by first | rfl | decide) (Nat.le_of_ble_eq_true rfl) dX12_next_237 (fun H locs hP hD hS => ?_)
                            have hP : va_P D vwCl [(m0, .inr (12, [m_0, m_1, m_2, m_3, m_4, m_5, m_6, m_7, m_8, m_9, m_10, m_11, .ref t0, .int ta, .int v_1792, .int x_1963, .int 1, .long x_1962, m_18, m_19, m_20, m_21, m_22, m_23, m_24, m_25, m_26, m_27, m_28, m_29, m_30, m_31, m_32, m_33, m_34, m_35, m_36, m_37, m_38, m_39, m_40, m_41, m_42, m_43, m_44, m_45, m_46, m_47, m_48, m_49, m_50, m_51, m_52, m_53, m_54, m_55, m_56, m_57, m_58, m_59])), (t0, .inl (K 0, 400, .inl ft))] H := hP
                            have hD : va_D A [(m0, .inr (12, [m_0, m_1, m_2, m_3, m_4, m_5, m_6, m_7, m_8, m_9, m_10, m_11, .ref t0, .int ta, .int v_1792, .int x_1963, .int 1, .long x_1962, m_18, m_19, m_20, m_21, m_22, m_23, m_24, m_25, m_26, m_27, m_28, m_29, m_30, m_31, m_32, m_33, m_34, m_35, m_36, m_37, m_38, m_39, m_40, m_41, m_42, m_43, m_44, m_45, m_46, m_47, m_48, m_49, m_50, m_51, m_52, m_53, m_54, m_55, m_56, m_57, m_58, m_59])), (t0, .inl (K 0, 400, .inl ft))] := hD
                            refine lv_goto (tgt := 149) hx hb dX12_next_240 (by decide) ?_
                            exact ih_1944 x_1963 x_1962 (by rw [hx_1963]; omega) (show v_1792.toInt < (x_1963 : Int32).toInt ∧ (x_1963 : Int32).toInt ≤ ta.toInt ∧ (v_1792.toInt + 1 < (x_1963 : Int32).toInt ∨ (x_1962 : Int64).toInt ≤ 26) by omega) (by omega) _ _ hP hD hS ls (lv_sub hl [0] rfl)
                        · refine lv_if_eq (tgt := 243) hx hb dX12_next_180 (by decide) (fun c_1964 => ?_) (fun c_1964 => absurd (by decide) c_1964)
                          refine lv_aload_n hx hb dX12_next_243 rfl (lv_at hl 0 rfl) ?_
                          refine va_get (ci := 12) (v := .int 1) (C := RX12) (T := TX12) (N := 60) hx hb hts hw12 hown hK hP 0 rfl rfl 16 (by decide) (hts (.fieldLink RX12 259 "SmokeTuneModel" "sort" "I") (List.mem_cons_of_mem _ (List.mem_append_left _ (List.mem_of_getElem? (i := 5) rfl)))) (fun _ h9 => h9) rfl dX12_next_244 ?_
                          refine lv_iconst (v := 2) hx hb dX12_next_247 (by decide) ?_
                          refine lv_icmp_ne (tgt := 335) hx hb dX12_next_248 (by decide) (fun c_1965 => ?_) (fun c_1965 => absurd c_1965 (by decide))
                          subst hQ
                          have hP9 := hP.sub (ws' := [(m0, .inr (12, [m_0, m_1, m_2, m_3, m_4, m_5, m_6, m_7, m_8, m_9, m_10, m_11, .ref t0, .int ta, .int v_1792, .int v_1903, .int 1, .long v_1904, m_18, m_19, m_20, m_21, m_22, m_23, m_24, m_25, m_26, m_27, m_28, m_29, m_30, m_31, m_32, m_33, m_34, m_35, m_36, m_37, m_38, m_39, m_40, m_41, m_42, m_43, m_44, m_45, m_46, m_47, m_48, m_49, m_50, m_51, m_52, m_53, m_54, m_55, m_56, m_57, m_58, m_59])), (t0, .inl (K 0, 400, .inl ft))]) [0, 1] rfl
                          have hD9 := hD.sub (ws' := [(m0, .inr (12, [m_0, m_1, m_2, m_3, m_4, m_5, m_6, m_7, m_8, m_9, m_10, m_11, .ref t0, .int ta, .int v_1792, .int v_1903, .int 1, .long v_1904, m_18, m_19, m_20, m_21, m_22, m_23, m_24, m_25, m_26, m_27, m_28, m_29, m_30, m_31, m_32, m_33, m_34, m_35, m_36, m_37, m_38, m_39, m_40, m_41, m_42, m_43, m_44, m_45, m_46, m_47, m_48, m_49, m_50, m_51, m_52, m_53, m_54, m_55, m_56, m_57, m_58, m_59])), (t0, .inl (K 0, 400, .inl ft))]) [0, 1] (by decide) rfl
                          exact W.vret hx hb hr (fun t ht hW => ⟨⟨((fun _ => 0, fun _ => fun _ => 0, fun _ => fun _ => 0, fun i => match i with | 0 => v_1792 | 1 => v_1903 | _ => 1, fun i => match i with | _ => v_1904, fun _ => fun _ => none) : Su), rfl, ⟨(show 0 ≤ (v_1792 : Int32).toInt ∧ (v_1792 : Int32).toInt ≤ 400 by omega), (show 0 ≤ (v_1903 : Int32).toInt ∧ (v_1903 : Int32).toInt ≤ 401 by omega), (show 0 ≤ (1 : Int32).toInt ∧ (1 : Int32).toInt ≤ 3 by decide), (show ((0 ≤ (v_1792 : Int32).toInt ∧ (v_1792 : Int32).toInt ≤ (v_1903 : Int32).toInt ∧ (v_1903 : Int32).toInt ≤ ta.toInt) ∧ (1 = 0 ∨ (v_1792 : Int32).toInt < (v_1903 : Int32).toInt) ∧ (1 ≠ 1 ∨ (v_1792 : Int32).toInt + 1 < (v_1903 : Int32).toInt ∨ (v_1904 : Int64).toInt ≤ 26)) by omega), (show to.toInt ≤ (v_1792 : Int32).toInt by omega), trivial⟩, (⟨by rw [ht]; exact hP9, hD9⟩ : Wd D A _ t)⟩, hS.F ht⟩) hS.2.2 dX12_next_335
                  have hz_1966 : ((-1) : Int64).toInt = (-1) := rfl
                  exact lp_1943 ((ta.toInt - (x_1824 : Int32).toInt : Int).toNat + 1) x_1824 (-1) (by rw [hx_1824]; omega) (show v_1792.toInt < (x_1824 : Int32).toInt ∧ (x_1824 : Int32).toInt ≤ ta.toInt ∧ (v_1792.toInt + 1 < (x_1824 : Int32).toInt ∨ ((-1) : Int64).toInt ≤ 26) by omega) (Nat.lt_succ_self _) _ _ hP hD hS ls (lv_sub hl [0] rfl)
                · have c_1823i := i_nle (x := 10) (y := (v_1792.toInt - v_1792.toInt)) rfl hx_1822 c_1823
                  refine lv_aload_n hx hb dX12_next_198 rfl (lv_at hl 0 rfl) ?_
                  refine va_get (ci := 12) (v := .long 0) (C := RX12) (T := TX12) (N := 60) hx hb hts hw12 hown hK hP 0 rfl rfl 17 (by decide) (hts (.fieldLink RX12 249 "SmokeTuneModel" "worth" "J") (List.mem_cons_of_mem _ (List.mem_append_left _ (List.mem_of_getElem? (i := 4) rfl)))) (fun _ h9 => h9) rfl dX12_next_199 ?_
                  refine lv_ldc2 (v := 32) hx hb hown (hts (.constantLong RX12 262 (32)) (List.mem_cons_of_mem _ (List.mem_append_left _ (List.mem_of_getElem? (i := 6) rfl)))) dX12_next_202 ?_
                  refine lv_lmul hx hb dX12_next_205 ?_
                  refine lv_topl (fun x_1967 ex_1967 => ?_)
                  obtain rfl : x_1967 = 0 := ex_1967.trans (by first | rfl | decide)
                  refine lv_aload_n hx hb dX12_next_206 rfl (lv_at hl 0 rfl) ?_
                  refine va_get (ci := 12) (v := .ref t0) (C := RX12) (T := TX12) (N := 60) hx hb hts hw12 hown hK hP 0 rfl rfl 12 (by decide) (hts (.fieldLink RX12 35 "SmokeTuneModel" "tape" "[I") (List.mem_cons_of_mem _ (List.mem_append_left _ (List.mem_of_getElem? (i := 3) rfl)))) (fun _ h9 => h9) rfl dX12_next_207 ?_
                  refine lv_aload_n hx hb dX12_next_210 rfl (lv_at hl 0 rfl) ?_
                  refine va_get (ci := 12) (v := .int v_1792) (C := RX12) (T := TX12) (N := 60) hx hb hts hw12 hown hK hP 0 rfl rfl 15 (by decide) (hts (.fieldLink RX12 236 "SmokeTuneModel" "to" "I") (List.mem_cons_of_mem _ (List.mem_append_left _ (List.mem_of_getElem? (i := 0) rfl)))) (fun _ h9 => h9) rfl dX12_next_211 ?_
                  refine va_iald hx hb hK hP 1 0 rfl rfl (i_in rfl (by omega)) dX12_next_214 ?_
                  refine lv_topi (fun x_1968 ex_1968 => ?_)
                  obtain rfl : x_1968 = x_1806 := ex_1968.trans (by rw [i_clamp rfl]; exact kx_1806)
                  refine lv_i2l hx hb dX12_next_215 rfl ?_
                  refine lv_topl (fun x_1969 ex_1969 => ?_)
                  have hx_1969 : x_1969.toInt = x_1806.toInt := by rw [ex_1969]; exact i_wide rfl
                  refine lv_ladd hx hb dX12_next_216 ?_
                  refine lv_topl (fun x_1970 ex_1970 => ?_)
                  have hx_1970 : x_1970.toInt = (0 + x_1806.toInt) := by rw [ex_1970]; exact l_add (show (0 : Int64).toInt = 0 from rfl) hx_1969 (by omega)
                  refine lv_ldc2 (v := 96) hx hb hown (hts (.constantLong RX12 264 (96)) (List.mem_cons_of_mem _ (List.mem_append_left _ (List.mem_of_getElem? (i := 7) rfl)))) dX12_next_217 ?_
                  refine lv_lsub hx hb dX12_next_220 ?_
                  refine lv_topl (fun x_1971 ex_1971 => ?_)
                  have hx_1971 : x_1971.toInt = ((0 + x_1806.toInt) - 96) := by rw [ex_1971]; exact l_sub hx_1970 (show (96 : Int64).toInt = 96 from rfl) (by omega)
                  refine lv_goto (tgt := 227) hx hb dX12_next_221 (by decide) ?_
                  refine va_put (ci := 12) (v := .long x_1971) (ty := .long) (C := RX12) (T := TX12) (N := 60) hx hb hts hw12 tyX12 tyX12_ok nmX12 hown hK hP hD hS 0 rfl rfl 17 (by decide) (hts (.fieldLink RX12 249 "SmokeTuneModel" "worth" "J") (List.mem_cons_of_mem _ (List.mem_append_left _ (List.mem_of_getElem? (i := 4) rfl)))) (fun _ h9 => h9) rfl (by decide +kernel) (by first | rfl | decide) (by first | rfl | decide) (Nat.le_of_ble_eq_true rfl) dX12_next_227 (fun H locs hP hD hS => ?_)
                  have hP : va_P D vwCl [(m0, .inr (12, [m_0, m_1, m_2, m_3, m_4, m_5, m_6, m_7, m_8, m_9, m_10, m_11, .ref t0, .int ta, .int v_1792, .int v_1792, .int 1, .long x_1971, m_18, m_19, m_20, m_21, m_22, m_23, m_24, m_25, m_26, m_27, m_28, m_29, m_30, m_31, m_32, m_33, m_34, m_35, m_36, m_37, m_38, m_39, m_40, m_41, m_42, m_43, m_44, m_45, m_46, m_47, m_48, m_49, m_50, m_51, m_52, m_53, m_54, m_55, m_56, m_57, m_58, m_59])), (t0, .inl (K 0, 400, .inl ft))] H := hP
                  have hD : va_D A [(m0, .inr (12, [m_0, m_1, m_2, m_3, m_4, m_5, m_6, m_7, m_8, m_9, m_10, m_11, .ref t0, .int ta, .int v_1792, .int v_1792, .int 1, .long x_1971, m_18, m_19, m_20, m_21, m_22, m_23, m_24, m_25, m_26, m_27, m_28, m_29, m_30, m_31, m_32, m_33, m_34, m_35, m_36, m_37, m_38, m_39, m_40, m_41, m_42, m_43, m_44, m_45, m_46, m_47, m_48, m_49, m_50, m_51, m_52, m_53, m_54, m_55, m_56, m_57, m_58, m_59])), (t0, .inl (K 0, 400, .inl ft))] := hD
                  refine lv_aload_n hx hb dX12_next_230 rfl (lv_at hl 0 rfl) ?_
                  refine lv_dup hx hb dX12_next_231 rfl ?_
                  refine va_get (ci := 12) (v := .int v_1792) (C := RX12) (T := TX12) (N := 60) hx hb hts hw12 hown hK hP 0 rfl rfl 15 (by decide) (hts (.fieldLink RX12 236 "SmokeTuneModel" "to" "I") (List.mem_cons_of_mem _ (List.mem_append_left _ (List.mem_of_getElem? (i := 0) rfl)))) (fun _ h9 => h9) rfl dX12_next_232 ?_
                  refine lv_iconst (v := 1) hx hb dX12_next_235 (by decide) ?_
                  refine lv_iadd hx hb dX12_next_236 ?_
                  refine lv_topi (fun x_1972 ex_1972 => ?_)
                  have hx_1972 : x_1972.toInt = (v_1792.toInt + 1) := by rw [ex_1972]; exact i_add rfl (show (1 : Int32).toInt = 1 from rfl) (by omega)
                  refine va_put (ci := 12) (v := .int x_1972) (ty := .int) (C := RX12) (T := TX12) (N := 60) hx hb hts hw12 tyX12 tyX12_ok nmX12 hown hK hP hD hS 0 rfl rfl 15 (by decide) (hts (.fieldLink RX12 236 "SmokeTuneModel" "to" "I") (List.mem_cons_of_mem _ (List.mem_append_left _ (List.mem_of_getElem? (i := 0) rfl)))) (fun _ h9 => h9) rfl (by decide +kernel) (by first | rfl | decide) (by first | rfl | decide) (Nat.le_of_ble_eq_true rfl) dX12_next_237 (fun H locs hP hD hS => ?_)
                  have hP : va_P D vwCl [(m0, .inr (12, [m_0, m_1, m_2, m_3, m_4, m_5, m_6, m_7, m_8, m_9, m_10, m_11, .ref t0, .int ta, .int v_1792, .int x_1972, .int 1, .long x_1971, m_18, m_19, m_20, m_21, m_22, m_23, m_24, m_25, m_26, m_27, m_28, m_29, m_30, m_31, m_32, m_33, m_34, m_35, m_36, m_37, m_38, m_39, m_40, m_41, m_42, m_43, m_44, m_45, m_46, m_47, m_48, m_49, m_50, m_51, m_52, m_53, m_54, m_55, m_56, m_57, m_58, m_59])), (t0, .inl (K 0, 400, .inl ft))] H := hP
                  have hD : va_D A [(m0, .inr (12, [m_0, m_1, m_2, m_3, m_4, m_5, m_6, m_7, m_8, m_9, m_10, m_11, .ref t0, .int ta, .int v_1792, .int x_1972, .int 1, .long x_1971, m_18, m_19, m_20, m_21, m_22, m_23, m_24, m_25, m_26, m_27, m_28, m_29, m_30, m_31, m_32, m_33, m_34, m_35, m_36, m_37, m_38, m_39, m_40, m_41, m_42, m_43, m_44, m_45, m_46, m_47, m_48, m_49, m_50, m_51, m_52, m_53, m_54, m_55, m_56, m_57, m_58, m_59])), (t0, .inl (K 0, 400, .inl ft))] := hD
                  refine lv_goto (tgt := 149) hx hb dX12_next_240 (by decide) ?_
                  have lp_2071 : ∀ (nn_ : Nat) (v_2031 : Int32) (v_2032 : Int64) (hv_2031 : 1 ≤ v_2031.toInt ∧ v_2031.toInt ≤ 400) (hr0_lp_2071 : v_1792.toInt < v_2031.toInt ∧ v_2031.toInt ≤ ta.toInt ∧ (v_1792.toInt + 1 < v_2031.toInt ∨ v_2032.toInt ≤ 26)) (hn : (ta.toInt - v_2031.toInt : Int).toNat < nn_) (H : Heap) (locs : List Loc) (hP : va_P D vwCl [(m0, .inr (12, [m_0, m_1, m_2, m_3, m_4, m_5, m_6, m_7, m_8, m_9, m_10, m_11, .ref t0, .int ta, .int v_1792, .int v_2031, .int 1, .long v_2032, m_18, m_19, m_20, m_21, m_22, m_23, m_24, m_25, m_26, m_27, m_28, m_29, m_30, m_31, m_32, m_33, m_34, m_35, m_36, m_37, m_38, m_39, m_40, m_41, m_42, m_43, m_44, m_45, m_46, m_47, m_48, m_49, m_50, m_51, m_52, m_53, m_54, m_55, m_56, m_57, m_58, m_59])), (t0, .inl (K 0, 400, .inl ft))] H) (hD : va_D A [(m0, .inr (12, [m_0, m_1, m_2, m_3, m_4, m_5, m_6, m_7, m_8, m_9, m_10, m_11, .ref t0, .int ta, .int v_1792, .int v_2031, .int 1, .long v_2032, m_18, m_19, m_20, m_21, m_22, m_23, m_24, m_25, m_26, m_27, m_28, m_29, m_30, m_31, m_32, m_33, m_34, m_35, m_36, m_37, m_38, m_39, m_40, m_41, m_42, m_43, m_44, m_45, m_46, m_47, m_48, m_49, m_50, m_51, m_52, m_53, m_54, m_55, m_56, m_57, m_58, m_59])), (t0, .inl (K 0, 400, .inl ft))]) (hS : va_S A s.heap H locs) (ls : Array Slot) (hl : lv_has ls 1 [(0, .ref m0)]), W p l e ({ frames := 1, cells := 0, slots := 0, locals := 20 }) s m (([.ref m0] : List Value).toArray) below meth c H locs 0 0 Q (F0 m 149 ls []) := by
                    intro nn_
                    induction nn_ with
                    | zero =>
                      intro v_2031 v_2032 hv_2031 hr0_lp_2071 hn H locs hP hD hS ls hl
                      exact absurd hn (Nat.not_lt_zero _)
                    | succ nn_ ih_2072 =>
                      intro v_2031 v_2032 hv_2031 hr0_lp_2071 hn H locs hP hD hS ls hl
                      refine lv_aload_n hx hb dX12_next_149 rfl (lv_at hl 0 rfl) ?_
                      refine va_get (ci := 12) (v := .int 1) (C := RX12) (T := TX12) (N := 60) hx hb hts hw12 hown hK hP 0 rfl rfl 16 (by decide) (hts (.fieldLink RX12 259 "SmokeTuneModel" "sort" "I") (List.mem_cons_of_mem _ (List.mem_append_left _ (List.mem_of_getElem? (i := 5) rfl)))) (fun _ h9 => h9) rfl dX12_next_150 ?_
                      refine lv_iconst (v := 1) hx hb dX12_next_153 (by decide) ?_
                      refine lv_icmp_ne (tgt := 243) hx hb dX12_next_154 (by decide) (fun c_2073 => absurd (by decide) c_2073) (fun c_2073 => ?_)
                      refine lv_aload_n hx hb dX12_next_157 rfl (lv_at hl 0 rfl) ?_
                      refine va_get (ci := 12) (v := .int v_2031) (C := RX12) (T := TX12) (N := 60) hx hb hts hw12 hown hK hP 0 rfl rfl 15 (by decide) (hts (.fieldLink RX12 236 "SmokeTuneModel" "to" "I") (List.mem_cons_of_mem _ (List.mem_append_left _ (List.mem_of_getElem? (i := 0) rfl)))) (fun _ h9 => h9) rfl dX12_next_158 ?_
                      refine lv_aload_n hx hb dX12_next_161 rfl (lv_at hl 0 rfl) ?_
                      refine va_get (ci := 12) (v := .int ta) (C := RX12) (T := TX12) (N := 60) hx hb hts hw12 hown hK hP 0 rfl rfl 13 (by decide) (hts (.fieldLink RX12 227 "SmokeTuneModel" "taped" "I") (List.mem_cons_of_mem _ (List.mem_append_left _ (List.mem_of_getElem? (i := 2) rfl)))) (fun _ h9 => h9) rfl dX12_next_162 ?_
                      refine lv_icmp_ge (tgt := 243) hx hb dX12_next_165 (by decide) (fun c_2074 => ?_) (fun c_2074 => ?_)
                      · have c_2074i := i_le (x := ta.toInt) (y := v_2031.toInt) rfl rfl c_2074
                        refine lv_aload_n hx hb dX12_next_243 rfl (lv_at hl 0 rfl) ?_
                        refine va_get (ci := 12) (v := .int 1) (C := RX12) (T := TX12) (N := 60) hx hb hts hw12 hown hK hP 0 rfl rfl 16 (by decide) (hts (.fieldLink RX12 259 "SmokeTuneModel" "sort" "I") (List.mem_cons_of_mem _ (List.mem_append_left _ (List.mem_of_getElem? (i := 5) rfl)))) (fun _ h9 => h9) rfl dX12_next_244 ?_
                        refine lv_iconst (v := 2) hx hb dX12_next_247 (by decide) ?_
                        refine lv_icmp_ne (tgt := 335) hx hb dX12_next_248 (by decide) (fun c_2075 => ?_) (fun c_2075 => absurd c_2075 (by decide))
                        subst hQ
                        have hP9 := hP.sub (ws' := [(m0, .inr (12, [m_0, m_1, m_2, m_3, m_4, m_5, m_6, m_7, m_8, m_9, m_10, m_11, .ref t0, .int ta, .int v_1792, .int v_2031, .int 1, .long v_2032, m_18, m_19, m_20, m_21, m_22, m_23, m_24, m_25, m_26, m_27, m_28, m_29, m_30, m_31, m_32, m_33, m_34, m_35, m_36, m_37, m_38, m_39, m_40, m_41, m_42, m_43, m_44, m_45, m_46, m_47, m_48, m_49, m_50, m_51, m_52, m_53, m_54, m_55, m_56, m_57, m_58, m_59])), (t0, .inl (K 0, 400, .inl ft))]) [0, 1] rfl
                        have hD9 := hD.sub (ws' := [(m0, .inr (12, [m_0, m_1, m_2, m_3, m_4, m_5, m_6, m_7, m_8, m_9, m_10, m_11, .ref t0, .int ta, .int v_1792, .int v_2031, .int 1, .long v_2032, m_18, m_19, m_20, m_21, m_22, m_23, m_24, m_25, m_26, m_27, m_28, m_29, m_30, m_31, m_32, m_33, m_34, m_35, m_36, m_37, m_38, m_39, m_40, m_41, m_42, m_43, m_44, m_45, m_46, m_47, m_48, m_49, m_50, m_51, m_52, m_53, m_54, m_55, m_56, m_57, m_58, m_59])), (t0, .inl (K 0, 400, .inl ft))]) [0, 1] (by decide) rfl
                        exact W.vret hx hb hr (fun t ht hW => ⟨⟨((fun _ => 0, fun _ => fun _ => 0, fun _ => fun _ => 0, fun i => match i with | 0 => v_1792 | 1 => v_2031 | _ => 1, fun i => match i with | _ => v_2032, fun _ => fun _ => none) : Su), rfl, ⟨(show 0 ≤ (v_1792 : Int32).toInt ∧ (v_1792 : Int32).toInt ≤ 400 by omega), (show 0 ≤ (v_2031 : Int32).toInt ∧ (v_2031 : Int32).toInt ≤ 401 by omega), (show 0 ≤ (1 : Int32).toInt ∧ (1 : Int32).toInt ≤ 3 by decide), (show ((0 ≤ (v_1792 : Int32).toInt ∧ (v_1792 : Int32).toInt ≤ (v_2031 : Int32).toInt ∧ (v_2031 : Int32).toInt ≤ ta.toInt) ∧ (1 = 0 ∨ (v_1792 : Int32).toInt < (v_2031 : Int32).toInt) ∧ (1 ≠ 1 ∨ (v_1792 : Int32).toInt + 1 < (v_2031 : Int32).toInt ∨ (v_2032 : Int64).toInt ≤ 26)) by omega), (show to.toInt ≤ (v_1792 : Int32).toInt by omega), trivial⟩, (⟨by rw [ht]; exact hP9, hD9⟩ : Wd D A _ t)⟩, hS.F ht⟩) hS.2.2 dX12_next_335
                      · have c_2074i := i_nle (x := ta.toInt) (y := v_2031.toInt) rfl rfl c_2074
                        refine lv_aload_n hx hb dX12_next_168 rfl (lv_at hl 0 rfl) ?_
                        refine va_get (ci := 12) (v := .ref t0) (C := RX12) (T := TX12) (N := 60) hx hb hts hw12 hown hK hP 0 rfl rfl 12 (by decide) (hts (.fieldLink RX12 35 "SmokeTuneModel" "tape" "[I") (List.mem_cons_of_mem _ (List.mem_append_left _ (List.mem_of_getElem? (i := 3) rfl)))) (fun _ h9 => h9) rfl dX12_next_169 ?_
                        refine lv_aload_n hx hb dX12_next_172 rfl (lv_at hl 0 rfl) ?_
                        refine va_get (ci := 12) (v := .int v_2031) (C := RX12) (T := TX12) (N := 60) hx hb hts hw12 hown hK hP 0 rfl rfl 15 (by decide) (hts (.fieldLink RX12 236 "SmokeTuneModel" "to" "I") (List.mem_cons_of_mem _ (List.mem_append_left _ (List.mem_of_getElem? (i := 0) rfl)))) (fun _ h9 => h9) rfl dX12_next_173 ?_
                        refine va_iald hx hb hK hP 1 0 rfl rfl (i_in rfl (by omega)) dX12_next_176 ?_
                        refine lv_topi (fun x_2076 ex_2076 => ?_)
                        have kx_2076 : ft (v_2031.toInt).toNat = x_2076 := by rw [ex_2076, i_clamp rfl]
                        refine pci (va_runS (As := [.int x_2076]) (rest := []) ⟨hx, hb, hml, hown, hts⟩ (v_isSmall l D K x_2076.toInt x_2076 H.size rfl) (va_cwS 1 hts gX12_next_X12_isSmall rfl rfl rfl (by decide +kernel) ⟨Nat.le_of_ble_eq_true rfl, Nat.le_of_ble_eq_true rfl⟩) (mkS hK hN (va_P.nil) (va_D.nil (A := fun _ => True))) rfl rfl hl.1 rfl (lv_room (Nat.le_of_ble_eq_true rfl)) dX12_next_177 ⟨Nat.le_of_ble_eq_true rfl, Nat.le_of_ble_eq_true rfl⟩) (fun r_2077 hw => ?_)
                        obtain ⟨hw, -⟩ := hw
                        rcases hw with ⟨rfl, h_2078, h_2079⟩ | ⟨rfl, h_2080⟩
                        · refine lv_if_eq (tgt := 243) hx hb dX12_next_180 (by decide) (fun c_2081 => absurd c_2081 (by decide)) (fun c_2081 => ?_)
                          refine lv_aload_n hx hb dX12_next_183 rfl (lv_at hl 0 rfl) ?_
                          refine lv_aload_n hx hb dX12_next_184 rfl (lv_at hl 0 rfl) ?_
                          refine va_get (ci := 12) (v := .int v_2031) (C := RX12) (T := TX12) (N := 60) hx hb hts hw12 hown hK hP 0 rfl rfl 15 (by decide) (hts (.fieldLink RX12 236 "SmokeTuneModel" "to" "I") (List.mem_cons_of_mem _ (List.mem_append_left _ (List.mem_of_getElem? (i := 0) rfl)))) (fun _ h9 => h9) rfl dX12_next_185 ?_
                          refine lv_aload_n hx hb dX12_next_188 rfl (lv_at hl 0 rfl) ?_
                          refine va_get (ci := 12) (v := .int v_1792) (C := RX12) (T := TX12) (N := 60) hx hb hts hw12 hown hK hP 0 rfl rfl 14 (by decide) (hts (.fieldLink RX12 246 "SmokeTuneModel" "from" "I") (List.mem_cons_of_mem _ (List.mem_append_left _ (List.mem_of_getElem? (i := 1) rfl)))) (fun _ h9 => h9) rfl dX12_next_189 ?_
                          refine lv_isub hx hb dX12_next_192 ?_
                          refine lv_topi (fun x_2082 ex_2082 => ?_)
                          have hx_2082 : x_2082.toInt = (v_2031.toInt - v_1792.toInt) := by rw [ex_2082]; exact i_sub rfl rfl (by omega)
                          refine lv_bipush (v := 10) hx hb dX12_next_193 (by decide) ?_
                          refine lv_icmp_ge (tgt := 224) hx hb dX12_next_195 (by decide) (fun c_2083 => ?_) (fun c_2083 => ?_)
                          · have c_2083i := i_le (x := 10) (y := (v_2031.toInt - v_1792.toInt)) rfl hx_2082 c_2083
                            refine lv_ldc2 (v := (-1)) hx hb hown (hts (.constantLong RX12 266 (-1)) (List.mem_cons_of_mem _ (List.mem_append_left _ (List.mem_of_getElem? (i := 8) rfl)))) dX12_next_224 ?_
                            refine va_put (ci := 12) (v := .long (-1)) (ty := .long) (C := RX12) (T := TX12) (N := 60) hx hb hts hw12 tyX12 tyX12_ok nmX12 hown hK hP hD hS 0 rfl rfl 17 (by decide) (hts (.fieldLink RX12 249 "SmokeTuneModel" "worth" "J") (List.mem_cons_of_mem _ (List.mem_append_left _ (List.mem_of_getElem? (i := 4) rfl)))) (fun _ h9 => h9) rfl (by decide +kernel) (by first | rfl | decide) (by first | rfl | decide) (Nat.le_of_ble_eq_true rfl) dX12_next_227 (fun H locs hP hD hS => ?_)
                            have hP : va_P D vwCl [(m0, .inr (12, [m_0, m_1, m_2, m_3, m_4, m_5, m_6, m_7, m_8, m_9, m_10, m_11, .ref t0, .int ta, .int v_1792, .int v_2031, .int 1, .long (-1), m_18, m_19, m_20, m_21, m_22, m_23, m_24, m_25, m_26, m_27, m_28, m_29, m_30, m_31, m_32, m_33, m_34, m_35, m_36, m_37, m_38, m_39, m_40, m_41, m_42, m_43, m_44, m_45, m_46, m_47, m_48, m_49, m_50, m_51, m_52, m_53, m_54, m_55, m_56, m_57, m_58, m_59])), (t0, .inl (K 0, 400, .inl ft))] H := hP
                            have hD : va_D A [(m0, .inr (12, [m_0, m_1, m_2, m_3, m_4, m_5, m_6, m_7, m_8, m_9, m_10, m_11, .ref t0, .int ta, .int v_1792, .int v_2031, .int 1, .long (-1), m_18, m_19, m_20, m_21, m_22, m_23, m_24, m_25, m_26, m_27, m_28, m_29, m_30, m_31, m_32, m_33, m_34, m_35, m_36, m_37, m_38, m_39, m_40, m_41, m_42, m_43, m_44, m_45, m_46, m_47, m_48, m_49, m_50, m_51, m_52, m_53, m_54, m_55, m_56, m_57, m_58, m_59])), (t0, .inl (K 0, 400, .inl ft))] := hD
                            refine lv_aload_n hx hb dX12_next_230 rfl (lv_at hl 0 rfl) ?_
                            refine lv_dup hx hb dX12_next_231 rfl ?_
                            refine va_get (ci := 12) (v := .int v_2031) (C := RX12) (T := TX12) (N := 60) hx hb hts hw12 hown hK hP 0 rfl rfl 15 (by decide) (hts (.fieldLink RX12 236 "SmokeTuneModel" "to" "I") (List.mem_cons_of_mem _ (List.mem_append_left _ (List.mem_of_getElem? (i := 0) rfl)))) (fun _ h9 => h9) rfl dX12_next_232 ?_
                            refine lv_iconst (v := 1) hx hb dX12_next_235 (by decide) ?_
                            refine lv_iadd hx hb dX12_next_236 ?_
                            refine lv_topi (fun x_2084 ex_2084 => ?_)
                            have hx_2084 : x_2084.toInt = (v_2031.toInt + 1) := by rw [ex_2084]; exact i_add rfl (show (1 : Int32).toInt = 1 from rfl) (by omega)
                            refine va_put (ci := 12) (v := .int x_2084) (ty := .int) (C := RX12) (T := TX12) (N := 60) hx hb hts hw12 tyX12 tyX12_ok nmX12 hown hK hP hD hS 0 rfl rfl 15 (by decide) (hts (.fieldLink RX12 236 "SmokeTuneModel" "to" "I") (List.mem_cons_of_mem _ (List.mem_append_left _ (List.mem_of_getElem? (i := 0) rfl)))) (fun _ h9 => h9) rfl (by decide +kernel) (by first | rfl | decide) (by first | rfl | decide) (Nat.le_of_ble_eq_true rfl) dX12_next_237 (fun H locs hP hD hS => ?_)
                            have hP : va_P D vwCl [(m0, .inr (12, [m_0, m_1, m_2, m_3, m_4, m_5, m_6, m_7, m_8, m_9, m_10, m_11, .ref t0, .int ta, .int v_1792, .int x_2084, .int 1, .long (-1), m_18, m_19, m_20, m_21, m_22, m_23, m_24, m_25, m_26, m_27, m_28, m_29, m_30, m_31, m_32, m_33, m_34, m_35, m_36, m_37, m_38, m_39, m_40, m_41, m_42, m_43, m_44, m_45, m_46, m_47, m_48, m_49, m_50, m_51, m_52, m_53, m_54, m_55, m_56, m_57, m_58, m_59])), (t0, .inl (K 0, 400, .inl ft))] H := hP
                            have hD : va_D A [(m0, .inr (12, [m_0, m_1, m_2, m_3, m_4, m_5, m_6, m_7, m_8, m_9, m_10, m_11, .ref t0, .int ta, .int v_1792, .int x_2084, .int 1, .long (-1), m_18, m_19, m_20, m_21, m_22, m_23, m_24, m_25, m_26, m_27, m_28, m_29, m_30, m_31, m_32, m_33, m_34, m_35, m_36, m_37, m_38, m_39, m_40, m_41, m_42, m_43, m_44, m_45, m_46, m_47, m_48, m_49, m_50, m_51, m_52, m_53, m_54, m_55, m_56, m_57, m_58, m_59])), (t0, .inl (K 0, 400, .inl ft))] := hD
                            refine lv_goto (tgt := 149) hx hb dX12_next_240 (by decide) ?_
                            have hz_2085 : ((-1) : Int64).toInt = (-1) := rfl
                            exact ih_2072 x_2084 (-1) (by rw [hx_2084]; omega) (show v_1792.toInt < (x_2084 : Int32).toInt ∧ (x_2084 : Int32).toInt ≤ ta.toInt ∧ (v_1792.toInt + 1 < (x_2084 : Int32).toInt ∨ ((-1) : Int64).toInt ≤ 26) by omega) (by omega) _ _ hP hD hS ls (lv_sub hl [0] rfl)
                          · have c_2083i := i_nle (x := 10) (y := (v_2031.toInt - v_1792.toInt)) rfl hx_2082 c_2083
                            refine lv_aload_n hx hb dX12_next_198 rfl (lv_at hl 0 rfl) ?_
                            refine va_get (ci := 12) (v := .long v_2032) (C := RX12) (T := TX12) (N := 60) hx hb hts hw12 hown hK hP 0 rfl rfl 17 (by decide) (hts (.fieldLink RX12 249 "SmokeTuneModel" "worth" "J") (List.mem_cons_of_mem _ (List.mem_append_left _ (List.mem_of_getElem? (i := 4) rfl)))) (fun _ h9 => h9) rfl dX12_next_199 ?_
                            refine lv_ldc2 (v := 32) hx hb hown (hts (.constantLong RX12 262 (32)) (List.mem_cons_of_mem _ (List.mem_append_left _ (List.mem_of_getElem? (i := 6) rfl)))) dX12_next_202 ?_
                            refine lv_lmul hx hb dX12_next_205 ?_
                            refine lv_topl (fun x_2086 ex_2086 => ?_)
                            refine lv_aload_n hx hb dX12_next_206 rfl (lv_at hl 0 rfl) ?_
                            refine va_get (ci := 12) (v := .ref t0) (C := RX12) (T := TX12) (N := 60) hx hb hts hw12 hown hK hP 0 rfl rfl 12 (by decide) (hts (.fieldLink RX12 35 "SmokeTuneModel" "tape" "[I") (List.mem_cons_of_mem _ (List.mem_append_left _ (List.mem_of_getElem? (i := 3) rfl)))) (fun _ h9 => h9) rfl dX12_next_207 ?_
                            refine lv_aload_n hx hb dX12_next_210 rfl (lv_at hl 0 rfl) ?_
                            refine va_get (ci := 12) (v := .int v_2031) (C := RX12) (T := TX12) (N := 60) hx hb hts hw12 hown hK hP 0 rfl rfl 15 (by decide) (hts (.fieldLink RX12 236 "SmokeTuneModel" "to" "I") (List.mem_cons_of_mem _ (List.mem_append_left _ (List.mem_of_getElem? (i := 0) rfl)))) (fun _ h9 => h9) rfl dX12_next_211 ?_
                            refine va_iald hx hb hK hP 1 0 rfl rfl (i_in rfl (by omega)) dX12_next_214 ?_
                            refine lv_topi (fun x_2087 ex_2087 => ?_)
                            obtain rfl : x_2087 = x_2076 := ex_2087.trans (by rw [i_clamp rfl]; exact kx_2076)
                            refine lv_i2l hx hb dX12_next_215 rfl ?_
                            refine lv_topl (fun x_2088 ex_2088 => ?_)
                            have hx_2088 : x_2088.toInt = x_2076.toInt := by rw [ex_2088]; exact i_wide rfl
                            refine lv_ladd hx hb dX12_next_216 ?_
                            refine lv_topl (fun x_2089 ex_2089 => ?_)
                            refine lv_ldc2 (v := 96) hx hb hown (hts (.constantLong RX12 264 (96)) (List.mem_cons_of_mem _ (List.mem_append_left _ (List.mem_of_getElem? (i := 7) rfl)))) dX12_next_217 ?_
                            refine lv_lsub hx hb dX12_next_220 ?_
                            refine lv_topl (fun x_2090 ex_2090 => ?_)
                            refine lv_goto (tgt := 227) hx hb dX12_next_221 (by decide) ?_
                            refine va_put (ci := 12) (v := .long x_2090) (ty := .long) (C := RX12) (T := TX12) (N := 60) hx hb hts hw12 tyX12 tyX12_ok nmX12 hown hK hP hD hS 0 rfl rfl 17 (by decide) (hts (.fieldLink RX12 249 "SmokeTuneModel" "worth" "J") (List.mem_cons_of_mem _ (List.mem_append_left _ (List.mem_of_getElem? (i := 4) rfl)))) (fun _ h9 => h9) rfl (by decide +kernel) (by first | rfl | decide) (by first | rfl | decide) (Nat.le_of_ble_eq_true rfl) dX12_next_227 (fun H locs hP hD hS => ?_)
                            have hP : va_P D vwCl [(m0, .inr (12, [m_0, m_1, m_2, m_3, m_4, m_5, m_6, m_7, m_8, m_9, m_10, m_11, .ref t0, .int ta, .int v_1792, .int v_2031, .int 1, .long x_2090, m_18, m_19, m_20, m_21, m_22, m_23, m_24, m_25, m_26, m_27, m_28, m_29, m_30, m_31, m_32, m_33, m_34, m_35, m_36, m_37, m_38, m_39, m_40, m_41, m_42, m_43, m_44, m_45, m_46, m_47, m_48, m_49, m_50, m_51, m_52, m_53, m_54, m_55, m_56, m_57, m_58, m_59])), (t0, .inl (K 0, 400, .inl ft))] H := hP
                            have hD : va_D A [(m0, .inr (12, [m_0, m_1, m_2, m_3, m_4, m_5, m_6, m_7, m_8, m_9, m_10, m_11, .ref t0, .int ta, .int v_1792, .int v_2031, .int 1, .long x_2090, m_18, m_19, m_20, m_21, m_22, m_23, m_24, m_25, m_26, m_27, m_28, m_29, m_30, m_31, m_32, m_33, m_34, m_35, m_36, m_37, m_38, m_39, m_40, m_41, m_42, m_43, m_44, m_45, m_46, m_47, m_48, m_49, m_50, m_51, m_52, m_53, m_54, m_55, m_56, m_57, m_58, m_59])), (t0, .inl (K 0, 400, .inl ft))] := hD
                            refine lv_aload_n hx hb dX12_next_230 rfl (lv_at hl 0 rfl) ?_
                            refine lv_dup hx hb dX12_next_231 rfl ?_
                            refine va_get (ci := 12) (v := .int v_2031) (C := RX12) (T := TX12) (N := 60) hx hb hts hw12 hown hK hP 0 rfl rfl 15 (by decide) (hts (.fieldLink RX12 236 "SmokeTuneModel" "to" "I") (List.mem_cons_of_mem _ (List.mem_append_left _ (List.mem_of_getElem? (i := 0) rfl)))) (fun _ h9 => h9) rfl dX12_next_232 ?_
                            refine lv_iconst (v := 1) hx hb dX12_next_235 (by decide) ?_
                            refine lv_iadd hx hb dX12_next_236 ?_
                            refine lv_topi (fun x_2091 ex_2091 => ?_)
                            have hx_2091 : x_2091.toInt = (v_2031.toInt + 1) := by rw [ex_2091]; exact i_add rfl (show (1 : Int32).toInt = 1 from rfl) (by omega)
                            refine va_put (ci := 12) (v := .int x_2091) (ty := .int) (C := RX12) (T := TX12) (N := 60) hx hb hts hw12 tyX12 tyX12_ok nmX12 hown hK hP hD hS 0 rfl rfl 15 (by decide) (hts (.fieldLink RX12 236 "SmokeTuneModel" "to" "I") (List.mem_cons_of_mem _ (List.mem_append_left _ (List.mem_of_getElem? (i := 0) rfl)))) (fun _ h9 => h9) rfl (by decide +kernel) (by first | rfl | decide) (by first | rfl | decide) (Nat.le_of_ble_eq_true rfl) dX12_next_237 (fun H locs hP hD hS => ?_)
                            have hP : va_P D vwCl [(m0, .inr (12, [m_0, m_1, m_2, m_3, m_4, m_5, m_6, m_7, m_8, m_9, m_10, m_11, .ref t0, .int ta, .int v_1792, .int x_2091, .int 1, .long x_2090, m_18, m_19, m_20, m_21, m_22, m_23, m_24, m_25, m_26, m_27, m_28, m_29, m_30, m_31, m_32, m_33, m_34, m_35, m_36, m_37, m_38, m_39, m_40, m_41, m_42, m_43, m_44, m_45, m_46, m_47, m_48, m_49, m_50, m_51, m_52, m_53, m_54, m_55, m_56, m_57, m_58, m_59])), (t0, .inl (K 0, 400, .inl ft))] H := hP
                            have hD : va_D A [(m0, .inr (12, [m_0, m_1, m_2, m_3, m_4, m_5, m_6, m_7, m_8, m_9, m_10, m_11, .ref t0, .int ta, .int v_1792, .int x_2091, .int 1, .long x_2090, m_18, m_19, m_20, m_21, m_22, m_23, m_24, m_25, m_26, m_27, m_28, m_29, m_30, m_31, m_32, m_33, m_34, m_35, m_36, m_37, m_38, m_39, m_40, m_41, m_42, m_43, m_44, m_45, m_46, m_47, m_48, m_49, m_50, m_51, m_52, m_53, m_54, m_55, m_56, m_57, m_58, m_59])), (t0, .inl (K 0, 400, .inl ft))] := hD
                            refine lv_goto (tgt := 149) hx hb dX12_next_240 (by decide) ?_
                            exact ih_2072 x_2091 x_2090 (by rw [hx_2091]; omega) (show v_1792.toInt < (x_2091 : Int32).toInt ∧ (x_2091 : Int32).toInt ≤ ta.toInt ∧ (v_1792.toInt + 1 < (x_2091 : Int32).toInt ∨ (x_2090 : Int64).toInt ≤ 26) by omega) (by omega) _ _ hP hD hS ls (lv_sub hl [0] rfl)
                        · refine lv_if_eq (tgt := 243) hx hb dX12_next_180 (by decide) (fun c_2092 => ?_) (fun c_2092 => absurd (by decide) c_2092)
                          refine lv_aload_n hx hb dX12_next_243 rfl (lv_at hl 0 rfl) ?_
                          refine va_get (ci := 12) (v := .int 1) (C := RX12) (T := TX12) (N := 60) hx hb hts hw12 hown hK hP 0 rfl rfl 16 (by decide) (hts (.fieldLink RX12 259 "SmokeTuneModel" "sort" "I") (List.mem_cons_of_mem _ (List.mem_append_left _ (List.mem_of_getElem? (i := 5) rfl)))) (fun _ h9 => h9) rfl dX12_next_244 ?_
                          refine lv_iconst (v := 2) hx hb dX12_next_247 (by decide) ?_
                          refine lv_icmp_ne (tgt := 335) hx hb dX12_next_248 (by decide) (fun c_2093 => ?_) (fun c_2093 => absurd c_2093 (by decide))
                          subst hQ
                          have hP9 := hP.sub (ws' := [(m0, .inr (12, [m_0, m_1, m_2, m_3, m_4, m_5, m_6, m_7, m_8, m_9, m_10, m_11, .ref t0, .int ta, .int v_1792, .int v_2031, .int 1, .long v_2032, m_18, m_19, m_20, m_21, m_22, m_23, m_24, m_25, m_26, m_27, m_28, m_29, m_30, m_31, m_32, m_33, m_34, m_35, m_36, m_37, m_38, m_39, m_40, m_41, m_42, m_43, m_44, m_45, m_46, m_47, m_48, m_49, m_50, m_51, m_52, m_53, m_54, m_55, m_56, m_57, m_58, m_59])), (t0, .inl (K 0, 400, .inl ft))]) [0, 1] rfl
                          have hD9 := hD.sub (ws' := [(m0, .inr (12, [m_0, m_1, m_2, m_3, m_4, m_5, m_6, m_7, m_8, m_9, m_10, m_11, .ref t0, .int ta, .int v_1792, .int v_2031, .int 1, .long v_2032, m_18, m_19, m_20, m_21, m_22, m_23, m_24, m_25, m_26, m_27, m_28, m_29, m_30, m_31, m_32, m_33, m_34, m_35, m_36, m_37, m_38, m_39, m_40, m_41, m_42, m_43, m_44, m_45, m_46, m_47, m_48, m_49, m_50, m_51, m_52, m_53, m_54, m_55, m_56, m_57, m_58, m_59])), (t0, .inl (K 0, 400, .inl ft))]) [0, 1] (by decide) rfl
                          exact W.vret hx hb hr (fun t ht hW => ⟨⟨((fun _ => 0, fun _ => fun _ => 0, fun _ => fun _ => 0, fun i => match i with | 0 => v_1792 | 1 => v_2031 | _ => 1, fun i => match i with | _ => v_2032, fun _ => fun _ => none) : Su), rfl, ⟨(show 0 ≤ (v_1792 : Int32).toInt ∧ (v_1792 : Int32).toInt ≤ 400 by omega), (show 0 ≤ (v_2031 : Int32).toInt ∧ (v_2031 : Int32).toInt ≤ 401 by omega), (show 0 ≤ (1 : Int32).toInt ∧ (1 : Int32).toInt ≤ 3 by decide), (show ((0 ≤ (v_1792 : Int32).toInt ∧ (v_1792 : Int32).toInt ≤ (v_2031 : Int32).toInt ∧ (v_2031 : Int32).toInt ≤ ta.toInt) ∧ (1 = 0 ∨ (v_1792 : Int32).toInt < (v_2031 : Int32).toInt) ∧ (1 ≠ 1 ∨ (v_1792 : Int32).toInt + 1 < (v_2031 : Int32).toInt ∨ (v_2032 : Int64).toInt ≤ 26)) by omega), (show to.toInt ≤ (v_1792 : Int32).toInt by omega), trivial⟩, (⟨by rw [ht]; exact hP9, hD9⟩ : Wd D A _ t)⟩, hS.F ht⟩) hS.2.2 dX12_next_335
                  exact lp_2071 ((ta.toInt - (x_1972 : Int32).toInt : Int).toNat + 1) x_1972 x_1971 (by rw [hx_1972]; omega) (show v_1792.toInt < (x_1972 : Int32).toInt ∧ (x_1972 : Int32).toInt ≤ ta.toInt ∧ (v_1792.toInt + 1 < (x_1972 : Int32).toInt ∨ (x_1971 : Int64).toInt ≤ 26) by omega) (Nat.lt_succ_self _) _ _ hP hD hS ls (lv_sub hl [0] rfl)
              · exfalso; omega
          · refine lv_if_eq (tgt := 94) hx hb dX12_next_87 (by decide) (fun c_2094 => ?_) (fun c_2094 => absurd (by decide) c_2094)
            refine lv_aload_n hx hb dX12_next_94 rfl (lv_at hl 0 rfl) ?_
            refine va_get (ci := 12) (v := .ref t0) (C := RX12) (T := TX12) (N := 60) hx hb hts hw12 hown hK hP 0 rfl rfl 12 (by decide) (hts (.fieldLink RX12 35 "SmokeTuneModel" "tape" "[I") (List.mem_cons_of_mem _ (List.mem_append_left _ (List.mem_of_getElem? (i := 3) rfl)))) (fun _ h9 => h9) rfl dX12_next_95 ?_
            refine lv_aload_n hx hb dX12_next_98 rfl (lv_at hl 0 rfl) ?_
            refine va_get (ci := 12) (v := .int v_1792) (C := RX12) (T := TX12) (N := 60) hx hb hts hw12 hown hK hP 0 rfl rfl 14 (by decide) (hts (.fieldLink RX12 246 "SmokeTuneModel" "from" "I") (List.mem_cons_of_mem _ (List.mem_append_left _ (List.mem_of_getElem? (i := 1) rfl)))) (fun _ h9 => h9) rfl dX12_next_99 ?_
            refine va_iald hx hb hK hP 1 0 rfl rfl (i_in rfl (by omega)) dX12_next_102 ?_
            refine lv_topi (fun x_2095 ex_2095 => ?_)
            obtain rfl : x_2095 = x_1806 := ex_2095.trans (by rw [i_clamp rfl]; exact kx_1806)
            refine pci (va_runS (As := [.int x_1806]) (rest := [.ref m0]) ⟨hx, hb, hml, hown, hts⟩ (v_isDigit l D K x_1806.toInt x_1806 H.size rfl) (va_cwS 1 hts gX12_next_X12_isDigit rfl rfl rfl (by decide +kernel) ⟨Nat.le_of_ble_eq_true rfl, Nat.le_of_ble_eq_true rfl⟩) (mkS hK hN (va_P.nil) (va_D.nil (A := fun _ => True))) rfl rfl hl.1 rfl (lv_room (Nat.le_of_ble_eq_true rfl)) dX12_next_103 ⟨Nat.le_of_ble_eq_true rfl, Nat.le_of_ble_eq_true rfl⟩) (fun r_2096 hw => ?_)
            obtain ⟨hw, -⟩ := hw
            rcases hw with ⟨rfl, h_2097, h_2098⟩ | ⟨rfl, h_2099⟩
            · refine lv_if_eq (tgt := 113) hx hb dX12_next_106 (by decide) (fun c_2100 => absurd c_2100 (by decide)) (fun c_2100 => ?_)
              refine lv_iconst (v := 2) hx hb dX12_next_109 (by decide) ?_
              refine lv_goto (tgt := 114) hx hb dX12_next_110 (by decide) ?_
              refine va_put (ci := 12) (v := .int 2) (ty := .int) (C := RX12) (T := TX12) (N := 60) hx hb hts hw12 tyX12 tyX12_ok nmX12 hown hK hP hD hS 0 rfl rfl 16 (by decide) (hts (.fieldLink RX12 259 "SmokeTuneModel" "sort" "I") (List.mem_cons_of_mem _ (List.mem_append_left _ (List.mem_of_getElem? (i := 5) rfl)))) (fun _ h9 => h9) rfl (by decide +kernel) (by first | rfl | decide) (by first | rfl | decide) (Nat.le_of_ble_eq_true rfl) dX12_next_114 (fun H locs hP hD hS => ?_)
              have hP : va_P D vwCl [(m0, .inr (12, [m_0, m_1, m_2, m_3, m_4, m_5, m_6, m_7, m_8, m_9, m_10, m_11, .ref t0, .int ta, .int v_1792, .int v_1792, .int 2, .long 0, m_18, m_19, m_20, m_21, m_22, m_23, m_24, m_25, m_26, m_27, m_28, m_29, m_30, m_31, m_32, m_33, m_34, m_35, m_36, m_37, m_38, m_39, m_40, m_41, m_42, m_43, m_44, m_45, m_46, m_47, m_48, m_49, m_50, m_51, m_52, m_53, m_54, m_55, m_56, m_57, m_58, m_59])), (t0, .inl (K 0, 400, .inl ft))] H := hP
              have hD : va_D A [(m0, .inr (12, [m_0, m_1, m_2, m_3, m_4, m_5, m_6, m_7, m_8, m_9, m_10, m_11, .ref t0, .int ta, .int v_1792, .int v_1792, .int 2, .long 0, m_18, m_19, m_20, m_21, m_22, m_23, m_24, m_25, m_26, m_27, m_28, m_29, m_30, m_31, m_32, m_33, m_34, m_35, m_36, m_37, m_38, m_39, m_40, m_41, m_42, m_43, m_44, m_45, m_46, m_47, m_48, m_49, m_50, m_51, m_52, m_53, m_54, m_55, m_56, m_57, m_58, m_59])), (t0, .inl (K 0, 400, .inl ft))] := hD
              refine lv_aload_n hx hb dX12_next_117 rfl (lv_at hl 0 rfl) ?_
              refine va_get (ci := 12) (v := .int 2) (C := RX12) (T := TX12) (N := 60) hx hb hts hw12 hown hK hP 0 rfl rfl 16 (by decide) (hts (.fieldLink RX12 259 "SmokeTuneModel" "sort" "I") (List.mem_cons_of_mem _ (List.mem_append_left _ (List.mem_of_getElem? (i := 5) rfl)))) (fun _ h9 => h9) rfl dX12_next_118 ?_
              refine lv_iconst (v := 3) hx hb dX12_next_121 (by decide) ?_
              refine lv_icmp_ne (tgt := 149) hx hb dX12_next_122 (by decide) (fun c_2101 => ?_) (fun c_2101 => absurd c_2101 (by decide))
              refine lv_aload_n hx hb dX12_next_149 rfl (lv_at hl 0 rfl) ?_
              refine va_get (ci := 12) (v := .int 2) (C := RX12) (T := TX12) (N := 60) hx hb hts hw12 hown hK hP 0 rfl rfl 16 (by decide) (hts (.fieldLink RX12 259 "SmokeTuneModel" "sort" "I") (List.mem_cons_of_mem _ (List.mem_append_left _ (List.mem_of_getElem? (i := 5) rfl)))) (fun _ h9 => h9) rfl dX12_next_150 ?_
              refine lv_iconst (v := 1) hx hb dX12_next_153 (by decide) ?_
              refine lv_icmp_ne (tgt := 243) hx hb dX12_next_154 (by decide) (fun c_2102 => ?_) (fun c_2102 => absurd c_2102 (by decide))
              refine lv_aload_n hx hb dX12_next_243 rfl (lv_at hl 0 rfl) ?_
              refine va_get (ci := 12) (v := .int 2) (C := RX12) (T := TX12) (N := 60) hx hb hts hw12 hown hK hP 0 rfl rfl 16 (by decide) (hts (.fieldLink RX12 259 "SmokeTuneModel" "sort" "I") (List.mem_cons_of_mem _ (List.mem_append_left _ (List.mem_of_getElem? (i := 5) rfl)))) (fun _ h9 => h9) rfl dX12_next_244 ?_
              refine lv_iconst (v := 2) hx hb dX12_next_247 (by decide) ?_
              refine lv_icmp_ne (tgt := 335) hx hb dX12_next_248 (by decide) (fun c_2103 => absurd (by decide) c_2103) (fun c_2103 => ?_)
              refine lv_aload_n hx hb dX12_next_251 rfl (lv_at hl 0 rfl) ?_
              refine va_get (ci := 12) (v := .int v_1792) (C := RX12) (T := TX12) (N := 60) hx hb hts hw12 hown hK hP 0 rfl rfl 15 (by decide) (hts (.fieldLink RX12 236 "SmokeTuneModel" "to" "I") (List.mem_cons_of_mem _ (List.mem_append_left _ (List.mem_of_getElem? (i := 0) rfl)))) (fun _ h9 => h9) rfl dX12_next_252 ?_
              refine lv_aload_n hx hb dX12_next_255 rfl (lv_at hl 0 rfl) ?_
              refine va_get (ci := 12) (v := .int ta) (C := RX12) (T := TX12) (N := 60) hx hb hts hw12 hown hK hP 0 rfl rfl 13 (by decide) (hts (.fieldLink RX12 227 "SmokeTuneModel" "taped" "I") (List.mem_cons_of_mem _ (List.mem_append_left _ (List.mem_of_getElem? (i := 2) rfl)))) (fun _ h9 => h9) rfl dX12_next_256 ?_
              refine lv_icmp_ge (tgt := 335) hx hb dX12_next_259 (by decide) (fun c_2104 => ?_) (fun c_2104 => ?_)
              · have c_2104i := i_le (x := ta.toInt) (y := v_1792.toInt) rfl rfl c_2104
                subst hQ
                have hP9 := hP.sub (ws' := [(m0, .inr (12, [m_0, m_1, m_2, m_3, m_4, m_5, m_6, m_7, m_8, m_9, m_10, m_11, .ref t0, .int ta, .int v_1792, .int v_1792, .int 2, .long 0, m_18, m_19, m_20, m_21, m_22, m_23, m_24, m_25, m_26, m_27, m_28, m_29, m_30, m_31, m_32, m_33, m_34, m_35, m_36, m_37, m_38, m_39, m_40, m_41, m_42, m_43, m_44, m_45, m_46, m_47, m_48, m_49, m_50, m_51, m_52, m_53, m_54, m_55, m_56, m_57, m_58, m_59])), (t0, .inl (K 0, 400, .inl ft))]) [0, 1] rfl
                have hD9 := hD.sub (ws' := [(m0, .inr (12, [m_0, m_1, m_2, m_3, m_4, m_5, m_6, m_7, m_8, m_9, m_10, m_11, .ref t0, .int ta, .int v_1792, .int v_1792, .int 2, .long 0, m_18, m_19, m_20, m_21, m_22, m_23, m_24, m_25, m_26, m_27, m_28, m_29, m_30, m_31, m_32, m_33, m_34, m_35, m_36, m_37, m_38, m_39, m_40, m_41, m_42, m_43, m_44, m_45, m_46, m_47, m_48, m_49, m_50, m_51, m_52, m_53, m_54, m_55, m_56, m_57, m_58, m_59])), (t0, .inl (K 0, 400, .inl ft))]) [0, 1] (by decide) rfl
                exact W.vret hx hb hr (fun t ht hW => ⟨⟨((fun _ => 0, fun _ => fun _ => 0, fun _ => fun _ => 0, fun i => match i with | 0 => v_1792 | 1 => v_1792 | _ => 2, fun i => match i with | _ => 0, fun _ => fun _ => none) : Su), rfl, ⟨(show 0 ≤ (v_1792 : Int32).toInt ∧ (v_1792 : Int32).toInt ≤ 400 by omega), (show 0 ≤ (v_1792 : Int32).toInt ∧ (v_1792 : Int32).toInt ≤ 401 by omega), (show 0 ≤ (2 : Int32).toInt ∧ (2 : Int32).toInt ≤ 3 by decide), (show ((0 ≤ (v_1792 : Int32).toInt ∧ (v_1792 : Int32).toInt ≤ (v_1792 : Int32).toInt ∧ (v_1792 : Int32).toInt ≤ ta.toInt) ∧ (2 = 0 ∨ (v_1792 : Int32).toInt < (v_1792 : Int32).toInt) ∧ (2 ≠ 1 ∨ (v_1792 : Int32).toInt + 1 < (v_1792 : Int32).toInt ∨ 0 ≤ 26)) by omega), (show to.toInt ≤ (v_1792 : Int32).toInt by omega), trivial⟩, (⟨by rw [ht]; exact hP9, hD9⟩ : Wd D A _ t)⟩, hS.F ht⟩) hS.2.2 dX12_next_335
              · have c_2104i := i_nle (x := ta.toInt) (y := v_1792.toInt) rfl rfl c_2104
                refine lv_aload_n hx hb dX12_next_262 rfl (lv_at hl 0 rfl) ?_
                refine va_get (ci := 12) (v := .ref t0) (C := RX12) (T := TX12) (N := 60) hx hb hts hw12 hown hK hP 0 rfl rfl 12 (by decide) (hts (.fieldLink RX12 35 "SmokeTuneModel" "tape" "[I") (List.mem_cons_of_mem _ (List.mem_append_left _ (List.mem_of_getElem? (i := 3) rfl)))) (fun _ h9 => h9) rfl dX12_next_263 ?_
                refine lv_aload_n hx hb dX12_next_266 rfl (lv_at hl 0 rfl) ?_
                refine va_get (ci := 12) (v := .int v_1792) (C := RX12) (T := TX12) (N := 60) hx hb hts hw12 hown hK hP 0 rfl rfl 15 (by decide) (hts (.fieldLink RX12 236 "SmokeTuneModel" "to" "I") (List.mem_cons_of_mem _ (List.mem_append_left _ (List.mem_of_getElem? (i := 0) rfl)))) (fun _ h9 => h9) rfl dX12_next_267 ?_
                refine va_iald hx hb hK hP 1 0 rfl rfl (i_in rfl (by omega)) dX12_next_270 ?_
                refine lv_topi (fun x_2105 ex_2105 => ?_)
                obtain rfl : x_2105 = x_1806 := ex_2105.trans (by rw [i_clamp rfl]; exact kx_1806)
                refine pci (va_runS (As := [.int x_1806]) (rest := []) ⟨hx, hb, hml, hown, hts⟩ (v_isDigit l D K x_1806.toInt x_1806 H.size rfl) (va_cwS 1 hts gX12_next_X12_isDigit rfl rfl rfl (by decide +kernel) ⟨Nat.le_of_ble_eq_true rfl, Nat.le_of_ble_eq_true rfl⟩) (mkS hK hN (va_P.nil) (va_D.nil (A := fun _ => True))) rfl rfl hl.1 rfl (lv_room (Nat.le_of_ble_eq_true rfl)) dX12_next_271 ⟨Nat.le_of_ble_eq_true rfl, Nat.le_of_ble_eq_true rfl⟩) (fun r_2106 hw => ?_)
                obtain ⟨hw, -⟩ := hw
                rcases hw with ⟨rfl, h_2107, h_2108⟩ | ⟨rfl, h_2109⟩
                · refine lv_if_eq (tgt := 335) hx hb dX12_next_274 (by decide) (fun c_2110 => absurd c_2110 (by decide)) (fun c_2110 => ?_)
                  refine lv_aload_n hx hb dX12_next_277 rfl (lv_at hl 0 rfl) ?_
                  refine lv_aload_n hx hb dX12_next_278 rfl (lv_at hl 0 rfl) ?_
                  refine va_get (ci := 12) (v := .long 0) (C := RX12) (T := TX12) (N := 60) hx hb hts hw12 hown hK hP 0 rfl rfl 17 (by decide) (hts (.fieldLink RX12 249 "SmokeTuneModel" "worth" "J") (List.mem_cons_of_mem _ (List.mem_append_left _ (List.mem_of_getElem? (i := 4) rfl)))) (fun _ h9 => h9) rfl dX12_next_279 ?_
                  refine lv_ldc2 (v := 1000000) hx hb hown (hts (.constantLong RX12 268 (1000000)) (List.mem_cons_of_mem _ (List.mem_append_left _ (List.mem_of_getElem? (i := 9) rfl)))) dX12_next_282 ?_
                  refine W.lcmp hx hb dX12_next_285 ?_
                  refine lv_if_le (tgt := 296) hx hb dX12_next_286 (by decide) (fun c_2111 => ?_) (fun c_2111 => absurd (by decide) c_2111)
                  refine lv_aload_n hx hb dX12_next_296 rfl (lv_at hl 0 rfl) ?_
                  refine va_get (ci := 12) (v := .long 0) (C := RX12) (T := TX12) (N := 60) hx hb hts hw12 hown hK hP 0 rfl rfl 17 (by decide) (hts (.fieldLink RX12 249 "SmokeTuneModel" "worth" "J") (List.mem_cons_of_mem _ (List.mem_append_left _ (List.mem_of_getElem? (i := 4) rfl)))) (fun _ h9 => h9) rfl dX12_next_297 ?_
                  refine lv_ldc2 (v := 10) hx hb hown (hts (.constantLong RX12 219 (10)) (List.mem_cons_of_mem _ (List.mem_append_left _ (List.mem_of_getElem? (i := 10) rfl)))) dX12_next_300 ?_
                  refine lv_lmul hx hb dX12_next_303 ?_
                  refine lv_topl (fun x_2112 ex_2112 => ?_)
                  obtain rfl : x_2112 = 0 := ex_2112.trans (by first | rfl | decide)
                  refine lv_aload_n hx hb dX12_next_304 rfl (lv_at hl 0 rfl) ?_
                  refine va_get (ci := 12) (v := .ref t0) (C := RX12) (T := TX12) (N := 60) hx hb hts hw12 hown hK hP 0 rfl rfl 12 (by decide) (hts (.fieldLink RX12 35 "SmokeTuneModel" "tape" "[I") (List.mem_cons_of_mem _ (List.mem_append_left _ (List.mem_of_getElem? (i := 3) rfl)))) (fun _ h9 => h9) rfl dX12_next_305 ?_
                  refine lv_aload_n hx hb dX12_next_308 rfl (lv_at hl 0 rfl) ?_
                  refine va_get (ci := 12) (v := .int v_1792) (C := RX12) (T := TX12) (N := 60) hx hb hts hw12 hown hK hP 0 rfl rfl 15 (by decide) (hts (.fieldLink RX12 236 "SmokeTuneModel" "to" "I") (List.mem_cons_of_mem _ (List.mem_append_left _ (List.mem_of_getElem? (i := 0) rfl)))) (fun _ h9 => h9) rfl dX12_next_309 ?_
                  refine va_iald hx hb hK hP 1 0 rfl rfl (i_in rfl (by omega)) dX12_next_312 ?_
                  refine lv_topi (fun x_2113 ex_2113 => ?_)
                  obtain rfl : x_2113 = x_1806 := ex_2113.trans (by rw [i_clamp rfl]; exact kx_1806)
                  refine lv_i2l hx hb dX12_next_313 rfl ?_
                  refine lv_topl (fun x_2114 ex_2114 => ?_)
                  have hx_2114 : x_2114.toInt = x_1806.toInt := by rw [ex_2114]; exact i_wide rfl
                  refine lv_ladd hx hb dX12_next_314 ?_
                  refine lv_topl (fun x_2115 ex_2115 => ?_)
                  have hx_2115 : x_2115.toInt = (0 + x_1806.toInt) := by rw [ex_2115]; exact l_add (show (0 : Int64).toInt = 0 from rfl) hx_2114 (by omega)
                  refine lv_ldc2 (v := 48) hx hb hown (hts (.constantLong RX12 270 (48)) (List.mem_cons_of_mem _ (List.mem_append_left _ (List.mem_of_getElem? (i := 11) rfl)))) dX12_next_315 ?_
                  refine lv_lsub hx hb dX12_next_318 ?_
                  refine lv_topl (fun x_2116 ex_2116 => ?_)
                  have hx_2116 : x_2116.toInt = ((0 + x_1806.toInt) - 48) := by rw [ex_2116]; exact l_sub hx_2115 (show (48 : Int64).toInt = 48 from rfl) (by omega)
                  refine va_put (ci := 12) (v := .long x_2116) (ty := .long) (C := RX12) (T := TX12) (N := 60) hx hb hts hw12 tyX12 tyX12_ok nmX12 hown hK hP hD hS 0 rfl rfl 17 (by decide) (hts (.fieldLink RX12 249 "SmokeTuneModel" "worth" "J") (List.mem_cons_of_mem _ (List.mem_append_left _ (List.mem_of_getElem? (i := 4) rfl)))) (fun _ h9 => h9) rfl (by decide +kernel) (by first | rfl | decide) (by first | rfl | decide) (Nat.le_of_ble_eq_true rfl) dX12_next_319 (fun H locs hP hD hS => ?_)
                  have hP : va_P D vwCl [(m0, .inr (12, [m_0, m_1, m_2, m_3, m_4, m_5, m_6, m_7, m_8, m_9, m_10, m_11, .ref t0, .int ta, .int v_1792, .int v_1792, .int 2, .long x_2116, m_18, m_19, m_20, m_21, m_22, m_23, m_24, m_25, m_26, m_27, m_28, m_29, m_30, m_31, m_32, m_33, m_34, m_35, m_36, m_37, m_38, m_39, m_40, m_41, m_42, m_43, m_44, m_45, m_46, m_47, m_48, m_49, m_50, m_51, m_52, m_53, m_54, m_55, m_56, m_57, m_58, m_59])), (t0, .inl (K 0, 400, .inl ft))] H := hP
                  have hD : va_D A [(m0, .inr (12, [m_0, m_1, m_2, m_3, m_4, m_5, m_6, m_7, m_8, m_9, m_10, m_11, .ref t0, .int ta, .int v_1792, .int v_1792, .int 2, .long x_2116, m_18, m_19, m_20, m_21, m_22, m_23, m_24, m_25, m_26, m_27, m_28, m_29, m_30, m_31, m_32, m_33, m_34, m_35, m_36, m_37, m_38, m_39, m_40, m_41, m_42, m_43, m_44, m_45, m_46, m_47, m_48, m_49, m_50, m_51, m_52, m_53, m_54, m_55, m_56, m_57, m_58, m_59])), (t0, .inl (K 0, 400, .inl ft))] := hD
                  refine lv_aload_n hx hb dX12_next_322 rfl (lv_at hl 0 rfl) ?_
                  refine lv_dup hx hb dX12_next_323 rfl ?_
                  refine va_get (ci := 12) (v := .int v_1792) (C := RX12) (T := TX12) (N := 60) hx hb hts hw12 hown hK hP 0 rfl rfl 15 (by decide) (hts (.fieldLink RX12 236 "SmokeTuneModel" "to" "I") (List.mem_cons_of_mem _ (List.mem_append_left _ (List.mem_of_getElem? (i := 0) rfl)))) (fun _ h9 => h9) rfl dX12_next_324 ?_
                  refine lv_iconst (v := 1) hx hb dX12_next_327 (by decide) ?_
                  refine lv_iadd hx hb dX12_next_328 ?_
                  refine lv_topi (fun x_2117 ex_2117 => ?_)
                  have hx_2117 : x_2117.toInt = (v_1792.toInt + 1) := by rw [ex_2117]; exact i_add rfl (show (1 : Int32).toInt = 1 from rfl) (by omega)
                  refine va_put (ci := 12) (v := .int x_2117) (ty := .int) (C := RX12) (T := TX12) (N := 60) hx hb hts hw12 tyX12 tyX12_ok nmX12 hown hK hP hD hS 0 rfl rfl 15 (by decide) (hts (.fieldLink RX12 236 "SmokeTuneModel" "to" "I") (List.mem_cons_of_mem _ (List.mem_append_left _ (List.mem_of_getElem? (i := 0) rfl)))) (fun _ h9 => h9) rfl (by decide +kernel) (by first | rfl | decide) (by first | rfl | decide) (Nat.le_of_ble_eq_true rfl) dX12_next_329 (fun H locs hP hD hS => ?_)
                  have hP : va_P D vwCl [(m0, .inr (12, [m_0, m_1, m_2, m_3, m_4, m_5, m_6, m_7, m_8, m_9, m_10, m_11, .ref t0, .int ta, .int v_1792, .int x_2117, .int 2, .long x_2116, m_18, m_19, m_20, m_21, m_22, m_23, m_24, m_25, m_26, m_27, m_28, m_29, m_30, m_31, m_32, m_33, m_34, m_35, m_36, m_37, m_38, m_39, m_40, m_41, m_42, m_43, m_44, m_45, m_46, m_47, m_48, m_49, m_50, m_51, m_52, m_53, m_54, m_55, m_56, m_57, m_58, m_59])), (t0, .inl (K 0, 400, .inl ft))] H := hP
                  have hD : va_D A [(m0, .inr (12, [m_0, m_1, m_2, m_3, m_4, m_5, m_6, m_7, m_8, m_9, m_10, m_11, .ref t0, .int ta, .int v_1792, .int x_2117, .int 2, .long x_2116, m_18, m_19, m_20, m_21, m_22, m_23, m_24, m_25, m_26, m_27, m_28, m_29, m_30, m_31, m_32, m_33, m_34, m_35, m_36, m_37, m_38, m_39, m_40, m_41, m_42, m_43, m_44, m_45, m_46, m_47, m_48, m_49, m_50, m_51, m_52, m_53, m_54, m_55, m_56, m_57, m_58, m_59])), (t0, .inl (K 0, 400, .inl ft))] := hD
                  refine lv_goto (tgt := 243) hx hb dX12_next_332 (by decide) ?_
                  have lp_2209 : ∀ (nn_ : Nat) (v_2171 : Int32) (v_2172 : Int64) (hv_2171 : 1 ≤ v_2171.toInt ∧ v_2171.toInt ≤ 400) (hv_2172 : 0 ≤ v_2172.toInt) (hr0_lp_2209 : v_1792.toInt < v_2171.toInt ∧ v_2171.toInt ≤ ta.toInt) (hn : (ta.toInt - v_2171.toInt : Int).toNat < nn_) (H : Heap) (locs : List Loc) (hP : va_P D vwCl [(m0, .inr (12, [m_0, m_1, m_2, m_3, m_4, m_5, m_6, m_7, m_8, m_9, m_10, m_11, .ref t0, .int ta, .int v_1792, .int v_2171, .int 2, .long v_2172, m_18, m_19, m_20, m_21, m_22, m_23, m_24, m_25, m_26, m_27, m_28, m_29, m_30, m_31, m_32, m_33, m_34, m_35, m_36, m_37, m_38, m_39, m_40, m_41, m_42, m_43, m_44, m_45, m_46, m_47, m_48, m_49, m_50, m_51, m_52, m_53, m_54, m_55, m_56, m_57, m_58, m_59])), (t0, .inl (K 0, 400, .inl ft))] H) (hD : va_D A [(m0, .inr (12, [m_0, m_1, m_2, m_3, m_4, m_5, m_6, m_7, m_8, m_9, m_10, m_11, .ref t0, .int ta, .int v_1792, .int v_2171, .int 2, .long v_2172, m_18, m_19, m_20, m_21, m_22, m_23, m_24, m_25, m_26, m_27, m_28, m_29, m_30, m_31, m_32, m_33, m_34, m_35, m_36, m_37, m_38, m_39, m_40, m_41, m_42, m_43, m_44, m_45, m_46, m_47, m_48, m_49, m_50, m_51, m_52, m_53, m_54, m_55, m_56, m_57, m_58, m_59])), (t0, .inl (K 0, 400, .inl ft))]) (hS : va_S A s.heap H locs) (ls : Array Slot) (hl : lv_has ls 1 [(0, .ref m0)]), W p l e ({ frames := 1, cells := 0, slots := 0, locals := 20 }) s m (([.ref m0] : List Value).toArray) below meth c H locs 0 0 Q (F0 m 243 ls []) := by
                    intro nn_
                    induction nn_ with
                    | zero =>
                      intro v_2171 v_2172 hv_2171 hv_2172 hr0_lp_2209 hn H locs hP hD hS ls hl
                      exact absurd hn (Nat.not_lt_zero _)
                    | succ nn_ ih_2210 =>
                      intro v_2171 v_2172 hv_2171 hv_2172 hr0_lp_2209 hn H locs hP hD hS ls hl
                      refine lv_aload_n hx hb dX12_next_243 rfl (lv_at hl 0 rfl) ?_
                      refine va_get (ci := 12) (v := .int 2) (C := RX12) (T := TX12) (N := 60) hx hb hts hw12 hown hK hP 0 rfl rfl 16 (by decide) (hts (.fieldLink RX12 259 "SmokeTuneModel" "sort" "I") (List.mem_cons_of_mem _ (List.mem_append_left _ (List.mem_of_getElem? (i := 5) rfl)))) (fun _ h9 => h9) rfl dX12_next_244 ?_
                      refine lv_iconst (v := 2) hx hb dX12_next_247 (by decide) ?_
                      refine lv_icmp_ne (tgt := 335) hx hb dX12_next_248 (by decide) (fun c_2211 => absurd (by decide) c_2211) (fun c_2211 => ?_)
                      refine lv_aload_n hx hb dX12_next_251 rfl (lv_at hl 0 rfl) ?_
                      refine va_get (ci := 12) (v := .int v_2171) (C := RX12) (T := TX12) (N := 60) hx hb hts hw12 hown hK hP 0 rfl rfl 15 (by decide) (hts (.fieldLink RX12 236 "SmokeTuneModel" "to" "I") (List.mem_cons_of_mem _ (List.mem_append_left _ (List.mem_of_getElem? (i := 0) rfl)))) (fun _ h9 => h9) rfl dX12_next_252 ?_
                      refine lv_aload_n hx hb dX12_next_255 rfl (lv_at hl 0 rfl) ?_
                      refine va_get (ci := 12) (v := .int ta) (C := RX12) (T := TX12) (N := 60) hx hb hts hw12 hown hK hP 0 rfl rfl 13 (by decide) (hts (.fieldLink RX12 227 "SmokeTuneModel" "taped" "I") (List.mem_cons_of_mem _ (List.mem_append_left _ (List.mem_of_getElem? (i := 2) rfl)))) (fun _ h9 => h9) rfl dX12_next_256 ?_
                      refine lv_icmp_ge (tgt := 335) hx hb dX12_next_259 (by decide) (fun c_2212 => ?_) (fun c_2212 => ?_)
                      · have c_2212i := i_le (x := ta.toInt) (y := v_2171.toInt) rfl rfl c_2212
                        subst hQ
                        have hP9 := hP.sub (ws' := [(m0, .inr (12, [m_0, m_1, m_2, m_3, m_4, m_5, m_6, m_7, m_8, m_9, m_10, m_11, .ref t0, .int ta, .int v_1792, .int v_2171, .int 2, .long v_2172, m_18, m_19, m_20, m_21, m_22, m_23, m_24, m_25, m_26, m_27, m_28, m_29, m_30, m_31, m_32, m_33, m_34, m_35, m_36, m_37, m_38, m_39, m_40, m_41, m_42, m_43, m_44, m_45, m_46, m_47, m_48, m_49, m_50, m_51, m_52, m_53, m_54, m_55, m_56, m_57, m_58, m_59])), (t0, .inl (K 0, 400, .inl ft))]) [0, 1] rfl
                        have hD9 := hD.sub (ws' := [(m0, .inr (12, [m_0, m_1, m_2, m_3, m_4, m_5, m_6, m_7, m_8, m_9, m_10, m_11, .ref t0, .int ta, .int v_1792, .int v_2171, .int 2, .long v_2172, m_18, m_19, m_20, m_21, m_22, m_23, m_24, m_25, m_26, m_27, m_28, m_29, m_30, m_31, m_32, m_33, m_34, m_35, m_36, m_37, m_38, m_39, m_40, m_41, m_42, m_43, m_44, m_45, m_46, m_47, m_48, m_49, m_50, m_51, m_52, m_53, m_54, m_55, m_56, m_57, m_58, m_59])), (t0, .inl (K 0, 400, .inl ft))]) [0, 1] (by decide) rfl
                        exact W.vret hx hb hr (fun t ht hW => ⟨⟨((fun _ => 0, fun _ => fun _ => 0, fun _ => fun _ => 0, fun i => match i with | 0 => v_1792 | 1 => v_2171 | _ => 2, fun i => match i with | _ => v_2172, fun _ => fun _ => none) : Su), rfl, ⟨(show 0 ≤ (v_1792 : Int32).toInt ∧ (v_1792 : Int32).toInt ≤ 400 by omega), (show 0 ≤ (v_2171 : Int32).toInt ∧ (v_2171 : Int32).toInt ≤ 401 by omega), (show 0 ≤ (2 : Int32).toInt ∧ (2 : Int32).toInt ≤ 3 by decide), (show ((0 ≤ (v_1792 : Int32).toInt ∧ (v_1792 : Int32).toInt ≤ (v_2171 : Int32).toInt ∧ (v_2171 : Int32).toInt ≤ ta.toInt) ∧ (2 = 0 ∨ (v_1792 : Int32).toInt < (v_2171 : Int32).toInt) ∧ (2 ≠ 1 ∨ (v_1792 : Int32).toInt + 1 < (v_2171 : Int32).toInt ∨ (v_2172 : Int64).toInt ≤ 26)) by omega), (show to.toInt ≤ (v_1792 : Int32).toInt by omega), trivial⟩, (⟨by rw [ht]; exact hP9, hD9⟩ : Wd D A _ t)⟩, hS.F ht⟩) hS.2.2 dX12_next_335
                      · have c_2212i := i_nle (x := ta.toInt) (y := v_2171.toInt) rfl rfl c_2212
                        refine lv_aload_n hx hb dX12_next_262 rfl (lv_at hl 0 rfl) ?_
                        refine va_get (ci := 12) (v := .ref t0) (C := RX12) (T := TX12) (N := 60) hx hb hts hw12 hown hK hP 0 rfl rfl 12 (by decide) (hts (.fieldLink RX12 35 "SmokeTuneModel" "tape" "[I") (List.mem_cons_of_mem _ (List.mem_append_left _ (List.mem_of_getElem? (i := 3) rfl)))) (fun _ h9 => h9) rfl dX12_next_263 ?_
                        refine lv_aload_n hx hb dX12_next_266 rfl (lv_at hl 0 rfl) ?_
                        refine va_get (ci := 12) (v := .int v_2171) (C := RX12) (T := TX12) (N := 60) hx hb hts hw12 hown hK hP 0 rfl rfl 15 (by decide) (hts (.fieldLink RX12 236 "SmokeTuneModel" "to" "I") (List.mem_cons_of_mem _ (List.mem_append_left _ (List.mem_of_getElem? (i := 0) rfl)))) (fun _ h9 => h9) rfl dX12_next_267 ?_
                        refine va_iald hx hb hK hP 1 0 rfl rfl (i_in rfl (by omega)) dX12_next_270 ?_
                        refine lv_topi (fun x_2213 ex_2213 => ?_)
                        have kx_2213 : ft (v_2171.toInt).toNat = x_2213 := by rw [ex_2213, i_clamp rfl]
                        refine pci (va_runS (As := [.int x_2213]) (rest := []) ⟨hx, hb, hml, hown, hts⟩ (v_isDigit l D K x_2213.toInt x_2213 H.size rfl) (va_cwS 1 hts gX12_next_X12_isDigit rfl rfl rfl (by decide +kernel) ⟨Nat.le_of_ble_eq_true rfl, Nat.le_of_ble_eq_true rfl⟩) (mkS hK hN (va_P.nil) (va_D.nil (A := fun _ => True))) rfl rfl hl.1 rfl (lv_room (Nat.le_of_ble_eq_true rfl)) dX12_next_271 ⟨Nat.le_of_ble_eq_true rfl, Nat.le_of_ble_eq_true rfl⟩) (fun r_2214 hw => ?_)
                        obtain ⟨hw, -⟩ := hw
                        rcases hw with ⟨rfl, h_2215, h_2216⟩ | ⟨rfl, h_2217⟩
                        · refine lv_if_eq (tgt := 335) hx hb dX12_next_274 (by decide) (fun c_2218 => absurd c_2218 (by decide)) (fun c_2218 => ?_)
                          refine lv_aload_n hx hb dX12_next_277 rfl (lv_at hl 0 rfl) ?_
                          refine lv_aload_n hx hb dX12_next_278 rfl (lv_at hl 0 rfl) ?_
                          refine va_get (ci := 12) (v := .long v_2172) (C := RX12) (T := TX12) (N := 60) hx hb hts hw12 hown hK hP 0 rfl rfl 17 (by decide) (hts (.fieldLink RX12 249 "SmokeTuneModel" "worth" "J") (List.mem_cons_of_mem _ (List.mem_append_left _ (List.mem_of_getElem? (i := 4) rfl)))) (fun _ h9 => h9) rfl dX12_next_279 ?_
                          refine lv_ldc2 (v := 1000000) hx hb hown (hts (.constantLong RX12 268 (1000000)) (List.mem_cons_of_mem _ (List.mem_append_left _ (List.mem_of_getElem? (i := 9) rfl)))) dX12_next_282 ?_
                          refine W.lcmp hx hb dX12_next_285 ?_
                          refine lv_if_le (tgt := 296) hx hb dX12_next_286 (by decide) (fun c_2219 => ?_) (fun c_2219 => ?_)
                          · have c_2219i := l_le (x := v_2172.toInt) (y := 1000000) rfl rfl ((lg_cmp_le v_2172 1000000).mp c_2219)
                            refine lv_aload_n hx hb dX12_next_296 rfl (lv_at hl 0 rfl) ?_
                            refine va_get (ci := 12) (v := .long v_2172) (C := RX12) (T := TX12) (N := 60) hx hb hts hw12 hown hK hP 0 rfl rfl 17 (by decide) (hts (.fieldLink RX12 249 "SmokeTuneModel" "worth" "J") (List.mem_cons_of_mem _ (List.mem_append_left _ (List.mem_of_getElem? (i := 4) rfl)))) (fun _ h9 => h9) rfl dX12_next_297 ?_
                            refine lv_ldc2 (v := 10) hx hb hown (hts (.constantLong RX12 219 (10)) (List.mem_cons_of_mem _ (List.mem_append_left _ (List.mem_of_getElem? (i := 10) rfl)))) dX12_next_300 ?_
                            refine lv_lmul hx hb dX12_next_303 ?_
                            refine lv_topl (fun x_2220 ex_2220 => ?_)
                            have hx_2220 : x_2220.toInt = (v_2172.toInt * 10) := by rw [ex_2220]; exact l_mul rfl (show (10 : Int64).toInt = 10 from rfl) (by omega)
                            refine lv_aload_n hx hb dX12_next_304 rfl (lv_at hl 0 rfl) ?_
                            refine va_get (ci := 12) (v := .ref t0) (C := RX12) (T := TX12) (N := 60) hx hb hts hw12 hown hK hP 0 rfl rfl 12 (by decide) (hts (.fieldLink RX12 35 "SmokeTuneModel" "tape" "[I") (List.mem_cons_of_mem _ (List.mem_append_left _ (List.mem_of_getElem? (i := 3) rfl)))) (fun _ h9 => h9) rfl dX12_next_305 ?_
                            refine lv_aload_n hx hb dX12_next_308 rfl (lv_at hl 0 rfl) ?_
                            refine va_get (ci := 12) (v := .int v_2171) (C := RX12) (T := TX12) (N := 60) hx hb hts hw12 hown hK hP 0 rfl rfl 15 (by decide) (hts (.fieldLink RX12 236 "SmokeTuneModel" "to" "I") (List.mem_cons_of_mem _ (List.mem_append_left _ (List.mem_of_getElem? (i := 0) rfl)))) (fun _ h9 => h9) rfl dX12_next_309 ?_
                            refine va_iald hx hb hK hP 1 0 rfl rfl (i_in rfl (by omega)) dX12_next_312 ?_
                            refine lv_topi (fun x_2221 ex_2221 => ?_)
                            obtain rfl : x_2221 = x_2213 := ex_2221.trans (by rw [i_clamp rfl]; exact kx_2213)
                            refine lv_i2l hx hb dX12_next_313 rfl ?_
                            refine lv_topl (fun x_2222 ex_2222 => ?_)
                            have hx_2222 : x_2222.toInt = x_2213.toInt := by rw [ex_2222]; exact i_wide rfl
                            refine lv_ladd hx hb dX12_next_314 ?_
                            refine lv_topl (fun x_2223 ex_2223 => ?_)
                            have hx_2223 : x_2223.toInt = ((v_2172.toInt * 10) + x_2213.toInt) := by rw [ex_2223]; exact l_add hx_2220 hx_2222 (by omega)
                            refine lv_ldc2 (v := 48) hx hb hown (hts (.constantLong RX12 270 (48)) (List.mem_cons_of_mem _ (List.mem_append_left _ (List.mem_of_getElem? (i := 11) rfl)))) dX12_next_315 ?_
                            refine lv_lsub hx hb dX12_next_318 ?_
                            refine lv_topl (fun x_2224 ex_2224 => ?_)
                            have hx_2224 : x_2224.toInt = (((v_2172.toInt * 10) + x_2213.toInt) - 48) := by rw [ex_2224]; exact l_sub hx_2223 (show (48 : Int64).toInt = 48 from rfl) (by omega)
                            refine va_put (ci := 12) (v := .long x_2224) (ty := .long) (C := RX12) (T := TX12) (N := 60) hx hb hts hw12 tyX12 tyX12_ok nmX12 hown hK hP hD hS 0 rfl rfl 17 (by decide) (hts (.fieldLink RX12 249 "SmokeTuneModel" "worth" "J") (List.mem_cons_of_mem _ (List.mem_append_left _ (List.mem_of_getElem? (i := 4) rfl)))) (fun _ h9 => h9) rfl (by decide +kernel) (by first | rfl | decide) (by first | rfl | decide) (Nat.le_of_ble_eq_true rfl) dX12_next_319 (fun H locs hP hD hS => ?_)
                            have hP : va_P D vwCl [(m0, .inr (12, [m_0, m_1, m_2, m_3, m_4, m_5, m_6, m_7, m_8, m_9, m_10, m_11, .ref t0, .int ta, .int v_1792, .int v_2171, .int 2, .long x_2224, m_18, m_19, m_20, m_21, m_22, m_23, m_24, m_25, m_26, m_27, m_28, m_29, m_30, m_31, m_32, m_33, m_34, m_35, m_36, m_37, m_38, m_39, m_40, m_41, m_42, m_43, m_44, m_45, m_46, m_47, m_48, m_49, m_50, m_51, m_52, m_53, m_54, m_55, m_56, m_57, m_58, m_59])), (t0, .inl (K 0, 400, .inl ft))] H := hP
                            have hD : va_D A [(m0, .inr (12, [m_0, m_1, m_2, m_3, m_4, m_5, m_6, m_7, m_8, m_9, m_10, m_11, .ref t0, .int ta, .int v_1792, .int v_2171, .int 2, .long x_2224, m_18, m_19, m_20, m_21, m_22, m_23, m_24, m_25, m_26, m_27, m_28, m_29, m_30, m_31, m_32, m_33, m_34, m_35, m_36, m_37, m_38, m_39, m_40, m_41, m_42, m_43, m_44, m_45, m_46, m_47, m_48, m_49, m_50, m_51, m_52, m_53, m_54, m_55, m_56, m_57, m_58, m_59])), (t0, .inl (K 0, 400, .inl ft))] := hD
                            refine lv_aload_n hx hb dX12_next_322 rfl (lv_at hl 0 rfl) ?_
                            refine lv_dup hx hb dX12_next_323 rfl ?_
                            refine va_get (ci := 12) (v := .int v_2171) (C := RX12) (T := TX12) (N := 60) hx hb hts hw12 hown hK hP 0 rfl rfl 15 (by decide) (hts (.fieldLink RX12 236 "SmokeTuneModel" "to" "I") (List.mem_cons_of_mem _ (List.mem_append_left _ (List.mem_of_getElem? (i := 0) rfl)))) (fun _ h9 => h9) rfl dX12_next_324 ?_
                            refine lv_iconst (v := 1) hx hb dX12_next_327 (by decide) ?_
                            refine lv_iadd hx hb dX12_next_328 ?_
                            refine lv_topi (fun x_2225 ex_2225 => ?_)
                            have hx_2225 : x_2225.toInt = (v_2171.toInt + 1) := by rw [ex_2225]; exact i_add rfl (show (1 : Int32).toInt = 1 from rfl) (by omega)
                            refine va_put (ci := 12) (v := .int x_2225) (ty := .int) (C := RX12) (T := TX12) (N := 60) hx hb hts hw12 tyX12 tyX12_ok nmX12 hown hK hP hD hS 0 rfl rfl 15 (by decide) (hts (.fieldLink RX12 236 "SmokeTuneModel" "to" "I") (List.mem_cons_of_mem _ (List.mem_append_left _ (List.mem_of_getElem? (i := 0) rfl)))) (fun _ h9 => h9) rfl (by decide +kernel) (by first | rfl | decide) (by first | rfl | decide) (Nat.le_of_ble_eq_true rfl) dX12_next_329 (fun H locs hP hD hS => ?_)
                            have hP : va_P D vwCl [(m0, .inr (12, [m_0, m_1, m_2, m_3, m_4, m_5, m_6, m_7, m_8, m_9, m_10, m_11, .ref t0, .int ta, .int v_1792, .int x_2225, .int 2, .long x_2224, m_18, m_19, m_20, m_21, m_22, m_23, m_24, m_25, m_26, m_27, m_28, m_29, m_30, m_31, m_32, m_33, m_34, m_35, m_36, m_37, m_38, m_39, m_40, m_41, m_42, m_43, m_44, m_45, m_46, m_47, m_48, m_49, m_50, m_51, m_52, m_53, m_54, m_55, m_56, m_57, m_58, m_59])), (t0, .inl (K 0, 400, .inl ft))] H := hP
                            have hD : va_D A [(m0, .inr (12, [m_0, m_1, m_2, m_3, m_4, m_5, m_6, m_7, m_8, m_9, m_10, m_11, .ref t0, .int ta, .int v_1792, .int x_2225, .int 2, .long x_2224, m_18, m_19, m_20, m_21, m_22, m_23, m_24, m_25, m_26, m_27, m_28, m_29, m_30, m_31, m_32, m_33, m_34, m_35, m_36, m_37, m_38, m_39, m_40, m_41, m_42, m_43, m_44, m_45, m_46, m_47, m_48, m_49, m_50, m_51, m_52, m_53, m_54, m_55, m_56, m_57, m_58, m_59])), (t0, .inl (K 0, 400, .inl ft))] := hD
                            refine lv_goto (tgt := 243) hx hb dX12_next_332 (by decide) ?_
                            exact ih_2210 x_2225 x_2224 (by rw [hx_2225]; omega) (by rw [hx_2224]; omega) (show v_1792.toInt < (x_2225 : Int32).toInt ∧ (x_2225 : Int32).toInt ≤ ta.toInt by omega) (by omega) _ _ hP hD hS ls (lv_sub hl [0] rfl)
                          · have c_2219i := l_nle (x := v_2172.toInt) (y := 1000000) rfl rfl (fun q => c_2219 ((lg_cmp_le v_2172 1000000).mpr q))
                            refine lv_aload_n hx hb dX12_next_289 rfl (lv_at hl 0 rfl) ?_
                            refine va_get (ci := 12) (v := .long v_2172) (C := RX12) (T := TX12) (N := 60) hx hb hts hw12 hown hK hP 0 rfl rfl 17 (by decide) (hts (.fieldLink RX12 249 "SmokeTuneModel" "worth" "J") (List.mem_cons_of_mem _ (List.mem_append_left _ (List.mem_of_getElem? (i := 4) rfl)))) (fun _ h9 => h9) rfl dX12_next_290 ?_
                            refine lv_goto (tgt := 319) hx hb dX12_next_293 (by decide) ?_
                            refine va_put (ci := 12) (v := .long v_2172) (ty := .long) (C := RX12) (T := TX12) (N := 60) hx hb hts hw12 tyX12 tyX12_ok nmX12 hown hK hP hD hS 0 rfl rfl 17 (by decide) (hts (.fieldLink RX12 249 "SmokeTuneModel" "worth" "J") (List.mem_cons_of_mem _ (List.mem_append_left _ (List.mem_of_getElem? (i := 4) rfl)))) (fun _ h9 => h9) rfl (by decide +kernel) (by first | rfl | decide) (by first | rfl | decide) (Nat.le_of_ble_eq_true rfl) dX12_next_319 (fun H locs hP hD hS => ?_)
                            have hP : va_P D vwCl [(m0, .inr (12, [m_0, m_1, m_2, m_3, m_4, m_5, m_6, m_7, m_8, m_9, m_10, m_11, .ref t0, .int ta, .int v_1792, .int v_2171, .int 2, .long v_2172, m_18, m_19, m_20, m_21, m_22, m_23, m_24, m_25, m_26, m_27, m_28, m_29, m_30, m_31, m_32, m_33, m_34, m_35, m_36, m_37, m_38, m_39, m_40, m_41, m_42, m_43, m_44, m_45, m_46, m_47, m_48, m_49, m_50, m_51, m_52, m_53, m_54, m_55, m_56, m_57, m_58, m_59])), (t0, .inl (K 0, 400, .inl ft))] H := hP
                            have hD : va_D A [(m0, .inr (12, [m_0, m_1, m_2, m_3, m_4, m_5, m_6, m_7, m_8, m_9, m_10, m_11, .ref t0, .int ta, .int v_1792, .int v_2171, .int 2, .long v_2172, m_18, m_19, m_20, m_21, m_22, m_23, m_24, m_25, m_26, m_27, m_28, m_29, m_30, m_31, m_32, m_33, m_34, m_35, m_36, m_37, m_38, m_39, m_40, m_41, m_42, m_43, m_44, m_45, m_46, m_47, m_48, m_49, m_50, m_51, m_52, m_53, m_54, m_55, m_56, m_57, m_58, m_59])), (t0, .inl (K 0, 400, .inl ft))] := hD
                            refine lv_aload_n hx hb dX12_next_322 rfl (lv_at hl 0 rfl) ?_
                            refine lv_dup hx hb dX12_next_323 rfl ?_
                            refine va_get (ci := 12) (v := .int v_2171) (C := RX12) (T := TX12) (N := 60) hx hb hts hw12 hown hK hP 0 rfl rfl 15 (by decide) (hts (.fieldLink RX12 236 "SmokeTuneModel" "to" "I") (List.mem_cons_of_mem _ (List.mem_append_left _ (List.mem_of_getElem? (i := 0) rfl)))) (fun _ h9 => h9) rfl dX12_next_324 ?_
                            refine lv_iconst (v := 1) hx hb dX12_next_327 (by decide) ?_
                            refine lv_iadd hx hb dX12_next_328 ?_
                            refine lv_topi (fun x_2226 ex_2226 => ?_)
                            have hx_2226 : x_2226.toInt = (v_2171.toInt + 1) := by rw [ex_2226]; exact i_add rfl (show (1 : Int32).toInt = 1 from rfl) (by omega)
                            refine va_put (ci := 12) (v := .int x_2226) (ty := .int) (C := RX12) (T := TX12) (N := 60) hx hb hts hw12 tyX12 tyX12_ok nmX12 hown hK hP hD hS 0 rfl rfl 15 (by decide) (hts (.fieldLink RX12 236 "SmokeTuneModel" "to" "I") (List.mem_cons_of_mem _ (List.mem_append_left _ (List.mem_of_getElem? (i := 0) rfl)))) (fun _ h9 => h9) rfl (by decide +kernel) (by first | rfl | decide) (by first | rfl | decide) (Nat.le_of_ble_eq_true rfl) dX12_next_329 (fun H locs hP hD hS => ?_)
                            have hP : va_P D vwCl [(m0, .inr (12, [m_0, m_1, m_2, m_3, m_4, m_5, m_6, m_7, m_8, m_9, m_10, m_11, .ref t0, .int ta, .int v_1792, .int x_2226, .int 2, .long v_2172, m_18, m_19, m_20, m_21, m_22, m_23, m_24, m_25, m_26, m_27, m_28, m_29, m_30, m_31, m_32, m_33, m_34, m_35, m_36, m_37, m_38, m_39, m_40, m_41, m_42, m_43, m_44, m_45, m_46, m_47, m_48, m_49, m_50, m_51, m_52, m_53, m_54, m_55, m_56, m_57, m_58, m_59])), (t0, .inl (K 0, 400, .inl ft))] H := hP
                            have hD : va_D A [(m0, .inr (12, [m_0, m_1, m_2, m_3, m_4, m_5, m_6, m_7, m_8, m_9, m_10, m_11, .ref t0, .int ta, .int v_1792, .int x_2226, .int 2, .long v_2172, m_18, m_19, m_20, m_21, m_22, m_23, m_24, m_25, m_26, m_27, m_28, m_29, m_30, m_31, m_32, m_33, m_34, m_35, m_36, m_37, m_38, m_39, m_40, m_41, m_42, m_43, m_44, m_45, m_46, m_47, m_48, m_49, m_50, m_51, m_52, m_53, m_54, m_55, m_56, m_57, m_58, m_59])), (t0, .inl (K 0, 400, .inl ft))] := hD
                            refine lv_goto (tgt := 243) hx hb dX12_next_332 (by decide) ?_
                            exact ih_2210 x_2226 v_2172 (by rw [hx_2226]; omega) (by omega) (show v_1792.toInt < (x_2226 : Int32).toInt ∧ (x_2226 : Int32).toInt ≤ ta.toInt by omega) (by omega) _ _ hP hD hS ls (lv_sub hl [0] rfl)
                        · refine lv_if_eq (tgt := 335) hx hb dX12_next_274 (by decide) (fun c_2227 => ?_) (fun c_2227 => absurd (by decide) c_2227)
                          subst hQ
                          have hP9 := hP.sub (ws' := [(m0, .inr (12, [m_0, m_1, m_2, m_3, m_4, m_5, m_6, m_7, m_8, m_9, m_10, m_11, .ref t0, .int ta, .int v_1792, .int v_2171, .int 2, .long v_2172, m_18, m_19, m_20, m_21, m_22, m_23, m_24, m_25, m_26, m_27, m_28, m_29, m_30, m_31, m_32, m_33, m_34, m_35, m_36, m_37, m_38, m_39, m_40, m_41, m_42, m_43, m_44, m_45, m_46, m_47, m_48, m_49, m_50, m_51, m_52, m_53, m_54, m_55, m_56, m_57, m_58, m_59])), (t0, .inl (K 0, 400, .inl ft))]) [0, 1] rfl
                          have hD9 := hD.sub (ws' := [(m0, .inr (12, [m_0, m_1, m_2, m_3, m_4, m_5, m_6, m_7, m_8, m_9, m_10, m_11, .ref t0, .int ta, .int v_1792, .int v_2171, .int 2, .long v_2172, m_18, m_19, m_20, m_21, m_22, m_23, m_24, m_25, m_26, m_27, m_28, m_29, m_30, m_31, m_32, m_33, m_34, m_35, m_36, m_37, m_38, m_39, m_40, m_41, m_42, m_43, m_44, m_45, m_46, m_47, m_48, m_49, m_50, m_51, m_52, m_53, m_54, m_55, m_56, m_57, m_58, m_59])), (t0, .inl (K 0, 400, .inl ft))]) [0, 1] (by decide) rfl
                          exact W.vret hx hb hr (fun t ht hW => ⟨⟨((fun _ => 0, fun _ => fun _ => 0, fun _ => fun _ => 0, fun i => match i with | 0 => v_1792 | 1 => v_2171 | _ => 2, fun i => match i with | _ => v_2172, fun _ => fun _ => none) : Su), rfl, ⟨(show 0 ≤ (v_1792 : Int32).toInt ∧ (v_1792 : Int32).toInt ≤ 400 by omega), (show 0 ≤ (v_2171 : Int32).toInt ∧ (v_2171 : Int32).toInt ≤ 401 by omega), (show 0 ≤ (2 : Int32).toInt ∧ (2 : Int32).toInt ≤ 3 by decide), (show ((0 ≤ (v_1792 : Int32).toInt ∧ (v_1792 : Int32).toInt ≤ (v_2171 : Int32).toInt ∧ (v_2171 : Int32).toInt ≤ ta.toInt) ∧ (2 = 0 ∨ (v_1792 : Int32).toInt < (v_2171 : Int32).toInt) ∧ (2 ≠ 1 ∨ (v_1792 : Int32).toInt + 1 < (v_2171 : Int32).toInt ∨ (v_2172 : Int64).toInt ≤ 26)) by omega), (show to.toInt ≤ (v_1792 : Int32).toInt by omega), trivial⟩, (⟨by rw [ht]; exact hP9, hD9⟩ : Wd D A _ t)⟩, hS.F ht⟩) hS.2.2 dX12_next_335
                  exact lp_2209 ((ta.toInt - (x_2117 : Int32).toInt : Int).toNat + 1) x_2117 x_2116 (by rw [hx_2117]; omega) (by rw [hx_2116]; omega) (show v_1792.toInt < (x_2117 : Int32).toInt ∧ (x_2117 : Int32).toInt ≤ ta.toInt by omega) (Nat.lt_succ_self _) _ _ hP hD hS ls (lv_sub hl [0] rfl)
                · exfalso; omega
            · refine lv_if_eq (tgt := 113) hx hb dX12_next_106 (by decide) (fun c_2228 => ?_) (fun c_2228 => absurd (by decide) c_2228)
              refine lv_iconst (v := 3) hx hb dX12_next_113 (by decide) ?_
              refine va_put (ci := 12) (v := .int 3) (ty := .int) (C := RX12) (T := TX12) (N := 60) hx hb hts hw12 tyX12 tyX12_ok nmX12 hown hK hP hD hS 0 rfl rfl 16 (by decide) (hts (.fieldLink RX12 259 "SmokeTuneModel" "sort" "I") (List.mem_cons_of_mem _ (List.mem_append_left _ (List.mem_of_getElem? (i := 5) rfl)))) (fun _ h9 => h9) rfl (by decide +kernel) (by first | rfl | decide) (by first | rfl | decide) (Nat.le_of_ble_eq_true rfl) dX12_next_114 (fun H locs hP hD hS => ?_)
              have hP : va_P D vwCl [(m0, .inr (12, [m_0, m_1, m_2, m_3, m_4, m_5, m_6, m_7, m_8, m_9, m_10, m_11, .ref t0, .int ta, .int v_1792, .int v_1792, .int 3, .long 0, m_18, m_19, m_20, m_21, m_22, m_23, m_24, m_25, m_26, m_27, m_28, m_29, m_30, m_31, m_32, m_33, m_34, m_35, m_36, m_37, m_38, m_39, m_40, m_41, m_42, m_43, m_44, m_45, m_46, m_47, m_48, m_49, m_50, m_51, m_52, m_53, m_54, m_55, m_56, m_57, m_58, m_59])), (t0, .inl (K 0, 400, .inl ft))] H := hP
              have hD : va_D A [(m0, .inr (12, [m_0, m_1, m_2, m_3, m_4, m_5, m_6, m_7, m_8, m_9, m_10, m_11, .ref t0, .int ta, .int v_1792, .int v_1792, .int 3, .long 0, m_18, m_19, m_20, m_21, m_22, m_23, m_24, m_25, m_26, m_27, m_28, m_29, m_30, m_31, m_32, m_33, m_34, m_35, m_36, m_37, m_38, m_39, m_40, m_41, m_42, m_43, m_44, m_45, m_46, m_47, m_48, m_49, m_50, m_51, m_52, m_53, m_54, m_55, m_56, m_57, m_58, m_59])), (t0, .inl (K 0, 400, .inl ft))] := hD
              refine lv_aload_n hx hb dX12_next_117 rfl (lv_at hl 0 rfl) ?_
              refine va_get (ci := 12) (v := .int 3) (C := RX12) (T := TX12) (N := 60) hx hb hts hw12 hown hK hP 0 rfl rfl 16 (by decide) (hts (.fieldLink RX12 259 "SmokeTuneModel" "sort" "I") (List.mem_cons_of_mem _ (List.mem_append_left _ (List.mem_of_getElem? (i := 5) rfl)))) (fun _ h9 => h9) rfl dX12_next_118 ?_
              refine lv_iconst (v := 3) hx hb dX12_next_121 (by decide) ?_
              refine lv_icmp_ne (tgt := 149) hx hb dX12_next_122 (by decide) (fun c_2229 => absurd (by decide) c_2229) (fun c_2229 => ?_)
              refine lv_aload_n hx hb dX12_next_125 rfl (lv_at hl 0 rfl) ?_
              refine lv_aload_n hx hb dX12_next_126 rfl (lv_at hl 0 rfl) ?_
              refine va_get (ci := 12) (v := .ref t0) (C := RX12) (T := TX12) (N := 60) hx hb hts hw12 hown hK hP 0 rfl rfl 12 (by decide) (hts (.fieldLink RX12 35 "SmokeTuneModel" "tape" "[I") (List.mem_cons_of_mem _ (List.mem_append_left _ (List.mem_of_getElem? (i := 3) rfl)))) (fun _ h9 => h9) rfl dX12_next_127 ?_
              refine lv_aload_n hx hb dX12_next_130 rfl (lv_at hl 0 rfl) ?_
              refine va_get (ci := 12) (v := .int v_1792) (C := RX12) (T := TX12) (N := 60) hx hb hts hw12 hown hK hP 0 rfl rfl 14 (by decide) (hts (.fieldLink RX12 246 "SmokeTuneModel" "from" "I") (List.mem_cons_of_mem _ (List.mem_append_left _ (List.mem_of_getElem? (i := 1) rfl)))) (fun _ h9 => h9) rfl dX12_next_131 ?_
              refine va_iald hx hb hK hP 1 0 rfl rfl (i_in rfl (by omega)) dX12_next_134 ?_
              refine lv_topi (fun x_2230 ex_2230 => ?_)
              obtain rfl : x_2230 = x_1806 := ex_2230.trans (by rw [i_clamp rfl]; exact kx_1806)
              refine lv_i2l hx hb dX12_next_135 rfl ?_
              refine lv_topl (fun x_2231 ex_2231 => ?_)
              have hx_2231 : x_2231.toInt = x_1806.toInt := by rw [ex_2231]; exact i_wide rfl
              have hbx_2231 := i_rng (a := x_1806) rfl
              refine va_put (ci := 12) (v := .long x_2231) (ty := .long) (C := RX12) (T := TX12) (N := 60) hx hb hts hw12 tyX12 tyX12_ok nmX12 hown hK hP hD hS 0 rfl rfl 17 (by decide) (hts (.fieldLink RX12 249 "SmokeTuneModel" "worth" "J") (List.mem_cons_of_mem _ (List.mem_append_left _ (List.mem_of_getElem? (i := 4) rfl)))) (fun _ h9 => h9) rfl (by decide +kernel) (by first | rfl | decide) (by first | rfl | decide) (Nat.le_of_ble_eq_true rfl) dX12_next_136 (fun H locs hP hD hS => ?_)
              have hP : va_P D vwCl [(m0, .inr (12, [m_0, m_1, m_2, m_3, m_4, m_5, m_6, m_7, m_8, m_9, m_10, m_11, .ref t0, .int ta, .int v_1792, .int v_1792, .int 3, .long x_2231, m_18, m_19, m_20, m_21, m_22, m_23, m_24, m_25, m_26, m_27, m_28, m_29, m_30, m_31, m_32, m_33, m_34, m_35, m_36, m_37, m_38, m_39, m_40, m_41, m_42, m_43, m_44, m_45, m_46, m_47, m_48, m_49, m_50, m_51, m_52, m_53, m_54, m_55, m_56, m_57, m_58, m_59])), (t0, .inl (K 0, 400, .inl ft))] H := hP
              have hD : va_D A [(m0, .inr (12, [m_0, m_1, m_2, m_3, m_4, m_5, m_6, m_7, m_8, m_9, m_10, m_11, .ref t0, .int ta, .int v_1792, .int v_1792, .int 3, .long x_2231, m_18, m_19, m_20, m_21, m_22, m_23, m_24, m_25, m_26, m_27, m_28, m_29, m_30, m_31, m_32, m_33, m_34, m_35, m_36, m_37, m_38, m_39, m_40, m_41, m_42, m_43, m_44, m_45, m_46, m_47, m_48, m_49, m_50, m_51, m_52, m_53, m_54, m_55, m_56, m_57, m_58, m_59])), (t0, .inl (K 0, 400, .inl ft))] := hD
              refine lv_aload_n hx hb dX12_next_139 rfl (lv_at hl 0 rfl) ?_
              refine lv_dup hx hb dX12_next_140 rfl ?_
              refine va_get (ci := 12) (v := .int v_1792) (C := RX12) (T := TX12) (N := 60) hx hb hts hw12 hown hK hP 0 rfl rfl 15 (by decide) (hts (.fieldLink RX12 236 "SmokeTuneModel" "to" "I") (List.mem_cons_of_mem _ (List.mem_append_left _ (List.mem_of_getElem? (i := 0) rfl)))) (fun _ h9 => h9) rfl dX12_next_141 ?_
              refine lv_iconst (v := 1) hx hb dX12_next_144 (by decide) ?_
              refine lv_iadd hx hb dX12_next_145 ?_
              refine lv_topi (fun x_2232 ex_2232 => ?_)
              have hx_2232 : x_2232.toInt = (v_1792.toInt + 1) := by rw [ex_2232]; exact i_add rfl (show (1 : Int32).toInt = 1 from rfl) (by omega)
              refine va_put (ci := 12) (v := .int x_2232) (ty := .int) (C := RX12) (T := TX12) (N := 60) hx hb hts hw12 tyX12 tyX12_ok nmX12 hown hK hP hD hS 0 rfl rfl 15 (by decide) (hts (.fieldLink RX12 236 "SmokeTuneModel" "to" "I") (List.mem_cons_of_mem _ (List.mem_append_left _ (List.mem_of_getElem? (i := 0) rfl)))) (fun _ h9 => h9) rfl (by decide +kernel) (by first | rfl | decide) (by first | rfl | decide) (Nat.le_of_ble_eq_true rfl) dX12_next_146 (fun H locs hP hD hS => ?_)
              have hP : va_P D vwCl [(m0, .inr (12, [m_0, m_1, m_2, m_3, m_4, m_5, m_6, m_7, m_8, m_9, m_10, m_11, .ref t0, .int ta, .int v_1792, .int x_2232, .int 3, .long x_2231, m_18, m_19, m_20, m_21, m_22, m_23, m_24, m_25, m_26, m_27, m_28, m_29, m_30, m_31, m_32, m_33, m_34, m_35, m_36, m_37, m_38, m_39, m_40, m_41, m_42, m_43, m_44, m_45, m_46, m_47, m_48, m_49, m_50, m_51, m_52, m_53, m_54, m_55, m_56, m_57, m_58, m_59])), (t0, .inl (K 0, 400, .inl ft))] H := hP
              have hD : va_D A [(m0, .inr (12, [m_0, m_1, m_2, m_3, m_4, m_5, m_6, m_7, m_8, m_9, m_10, m_11, .ref t0, .int ta, .int v_1792, .int x_2232, .int 3, .long x_2231, m_18, m_19, m_20, m_21, m_22, m_23, m_24, m_25, m_26, m_27, m_28, m_29, m_30, m_31, m_32, m_33, m_34, m_35, m_36, m_37, m_38, m_39, m_40, m_41, m_42, m_43, m_44, m_45, m_46, m_47, m_48, m_49, m_50, m_51, m_52, m_53, m_54, m_55, m_56, m_57, m_58, m_59])), (t0, .inl (K 0, 400, .inl ft))] := hD
              refine lv_aload_n hx hb dX12_next_149 rfl (lv_at hl 0 rfl) ?_
              refine va_get (ci := 12) (v := .int 3) (C := RX12) (T := TX12) (N := 60) hx hb hts hw12 hown hK hP 0 rfl rfl 16 (by decide) (hts (.fieldLink RX12 259 "SmokeTuneModel" "sort" "I") (List.mem_cons_of_mem _ (List.mem_append_left _ (List.mem_of_getElem? (i := 5) rfl)))) (fun _ h9 => h9) rfl dX12_next_150 ?_
              refine lv_iconst (v := 1) hx hb dX12_next_153 (by decide) ?_
              refine lv_icmp_ne (tgt := 243) hx hb dX12_next_154 (by decide) (fun c_2233 => ?_) (fun c_2233 => absurd c_2233 (by decide))
              refine lv_aload_n hx hb dX12_next_243 rfl (lv_at hl 0 rfl) ?_
              refine va_get (ci := 12) (v := .int 3) (C := RX12) (T := TX12) (N := 60) hx hb hts hw12 hown hK hP 0 rfl rfl 16 (by decide) (hts (.fieldLink RX12 259 "SmokeTuneModel" "sort" "I") (List.mem_cons_of_mem _ (List.mem_append_left _ (List.mem_of_getElem? (i := 5) rfl)))) (fun _ h9 => h9) rfl dX12_next_244 ?_
              refine lv_iconst (v := 2) hx hb dX12_next_247 (by decide) ?_
              refine lv_icmp_ne (tgt := 335) hx hb dX12_next_248 (by decide) (fun c_2234 => ?_) (fun c_2234 => absurd c_2234 (by decide))
              subst hQ
              have hP9 := hP.sub (ws' := [(m0, .inr (12, [m_0, m_1, m_2, m_3, m_4, m_5, m_6, m_7, m_8, m_9, m_10, m_11, .ref t0, .int ta, .int v_1792, .int x_2232, .int 3, .long x_2231, m_18, m_19, m_20, m_21, m_22, m_23, m_24, m_25, m_26, m_27, m_28, m_29, m_30, m_31, m_32, m_33, m_34, m_35, m_36, m_37, m_38, m_39, m_40, m_41, m_42, m_43, m_44, m_45, m_46, m_47, m_48, m_49, m_50, m_51, m_52, m_53, m_54, m_55, m_56, m_57, m_58, m_59])), (t0, .inl (K 0, 400, .inl ft))]) [0, 1] rfl
              have hD9 := hD.sub (ws' := [(m0, .inr (12, [m_0, m_1, m_2, m_3, m_4, m_5, m_6, m_7, m_8, m_9, m_10, m_11, .ref t0, .int ta, .int v_1792, .int x_2232, .int 3, .long x_2231, m_18, m_19, m_20, m_21, m_22, m_23, m_24, m_25, m_26, m_27, m_28, m_29, m_30, m_31, m_32, m_33, m_34, m_35, m_36, m_37, m_38, m_39, m_40, m_41, m_42, m_43, m_44, m_45, m_46, m_47, m_48, m_49, m_50, m_51, m_52, m_53, m_54, m_55, m_56, m_57, m_58, m_59])), (t0, .inl (K 0, 400, .inl ft))]) [0, 1] (by decide) rfl
              exact W.vret hx hb hr (fun t ht hW => ⟨⟨((fun _ => 0, fun _ => fun _ => 0, fun _ => fun _ => 0, fun i => match i with | 0 => v_1792 | 1 => x_2232 | _ => 3, fun i => match i with | _ => x_2231, fun _ => fun _ => none) : Su), rfl, ⟨(show 0 ≤ (v_1792 : Int32).toInt ∧ (v_1792 : Int32).toInt ≤ 400 by omega), (show 0 ≤ (x_2232 : Int32).toInt ∧ (x_2232 : Int32).toInt ≤ 401 by rw [hx_2232]; omega), (show 0 ≤ (3 : Int32).toInt ∧ (3 : Int32).toInt ≤ 3 by decide), (show ((0 ≤ (v_1792 : Int32).toInt ∧ (v_1792 : Int32).toInt ≤ (x_2232 : Int32).toInt ∧ (x_2232 : Int32).toInt ≤ ta.toInt) ∧ (3 = 0 ∨ (v_1792 : Int32).toInt < (x_2232 : Int32).toInt) ∧ (3 ≠ 1 ∨ (v_1792 : Int32).toInt + 1 < (x_2232 : Int32).toInt ∨ (x_2231 : Int64).toInt ≤ 26)) by omega), (show to.toInt ≤ (v_1792 : Int32).toInt by omega), trivial⟩, (⟨by rw [ht]; exact hP9, hD9⟩ : Wd D A _ t)⟩, hS.F ht⟩) hS.2.2 dX12_next_335
        · have c_1805i := i_eq (x := v_1792.toInt) (y := ta.toInt) rfl rfl c_1805
          refine lv_iconst (v := 0) hx hb dX12_next_71 (by decide) ?_
          refine lv_goto (tgt := 114) hx hb dX12_next_72 (by decide) ?_
          refine va_put (ci := 12) (v := .int 0) (ty := .int) (C := RX12) (T := TX12) (N := 60) hx hb hts hw12 tyX12 tyX12_ok nmX12 hown hK hP hD hS 0 rfl rfl 16 (by decide) (hts (.fieldLink RX12 259 "SmokeTuneModel" "sort" "I") (List.mem_cons_of_mem _ (List.mem_append_left _ (List.mem_of_getElem? (i := 5) rfl)))) (fun _ h9 => h9) rfl (by decide +kernel) (by first | rfl | decide) (by first | rfl | decide) (Nat.le_of_ble_eq_true rfl) dX12_next_114 (fun H locs hP hD hS => ?_)
          have hP : va_P D vwCl [(m0, .inr (12, [m_0, m_1, m_2, m_3, m_4, m_5, m_6, m_7, m_8, m_9, m_10, m_11, .ref t0, .int ta, .int v_1792, .int v_1792, .int 0, .long 0, m_18, m_19, m_20, m_21, m_22, m_23, m_24, m_25, m_26, m_27, m_28, m_29, m_30, m_31, m_32, m_33, m_34, m_35, m_36, m_37, m_38, m_39, m_40, m_41, m_42, m_43, m_44, m_45, m_46, m_47, m_48, m_49, m_50, m_51, m_52, m_53, m_54, m_55, m_56, m_57, m_58, m_59])), (t0, .inl (K 0, 400, .inl ft))] H := hP
          have hD : va_D A [(m0, .inr (12, [m_0, m_1, m_2, m_3, m_4, m_5, m_6, m_7, m_8, m_9, m_10, m_11, .ref t0, .int ta, .int v_1792, .int v_1792, .int 0, .long 0, m_18, m_19, m_20, m_21, m_22, m_23, m_24, m_25, m_26, m_27, m_28, m_29, m_30, m_31, m_32, m_33, m_34, m_35, m_36, m_37, m_38, m_39, m_40, m_41, m_42, m_43, m_44, m_45, m_46, m_47, m_48, m_49, m_50, m_51, m_52, m_53, m_54, m_55, m_56, m_57, m_58, m_59])), (t0, .inl (K 0, 400, .inl ft))] := hD
          refine lv_aload_n hx hb dX12_next_117 rfl (lv_at hl 0 rfl) ?_
          refine va_get (ci := 12) (v := .int 0) (C := RX12) (T := TX12) (N := 60) hx hb hts hw12 hown hK hP 0 rfl rfl 16 (by decide) (hts (.fieldLink RX12 259 "SmokeTuneModel" "sort" "I") (List.mem_cons_of_mem _ (List.mem_append_left _ (List.mem_of_getElem? (i := 5) rfl)))) (fun _ h9 => h9) rfl dX12_next_118 ?_
          refine lv_iconst (v := 3) hx hb dX12_next_121 (by decide) ?_
          refine lv_icmp_ne (tgt := 149) hx hb dX12_next_122 (by decide) (fun c_2235 => ?_) (fun c_2235 => absurd c_2235 (by decide))
          refine lv_aload_n hx hb dX12_next_149 rfl (lv_at hl 0 rfl) ?_
          refine va_get (ci := 12) (v := .int 0) (C := RX12) (T := TX12) (N := 60) hx hb hts hw12 hown hK hP 0 rfl rfl 16 (by decide) (hts (.fieldLink RX12 259 "SmokeTuneModel" "sort" "I") (List.mem_cons_of_mem _ (List.mem_append_left _ (List.mem_of_getElem? (i := 5) rfl)))) (fun _ h9 => h9) rfl dX12_next_150 ?_
          refine lv_iconst (v := 1) hx hb dX12_next_153 (by decide) ?_
          refine lv_icmp_ne (tgt := 243) hx hb dX12_next_154 (by decide) (fun c_2236 => ?_) (fun c_2236 => absurd c_2236 (by decide))
          refine lv_aload_n hx hb dX12_next_243 rfl (lv_at hl 0 rfl) ?_
          refine va_get (ci := 12) (v := .int 0) (C := RX12) (T := TX12) (N := 60) hx hb hts hw12 hown hK hP 0 rfl rfl 16 (by decide) (hts (.fieldLink RX12 259 "SmokeTuneModel" "sort" "I") (List.mem_cons_of_mem _ (List.mem_append_left _ (List.mem_of_getElem? (i := 5) rfl)))) (fun _ h9 => h9) rfl dX12_next_244 ?_
          refine lv_iconst (v := 2) hx hb dX12_next_247 (by decide) ?_
          refine lv_icmp_ne (tgt := 335) hx hb dX12_next_248 (by decide) (fun c_2237 => ?_) (fun c_2237 => absurd c_2237 (by decide))
          subst hQ
          have hP9 := hP.sub (ws' := [(m0, .inr (12, [m_0, m_1, m_2, m_3, m_4, m_5, m_6, m_7, m_8, m_9, m_10, m_11, .ref t0, .int ta, .int v_1792, .int v_1792, .int 0, .long 0, m_18, m_19, m_20, m_21, m_22, m_23, m_24, m_25, m_26, m_27, m_28, m_29, m_30, m_31, m_32, m_33, m_34, m_35, m_36, m_37, m_38, m_39, m_40, m_41, m_42, m_43, m_44, m_45, m_46, m_47, m_48, m_49, m_50, m_51, m_52, m_53, m_54, m_55, m_56, m_57, m_58, m_59])), (t0, .inl (K 0, 400, .inl ft))]) [0, 1] rfl
          have hD9 := hD.sub (ws' := [(m0, .inr (12, [m_0, m_1, m_2, m_3, m_4, m_5, m_6, m_7, m_8, m_9, m_10, m_11, .ref t0, .int ta, .int v_1792, .int v_1792, .int 0, .long 0, m_18, m_19, m_20, m_21, m_22, m_23, m_24, m_25, m_26, m_27, m_28, m_29, m_30, m_31, m_32, m_33, m_34, m_35, m_36, m_37, m_38, m_39, m_40, m_41, m_42, m_43, m_44, m_45, m_46, m_47, m_48, m_49, m_50, m_51, m_52, m_53, m_54, m_55, m_56, m_57, m_58, m_59])), (t0, .inl (K 0, 400, .inl ft))]) [0, 1] (by decide) rfl
          exact W.vret hx hb hr (fun t ht hW => ⟨⟨((fun _ => 0, fun _ => fun _ => 0, fun _ => fun _ => 0, fun i => match i with | 0 => v_1792 | 1 => v_1792 | _ => 0, fun i => match i with | _ => 0, fun _ => fun _ => none) : Su), rfl, ⟨(show 0 ≤ (v_1792 : Int32).toInt ∧ (v_1792 : Int32).toInt ≤ 400 by omega), (show 0 ≤ (v_1792 : Int32).toInt ∧ (v_1792 : Int32).toInt ≤ 401 by omega), (show 0 ≤ (0 : Int32).toInt ∧ (0 : Int32).toInt ≤ 3 by decide), (show ((0 ≤ (v_1792 : Int32).toInt ∧ (v_1792 : Int32).toInt ≤ (v_1792 : Int32).toInt ∧ (v_1792 : Int32).toInt ≤ ta.toInt) ∧ (0 = 0 ∨ (v_1792 : Int32).toInt < (v_1792 : Int32).toInt) ∧ (0 ≠ 1 ∨ (v_1792 : Int32).toInt + 1 < (v_1792 : Int32).toInt ∨ 0 ≤ 26)) by omega), (show to.toInt ≤ (v_1792 : Int32).toInt by omega), trivial⟩, (⟨by rw [ht]; exact hP9, hD9⟩ : Wd D A _ t)⟩, hS.F ht⟩) hS.2.2 dX12_next_335
      · have c_1804i := i_nle (x := ta.toInt) (y := v_1792.toInt) rfl rfl c_1804
        refine lv_aload_n hx hb dX12_next_19 rfl (lv_at hl 0 rfl) ?_
        refine va_get (ci := 12) (v := .ref t0) (C := RX12) (T := TX12) (N := 60) hx hb hts hw12 hown hK hP 0 rfl rfl 12 (by decide) (hts (.fieldLink RX12 35 "SmokeTuneModel" "tape" "[I") (List.mem_cons_of_mem _ (List.mem_append_left _ (List.mem_of_getElem? (i := 3) rfl)))) (fun _ h9 => h9) rfl dX12_next_20 ?_
        refine lv_aload_n hx hb dX12_next_23 rfl (lv_at hl 0 rfl) ?_
        refine va_get (ci := 12) (v := .int v_1792) (C := RX12) (T := TX12) (N := 60) hx hb hts hw12 hown hK hP 0 rfl rfl 14 (by decide) (hts (.fieldLink RX12 246 "SmokeTuneModel" "from" "I") (List.mem_cons_of_mem _ (List.mem_append_left _ (List.mem_of_getElem? (i := 1) rfl)))) (fun _ h9 => h9) rfl dX12_next_24 ?_
        refine va_iald hx hb hK hP 1 0 rfl rfl (i_in rfl (by omega)) dX12_next_27 ?_
        refine lv_topi (fun x_2238 ex_2238 => ?_)
        have kx_2238 : ft (v_1792.toInt).toNat = x_2238 := by rw [ex_2238, i_clamp rfl]
        refine lv_bipush (v := 32) hx hb dX12_next_28 (by decide) ?_
        refine lv_icmp_ne (tgt := 46) hx hb dX12_next_30 (by decide) (fun c_2239 => ?_) (fun c_2239 => ?_)
        · have c_2239i := i_ne (x := x_2238.toInt) (y := 32) rfl rfl c_2239
          refine lv_aload_n hx hb dX12_next_46 rfl (lv_at hl 0 rfl) ?_
          refine lv_aload_n hx hb dX12_next_47 rfl (lv_at hl 0 rfl) ?_
          refine va_get (ci := 12) (v := .int v_1792) (C := RX12) (T := TX12) (N := 60) hx hb hts hw12 hown hK hP 0 rfl rfl 14 (by decide) (hts (.fieldLink RX12 246 "SmokeTuneModel" "from" "I") (List.mem_cons_of_mem _ (List.mem_append_left _ (List.mem_of_getElem? (i := 1) rfl)))) (fun _ h9 => h9) rfl dX12_next_48 ?_
          refine va_put (ci := 12) (v := .int v_1792) (ty := .int) (C := RX12) (T := TX12) (N := 60) hx hb hts hw12 tyX12 tyX12_ok nmX12 hown hK hP hD hS 0 rfl rfl 15 (by decide) (hts (.fieldLink RX12 236 "SmokeTuneModel" "to" "I") (List.mem_cons_of_mem _ (List.mem_append_left _ (List.mem_of_getElem? (i := 0) rfl)))) (fun _ h9 => h9) rfl (by decide +kernel) (by first | rfl | decide) (by first | rfl | decide) (Nat.le_of_ble_eq_true rfl) dX12_next_51 (fun H locs hP hD hS => ?_)
          have hP : va_P D vwCl [(m0, .inr (12, [m_0, m_1, m_2, m_3, m_4, m_5, m_6, m_7, m_8, m_9, m_10, m_11, .ref t0, .int ta, .int v_1792, .int v_1792, .int so, .long wo, m_18, m_19, m_20, m_21, m_22, m_23, m_24, m_25, m_26, m_27, m_28, m_29, m_30, m_31, m_32, m_33, m_34, m_35, m_36, m_37, m_38, m_39, m_40, m_41, m_42, m_43, m_44, m_45, m_46, m_47, m_48, m_49, m_50, m_51, m_52, m_53, m_54, m_55, m_56, m_57, m_58, m_59])), (t0, .inl (K 0, 400, .inl ft))] H := hP
          have hD : va_D A [(m0, .inr (12, [m_0, m_1, m_2, m_3, m_4, m_5, m_6, m_7, m_8, m_9, m_10, m_11, .ref t0, .int ta, .int v_1792, .int v_1792, .int so, .long wo, m_18, m_19, m_20, m_21, m_22, m_23, m_24, m_25, m_26, m_27, m_28, m_29, m_30, m_31, m_32, m_33, m_34, m_35, m_36, m_37, m_38, m_39, m_40, m_41, m_42, m_43, m_44, m_45, m_46, m_47, m_48, m_49, m_50, m_51, m_52, m_53, m_54, m_55, m_56, m_57, m_58, m_59])), (t0, .inl (K 0, 400, .inl ft))] := hD
          refine lv_aload_n hx hb dX12_next_54 rfl (lv_at hl 0 rfl) ?_
          refine lv_lconst (v := 0) hx hb dX12_next_55 (by decide) ?_
          refine va_put (ci := 12) (v := .long 0) (ty := .long) (C := RX12) (T := TX12) (N := 60) hx hb hts hw12 tyX12 tyX12_ok nmX12 hown hK hP hD hS 0 rfl rfl 17 (by decide) (hts (.fieldLink RX12 249 "SmokeTuneModel" "worth" "J") (List.mem_cons_of_mem _ (List.mem_append_left _ (List.mem_of_getElem? (i := 4) rfl)))) (fun _ h9 => h9) rfl (by decide +kernel) (by first | rfl | decide) (by first | rfl | decide) (Nat.le_of_ble_eq_true rfl) dX12_next_56 (fun H locs hP hD hS => ?_)
          have hP : va_P D vwCl [(m0, .inr (12, [m_0, m_1, m_2, m_3, m_4, m_5, m_6, m_7, m_8, m_9, m_10, m_11, .ref t0, .int ta, .int v_1792, .int v_1792, .int so, .long 0, m_18, m_19, m_20, m_21, m_22, m_23, m_24, m_25, m_26, m_27, m_28, m_29, m_30, m_31, m_32, m_33, m_34, m_35, m_36, m_37, m_38, m_39, m_40, m_41, m_42, m_43, m_44, m_45, m_46, m_47, m_48, m_49, m_50, m_51, m_52, m_53, m_54, m_55, m_56, m_57, m_58, m_59])), (t0, .inl (K 0, 400, .inl ft))] H := hP
          have hD : va_D A [(m0, .inr (12, [m_0, m_1, m_2, m_3, m_4, m_5, m_6, m_7, m_8, m_9, m_10, m_11, .ref t0, .int ta, .int v_1792, .int v_1792, .int so, .long 0, m_18, m_19, m_20, m_21, m_22, m_23, m_24, m_25, m_26, m_27, m_28, m_29, m_30, m_31, m_32, m_33, m_34, m_35, m_36, m_37, m_38, m_39, m_40, m_41, m_42, m_43, m_44, m_45, m_46, m_47, m_48, m_49, m_50, m_51, m_52, m_53, m_54, m_55, m_56, m_57, m_58, m_59])), (t0, .inl (K 0, 400, .inl ft))] := hD
          refine lv_aload_n hx hb dX12_next_59 rfl (lv_at hl 0 rfl) ?_
          refine lv_aload_n hx hb dX12_next_60 rfl (lv_at hl 0 rfl) ?_
          refine va_get (ci := 12) (v := .int v_1792) (C := RX12) (T := TX12) (N := 60) hx hb hts hw12 hown hK hP 0 rfl rfl 14 (by decide) (hts (.fieldLink RX12 246 "SmokeTuneModel" "from" "I") (List.mem_cons_of_mem _ (List.mem_append_left _ (List.mem_of_getElem? (i := 1) rfl)))) (fun _ h9 => h9) rfl dX12_next_61 ?_
          refine lv_aload_n hx hb dX12_next_64 rfl (lv_at hl 0 rfl) ?_
          refine va_get (ci := 12) (v := .int ta) (C := RX12) (T := TX12) (N := 60) hx hb hts hw12 hown hK hP 0 rfl rfl 13 (by decide) (hts (.fieldLink RX12 227 "SmokeTuneModel" "taped" "I") (List.mem_cons_of_mem _ (List.mem_append_left _ (List.mem_of_getElem? (i := 2) rfl)))) (fun _ h9 => h9) rfl dX12_next_65 ?_
          refine lv_icmp_ne (tgt := 75) hx hb dX12_next_68 (by decide) (fun c_2240 => ?_) (fun c_2240 => ?_)
          · have c_2240i := i_ne (x := v_1792.toInt) (y := ta.toInt) rfl rfl c_2240
            refine lv_aload_n hx hb dX12_next_75 rfl (lv_at hl 0 rfl) ?_
            refine va_get (ci := 12) (v := .ref t0) (C := RX12) (T := TX12) (N := 60) hx hb hts hw12 hown hK hP 0 rfl rfl 12 (by decide) (hts (.fieldLink RX12 35 "SmokeTuneModel" "tape" "[I") (List.mem_cons_of_mem _ (List.mem_append_left _ (List.mem_of_getElem? (i := 3) rfl)))) (fun _ h9 => h9) rfl dX12_next_76 ?_
            refine lv_aload_n hx hb dX12_next_79 rfl (lv_at hl 0 rfl) ?_
            refine va_get (ci := 12) (v := .int v_1792) (C := RX12) (T := TX12) (N := 60) hx hb hts hw12 hown hK hP 0 rfl rfl 14 (by decide) (hts (.fieldLink RX12 246 "SmokeTuneModel" "from" "I") (List.mem_cons_of_mem _ (List.mem_append_left _ (List.mem_of_getElem? (i := 1) rfl)))) (fun _ h9 => h9) rfl dX12_next_80 ?_
            refine va_iald hx hb hK hP 1 0 rfl rfl (i_in rfl (by omega)) dX12_next_83 ?_
            refine lv_topi (fun x_2241 ex_2241 => ?_)
            obtain rfl : x_2241 = x_2238 := ex_2241.trans (by rw [i_clamp rfl]; exact kx_2238)
            refine pci (va_runS (As := [.int x_2238]) (rest := [.ref m0]) ⟨hx, hb, hml, hown, hts⟩ (v_isSmall l D K x_2238.toInt x_2238 H.size rfl) (va_cwS 1 hts gX12_next_X12_isSmall rfl rfl rfl (by decide +kernel) ⟨Nat.le_of_ble_eq_true rfl, Nat.le_of_ble_eq_true rfl⟩) (mkS hK hN (va_P.nil) (va_D.nil (A := fun _ => True))) rfl rfl hl.1 rfl (lv_room (Nat.le_of_ble_eq_true rfl)) dX12_next_84 ⟨Nat.le_of_ble_eq_true rfl, Nat.le_of_ble_eq_true rfl⟩) (fun r_2242 hw => ?_)
            obtain ⟨hw, -⟩ := hw
            rcases hw with ⟨rfl, h_2243, h_2244⟩ | ⟨rfl, h_2245⟩
            · refine lv_if_eq (tgt := 94) hx hb dX12_next_87 (by decide) (fun c_2246 => absurd c_2246 (by decide)) (fun c_2246 => ?_)
              refine lv_iconst (v := 1) hx hb dX12_next_90 (by decide) ?_
              refine lv_goto (tgt := 114) hx hb dX12_next_91 (by decide) ?_
              refine va_put (ci := 12) (v := .int 1) (ty := .int) (C := RX12) (T := TX12) (N := 60) hx hb hts hw12 tyX12 tyX12_ok nmX12 hown hK hP hD hS 0 rfl rfl 16 (by decide) (hts (.fieldLink RX12 259 "SmokeTuneModel" "sort" "I") (List.mem_cons_of_mem _ (List.mem_append_left _ (List.mem_of_getElem? (i := 5) rfl)))) (fun _ h9 => h9) rfl (by decide +kernel) (by first | rfl | decide) (by first | rfl | decide) (Nat.le_of_ble_eq_true rfl) dX12_next_114 (fun H locs hP hD hS => ?_)
              have hP : va_P D vwCl [(m0, .inr (12, [m_0, m_1, m_2, m_3, m_4, m_5, m_6, m_7, m_8, m_9, m_10, m_11, .ref t0, .int ta, .int v_1792, .int v_1792, .int 1, .long 0, m_18, m_19, m_20, m_21, m_22, m_23, m_24, m_25, m_26, m_27, m_28, m_29, m_30, m_31, m_32, m_33, m_34, m_35, m_36, m_37, m_38, m_39, m_40, m_41, m_42, m_43, m_44, m_45, m_46, m_47, m_48, m_49, m_50, m_51, m_52, m_53, m_54, m_55, m_56, m_57, m_58, m_59])), (t0, .inl (K 0, 400, .inl ft))] H := hP
              have hD : va_D A [(m0, .inr (12, [m_0, m_1, m_2, m_3, m_4, m_5, m_6, m_7, m_8, m_9, m_10, m_11, .ref t0, .int ta, .int v_1792, .int v_1792, .int 1, .long 0, m_18, m_19, m_20, m_21, m_22, m_23, m_24, m_25, m_26, m_27, m_28, m_29, m_30, m_31, m_32, m_33, m_34, m_35, m_36, m_37, m_38, m_39, m_40, m_41, m_42, m_43, m_44, m_45, m_46, m_47, m_48, m_49, m_50, m_51, m_52, m_53, m_54, m_55, m_56, m_57, m_58, m_59])), (t0, .inl (K 0, 400, .inl ft))] := hD
              refine lv_aload_n hx hb dX12_next_117 rfl (lv_at hl 0 rfl) ?_
              refine va_get (ci := 12) (v := .int 1) (C := RX12) (T := TX12) (N := 60) hx hb hts hw12 hown hK hP 0 rfl rfl 16 (by decide) (hts (.fieldLink RX12 259 "SmokeTuneModel" "sort" "I") (List.mem_cons_of_mem _ (List.mem_append_left _ (List.mem_of_getElem? (i := 5) rfl)))) (fun _ h9 => h9) rfl dX12_next_118 ?_
              refine lv_iconst (v := 3) hx hb dX12_next_121 (by decide) ?_
              refine lv_icmp_ne (tgt := 149) hx hb dX12_next_122 (by decide) (fun c_2247 => ?_) (fun c_2247 => absurd c_2247 (by decide))
              refine lv_aload_n hx hb dX12_next_149 rfl (lv_at hl 0 rfl) ?_
              refine va_get (ci := 12) (v := .int 1) (C := RX12) (T := TX12) (N := 60) hx hb hts hw12 hown hK hP 0 rfl rfl 16 (by decide) (hts (.fieldLink RX12 259 "SmokeTuneModel" "sort" "I") (List.mem_cons_of_mem _ (List.mem_append_left _ (List.mem_of_getElem? (i := 5) rfl)))) (fun _ h9 => h9) rfl dX12_next_150 ?_
              refine lv_iconst (v := 1) hx hb dX12_next_153 (by decide) ?_
              refine lv_icmp_ne (tgt := 243) hx hb dX12_next_154 (by decide) (fun c_2248 => absurd (by decide) c_2248) (fun c_2248 => ?_)
              refine lv_aload_n hx hb dX12_next_157 rfl (lv_at hl 0 rfl) ?_
              refine va_get (ci := 12) (v := .int v_1792) (C := RX12) (T := TX12) (N := 60) hx hb hts hw12 hown hK hP 0 rfl rfl 15 (by decide) (hts (.fieldLink RX12 236 "SmokeTuneModel" "to" "I") (List.mem_cons_of_mem _ (List.mem_append_left _ (List.mem_of_getElem? (i := 0) rfl)))) (fun _ h9 => h9) rfl dX12_next_158 ?_
              refine lv_aload_n hx hb dX12_next_161 rfl (lv_at hl 0 rfl) ?_
              refine va_get (ci := 12) (v := .int ta) (C := RX12) (T := TX12) (N := 60) hx hb hts hw12 hown hK hP 0 rfl rfl 13 (by decide) (hts (.fieldLink RX12 227 "SmokeTuneModel" "taped" "I") (List.mem_cons_of_mem _ (List.mem_append_left _ (List.mem_of_getElem? (i := 2) rfl)))) (fun _ h9 => h9) rfl dX12_next_162 ?_
              refine lv_icmp_ge (tgt := 243) hx hb dX12_next_165 (by decide) (fun c_2249 => ?_) (fun c_2249 => ?_)
              · have c_2249i := i_le (x := ta.toInt) (y := v_1792.toInt) rfl rfl c_2249
                refine lv_aload_n hx hb dX12_next_243 rfl (lv_at hl 0 rfl) ?_
                refine va_get (ci := 12) (v := .int 1) (C := RX12) (T := TX12) (N := 60) hx hb hts hw12 hown hK hP 0 rfl rfl 16 (by decide) (hts (.fieldLink RX12 259 "SmokeTuneModel" "sort" "I") (List.mem_cons_of_mem _ (List.mem_append_left _ (List.mem_of_getElem? (i := 5) rfl)))) (fun _ h9 => h9) rfl dX12_next_244 ?_
                refine lv_iconst (v := 2) hx hb dX12_next_247 (by decide) ?_
                refine lv_icmp_ne (tgt := 335) hx hb dX12_next_248 (by decide) (fun c_2250 => ?_) (fun c_2250 => absurd c_2250 (by decide))
                subst hQ
                have hP9 := hP.sub (ws' := [(m0, .inr (12, [m_0, m_1, m_2, m_3, m_4, m_5, m_6, m_7, m_8, m_9, m_10, m_11, .ref t0, .int ta, .int v_1792, .int v_1792, .int 1, .long 0, m_18, m_19, m_20, m_21, m_22, m_23, m_24, m_25, m_26, m_27, m_28, m_29, m_30, m_31, m_32, m_33, m_34, m_35, m_36, m_37, m_38, m_39, m_40, m_41, m_42, m_43, m_44, m_45, m_46, m_47, m_48, m_49, m_50, m_51, m_52, m_53, m_54, m_55, m_56, m_57, m_58, m_59])), (t0, .inl (K 0, 400, .inl ft))]) [0, 1] rfl
                have hD9 := hD.sub (ws' := [(m0, .inr (12, [m_0, m_1, m_2, m_3, m_4, m_5, m_6, m_7, m_8, m_9, m_10, m_11, .ref t0, .int ta, .int v_1792, .int v_1792, .int 1, .long 0, m_18, m_19, m_20, m_21, m_22, m_23, m_24, m_25, m_26, m_27, m_28, m_29, m_30, m_31, m_32, m_33, m_34, m_35, m_36, m_37, m_38, m_39, m_40, m_41, m_42, m_43, m_44, m_45, m_46, m_47, m_48, m_49, m_50, m_51, m_52, m_53, m_54, m_55, m_56, m_57, m_58, m_59])), (t0, .inl (K 0, 400, .inl ft))]) [0, 1] (by decide) rfl
                exact W.vret hx hb hr (fun t ht hW => ⟨⟨((fun _ => 0, fun _ => fun _ => 0, fun _ => fun _ => 0, fun i => match i with | 0 => v_1792 | 1 => v_1792 | _ => 1, fun i => match i with | _ => 0, fun _ => fun _ => none) : Su), rfl, ⟨(show 0 ≤ (v_1792 : Int32).toInt ∧ (v_1792 : Int32).toInt ≤ 400 by omega), (show 0 ≤ (v_1792 : Int32).toInt ∧ (v_1792 : Int32).toInt ≤ 401 by omega), (show 0 ≤ (1 : Int32).toInt ∧ (1 : Int32).toInt ≤ 3 by decide), (show ((0 ≤ (v_1792 : Int32).toInt ∧ (v_1792 : Int32).toInt ≤ (v_1792 : Int32).toInt ∧ (v_1792 : Int32).toInt ≤ ta.toInt) ∧ (1 = 0 ∨ (v_1792 : Int32).toInt < (v_1792 : Int32).toInt) ∧ (1 ≠ 1 ∨ (v_1792 : Int32).toInt + 1 < (v_1792 : Int32).toInt ∨ 0 ≤ 26)) by omega), (show to.toInt ≤ (v_1792 : Int32).toInt by omega), trivial⟩, (⟨by rw [ht]; exact hP9, hD9⟩ : Wd D A _ t)⟩, hS.F ht⟩) hS.2.2 dX12_next_335
              · have c_2249i := i_nle (x := ta.toInt) (y := v_1792.toInt) rfl rfl c_2249
                refine lv_aload_n hx hb dX12_next_168 rfl (lv_at hl 0 rfl) ?_
                refine va_get (ci := 12) (v := .ref t0) (C := RX12) (T := TX12) (N := 60) hx hb hts hw12 hown hK hP 0 rfl rfl 12 (by decide) (hts (.fieldLink RX12 35 "SmokeTuneModel" "tape" "[I") (List.mem_cons_of_mem _ (List.mem_append_left _ (List.mem_of_getElem? (i := 3) rfl)))) (fun _ h9 => h9) rfl dX12_next_169 ?_
                refine lv_aload_n hx hb dX12_next_172 rfl (lv_at hl 0 rfl) ?_
                refine va_get (ci := 12) (v := .int v_1792) (C := RX12) (T := TX12) (N := 60) hx hb hts hw12 hown hK hP 0 rfl rfl 15 (by decide) (hts (.fieldLink RX12 236 "SmokeTuneModel" "to" "I") (List.mem_cons_of_mem _ (List.mem_append_left _ (List.mem_of_getElem? (i := 0) rfl)))) (fun _ h9 => h9) rfl dX12_next_173 ?_
                refine va_iald hx hb hK hP 1 0 rfl rfl (i_in rfl (by omega)) dX12_next_176 ?_
                refine lv_topi (fun x_2251 ex_2251 => ?_)
                obtain rfl : x_2251 = x_2238 := ex_2251.trans (by rw [i_clamp rfl]; exact kx_2238)
                refine pci (va_runS (As := [.int x_2238]) (rest := []) ⟨hx, hb, hml, hown, hts⟩ (v_isSmall l D K x_2238.toInt x_2238 H.size rfl) (va_cwS 1 hts gX12_next_X12_isSmall rfl rfl rfl (by decide +kernel) ⟨Nat.le_of_ble_eq_true rfl, Nat.le_of_ble_eq_true rfl⟩) (mkS hK hN (va_P.nil) (va_D.nil (A := fun _ => True))) rfl rfl hl.1 rfl (lv_room (Nat.le_of_ble_eq_true rfl)) dX12_next_177 ⟨Nat.le_of_ble_eq_true rfl, Nat.le_of_ble_eq_true rfl⟩) (fun r_2252 hw => ?_)
                obtain ⟨hw, -⟩ := hw
                rcases hw with ⟨rfl, h_2253, h_2254⟩ | ⟨rfl, h_2255⟩
                · refine lv_if_eq (tgt := 243) hx hb dX12_next_180 (by decide) (fun c_2256 => absurd c_2256 (by decide)) (fun c_2256 => ?_)
                  refine lv_aload_n hx hb dX12_next_183 rfl (lv_at hl 0 rfl) ?_
                  refine lv_aload_n hx hb dX12_next_184 rfl (lv_at hl 0 rfl) ?_
                  refine va_get (ci := 12) (v := .int v_1792) (C := RX12) (T := TX12) (N := 60) hx hb hts hw12 hown hK hP 0 rfl rfl 15 (by decide) (hts (.fieldLink RX12 236 "SmokeTuneModel" "to" "I") (List.mem_cons_of_mem _ (List.mem_append_left _ (List.mem_of_getElem? (i := 0) rfl)))) (fun _ h9 => h9) rfl dX12_next_185 ?_
                  refine lv_aload_n hx hb dX12_next_188 rfl (lv_at hl 0 rfl) ?_
                  refine va_get (ci := 12) (v := .int v_1792) (C := RX12) (T := TX12) (N := 60) hx hb hts hw12 hown hK hP 0 rfl rfl 14 (by decide) (hts (.fieldLink RX12 246 "SmokeTuneModel" "from" "I") (List.mem_cons_of_mem _ (List.mem_append_left _ (List.mem_of_getElem? (i := 1) rfl)))) (fun _ h9 => h9) rfl dX12_next_189 ?_
                  refine lv_isub hx hb dX12_next_192 ?_
                  refine lv_topi (fun x_2257 ex_2257 => ?_)
                  have hx_2257 : x_2257.toInt = (v_1792.toInt - v_1792.toInt) := by rw [ex_2257]; exact i_sub rfl rfl (by omega)
                  refine lv_bipush (v := 10) hx hb dX12_next_193 (by decide) ?_
                  refine lv_icmp_ge (tgt := 224) hx hb dX12_next_195 (by decide) (fun c_2258 => ?_) (fun c_2258 => ?_)
                  · have c_2258i := i_le (x := 10) (y := (v_1792.toInt - v_1792.toInt)) rfl hx_2257 c_2258
                    refine lv_ldc2 (v := (-1)) hx hb hown (hts (.constantLong RX12 266 (-1)) (List.mem_cons_of_mem _ (List.mem_append_left _ (List.mem_of_getElem? (i := 8) rfl)))) dX12_next_224 ?_
                    refine va_put (ci := 12) (v := .long (-1)) (ty := .long) (C := RX12) (T := TX12) (N := 60) hx hb hts hw12 tyX12 tyX12_ok nmX12 hown hK hP hD hS 0 rfl rfl 17 (by decide) (hts (.fieldLink RX12 249 "SmokeTuneModel" "worth" "J") (List.mem_cons_of_mem _ (List.mem_append_left _ (List.mem_of_getElem? (i := 4) rfl)))) (fun _ h9 => h9) rfl (by decide +kernel) (by first | rfl | decide) (by first | rfl | decide) (Nat.le_of_ble_eq_true rfl) dX12_next_227 (fun H locs hP hD hS => ?_)
                    have hP : va_P D vwCl [(m0, .inr (12, [m_0, m_1, m_2, m_3, m_4, m_5, m_6, m_7, m_8, m_9, m_10, m_11, .ref t0, .int ta, .int v_1792, .int v_1792, .int 1, .long (-1), m_18, m_19, m_20, m_21, m_22, m_23, m_24, m_25, m_26, m_27, m_28, m_29, m_30, m_31, m_32, m_33, m_34, m_35, m_36, m_37, m_38, m_39, m_40, m_41, m_42, m_43, m_44, m_45, m_46, m_47, m_48, m_49, m_50, m_51, m_52, m_53, m_54, m_55, m_56, m_57, m_58, m_59])), (t0, .inl (K 0, 400, .inl ft))] H := hP
                    have hD : va_D A [(m0, .inr (12, [m_0, m_1, m_2, m_3, m_4, m_5, m_6, m_7, m_8, m_9, m_10, m_11, .ref t0, .int ta, .int v_1792, .int v_1792, .int 1, .long (-1), m_18, m_19, m_20, m_21, m_22, m_23, m_24, m_25, m_26, m_27, m_28, m_29, m_30, m_31, m_32, m_33, m_34, m_35, m_36, m_37, m_38, m_39, m_40, m_41, m_42, m_43, m_44, m_45, m_46, m_47, m_48, m_49, m_50, m_51, m_52, m_53, m_54, m_55, m_56, m_57, m_58, m_59])), (t0, .inl (K 0, 400, .inl ft))] := hD
                    refine lv_aload_n hx hb dX12_next_230 rfl (lv_at hl 0 rfl) ?_
                    refine lv_dup hx hb dX12_next_231 rfl ?_
                    refine va_get (ci := 12) (v := .int v_1792) (C := RX12) (T := TX12) (N := 60) hx hb hts hw12 hown hK hP 0 rfl rfl 15 (by decide) (hts (.fieldLink RX12 236 "SmokeTuneModel" "to" "I") (List.mem_cons_of_mem _ (List.mem_append_left _ (List.mem_of_getElem? (i := 0) rfl)))) (fun _ h9 => h9) rfl dX12_next_232 ?_
                    refine lv_iconst (v := 1) hx hb dX12_next_235 (by decide) ?_
                    refine lv_iadd hx hb dX12_next_236 ?_
                    refine lv_topi (fun x_2259 ex_2259 => ?_)
                    have hx_2259 : x_2259.toInt = (v_1792.toInt + 1) := by rw [ex_2259]; exact i_add rfl (show (1 : Int32).toInt = 1 from rfl) (by omega)
                    refine va_put (ci := 12) (v := .int x_2259) (ty := .int) (C := RX12) (T := TX12) (N := 60) hx hb hts hw12 tyX12 tyX12_ok nmX12 hown hK hP hD hS 0 rfl rfl 15 (by decide) (hts (.fieldLink RX12 236 "SmokeTuneModel" "to" "I") (List.mem_cons_of_mem _ (List.mem_append_left _ (List.mem_of_getElem? (i := 0) rfl)))) (fun _ h9 => h9) rfl (by decide +kernel) (by first | rfl | decide) (by first | rfl | decide) (Nat.le_of_ble_eq_true rfl) dX12_next_237 (fun H locs hP hD hS => ?_)
                    have hP : va_P D vwCl [(m0, .inr (12, [m_0, m_1, m_2, m_3, m_4, m_5, m_6, m_7, m_8, m_9, m_10, m_11, .ref t0, .int ta, .int v_1792, .int x_2259, .int 1, .long (-1), m_18, m_19, m_20, m_21, m_22, m_23, m_24, m_25, m_26, m_27, m_28, m_29, m_30, m_31, m_32, m_33, m_34, m_35, m_36, m_37, m_38, m_39, m_40, m_41, m_42, m_43, m_44, m_45, m_46, m_47, m_48, m_49, m_50, m_51, m_52, m_53, m_54, m_55, m_56, m_57, m_58, m_59])), (t0, .inl (K 0, 400, .inl ft))] H := hP
                    have hD : va_D A [(m0, .inr (12, [m_0, m_1, m_2, m_3, m_4, m_5, m_6, m_7, m_8, m_9, m_10, m_11, .ref t0, .int ta, .int v_1792, .int x_2259, .int 1, .long (-1), m_18, m_19, m_20, m_21, m_22, m_23, m_24, m_25, m_26, m_27, m_28, m_29, m_30, m_31, m_32, m_33, m_34, m_35, m_36, m_37, m_38, m_39, m_40, m_41, m_42, m_43, m_44, m_45, m_46, m_47, m_48, m_49, m_50, m_51, m_52, m_53, m_54, m_55, m_56, m_57, m_58, m_59])), (t0, .inl (K 0, 400, .inl ft))] := hD
                    refine lv_goto (tgt := 149) hx hb dX12_next_240 (by decide) ?_
                    have lp_2378 : ∀ (nn_ : Nat) (v_2338 : Int32) (v_2339 : Int64) (hv_2338 : 1 ≤ v_2338.toInt ∧ v_2338.toInt ≤ 400) (hr0_lp_2378 : v_1792.toInt < v_2338.toInt ∧ v_2338.toInt ≤ ta.toInt ∧ (v_1792.toInt + 1 < v_2338.toInt ∨ v_2339.toInt ≤ 26)) (hn : (ta.toInt - v_2338.toInt : Int).toNat < nn_) (H : Heap) (locs : List Loc) (hP : va_P D vwCl [(m0, .inr (12, [m_0, m_1, m_2, m_3, m_4, m_5, m_6, m_7, m_8, m_9, m_10, m_11, .ref t0, .int ta, .int v_1792, .int v_2338, .int 1, .long v_2339, m_18, m_19, m_20, m_21, m_22, m_23, m_24, m_25, m_26, m_27, m_28, m_29, m_30, m_31, m_32, m_33, m_34, m_35, m_36, m_37, m_38, m_39, m_40, m_41, m_42, m_43, m_44, m_45, m_46, m_47, m_48, m_49, m_50, m_51, m_52, m_53, m_54, m_55, m_56, m_57, m_58, m_59])), (t0, .inl (K 0, 400, .inl ft))] H) (hD : va_D A [(m0, .inr (12, [m_0, m_1, m_2, m_3, m_4, m_5, m_6, m_7, m_8, m_9, m_10, m_11, .ref t0, .int ta, .int v_1792, .int v_2338, .int 1, .long v_2339, m_18, m_19, m_20, m_21, m_22, m_23, m_24, m_25, m_26, m_27, m_28, m_29, m_30, m_31, m_32, m_33, m_34, m_35, m_36, m_37, m_38, m_39, m_40, m_41, m_42, m_43, m_44, m_45, m_46, m_47, m_48, m_49, m_50, m_51, m_52, m_53, m_54, m_55, m_56, m_57, m_58, m_59])), (t0, .inl (K 0, 400, .inl ft))]) (hS : va_S A s.heap H locs) (ls : Array Slot) (hl : lv_has ls 1 [(0, .ref m0)]), W p l e ({ frames := 1, cells := 0, slots := 0, locals := 20 }) s m (([.ref m0] : List Value).toArray) below meth c H locs 0 0 Q (F0 m 149 ls []) := by
                      intro nn_
                      induction nn_ with
                      | zero =>
                        intro v_2338 v_2339 hv_2338 hr0_lp_2378 hn H locs hP hD hS ls hl
                        exact absurd hn (Nat.not_lt_zero _)
                      | succ nn_ ih_2379 =>
                        intro v_2338 v_2339 hv_2338 hr0_lp_2378 hn H locs hP hD hS ls hl
                        refine lv_aload_n hx hb dX12_next_149 rfl (lv_at hl 0 rfl) ?_
                        refine va_get (ci := 12) (v := .int 1) (C := RX12) (T := TX12) (N := 60) hx hb hts hw12 hown hK hP 0 rfl rfl 16 (by decide) (hts (.fieldLink RX12 259 "SmokeTuneModel" "sort" "I") (List.mem_cons_of_mem _ (List.mem_append_left _ (List.mem_of_getElem? (i := 5) rfl)))) (fun _ h9 => h9) rfl dX12_next_150 ?_
                        refine lv_iconst (v := 1) hx hb dX12_next_153 (by decide) ?_
                        refine lv_icmp_ne (tgt := 243) hx hb dX12_next_154 (by decide) (fun c_2380 => absurd (by decide) c_2380) (fun c_2380 => ?_)
                        refine lv_aload_n hx hb dX12_next_157 rfl (lv_at hl 0 rfl) ?_
                        refine va_get (ci := 12) (v := .int v_2338) (C := RX12) (T := TX12) (N := 60) hx hb hts hw12 hown hK hP 0 rfl rfl 15 (by decide) (hts (.fieldLink RX12 236 "SmokeTuneModel" "to" "I") (List.mem_cons_of_mem _ (List.mem_append_left _ (List.mem_of_getElem? (i := 0) rfl)))) (fun _ h9 => h9) rfl dX12_next_158 ?_
                        refine lv_aload_n hx hb dX12_next_161 rfl (lv_at hl 0 rfl) ?_
                        refine va_get (ci := 12) (v := .int ta) (C := RX12) (T := TX12) (N := 60) hx hb hts hw12 hown hK hP 0 rfl rfl 13 (by decide) (hts (.fieldLink RX12 227 "SmokeTuneModel" "taped" "I") (List.mem_cons_of_mem _ (List.mem_append_left _ (List.mem_of_getElem? (i := 2) rfl)))) (fun _ h9 => h9) rfl dX12_next_162 ?_
                        refine lv_icmp_ge (tgt := 243) hx hb dX12_next_165 (by decide) (fun c_2381 => ?_) (fun c_2381 => ?_)
                        · have c_2381i := i_le (x := ta.toInt) (y := v_2338.toInt) rfl rfl c_2381
                          refine lv_aload_n hx hb dX12_next_243 rfl (lv_at hl 0 rfl) ?_
                          refine va_get (ci := 12) (v := .int 1) (C := RX12) (T := TX12) (N := 60) hx hb hts hw12 hown hK hP 0 rfl rfl 16 (by decide) (hts (.fieldLink RX12 259 "SmokeTuneModel" "sort" "I") (List.mem_cons_of_mem _ (List.mem_append_left _ (List.mem_of_getElem? (i := 5) rfl)))) (fun _ h9 => h9) rfl dX12_next_244 ?_
                          refine lv_iconst (v := 2) hx hb dX12_next_247 (by decide) ?_
                          refine lv_icmp_ne (tgt := 335) hx hb dX12_next_248 (by decide) (fun c_2382 => ?_) (fun c_2382 => absurd c_2382 (by decide))
                          subst hQ
                          have hP9 := hP.sub (ws' := [(m0, .inr (12, [m_0, m_1, m_2, m_3, m_4, m_5, m_6, m_7, m_8, m_9, m_10, m_11, .ref t0, .int ta, .int v_1792, .int v_2338, .int 1, .long v_2339, m_18, m_19, m_20, m_21, m_22, m_23, m_24, m_25, m_26, m_27, m_28, m_29, m_30, m_31, m_32, m_33, m_34, m_35, m_36, m_37, m_38, m_39, m_40, m_41, m_42, m_43, m_44, m_45, m_46, m_47, m_48, m_49, m_50, m_51, m_52, m_53, m_54, m_55, m_56, m_57, m_58, m_59])), (t0, .inl (K 0, 400, .inl ft))]) [0, 1] rfl
                          have hD9 := hD.sub (ws' := [(m0, .inr (12, [m_0, m_1, m_2, m_3, m_4, m_5, m_6, m_7, m_8, m_9, m_10, m_11, .ref t0, .int ta, .int v_1792, .int v_2338, .int 1, .long v_2339, m_18, m_19, m_20, m_21, m_22, m_23, m_24, m_25, m_26, m_27, m_28, m_29, m_30, m_31, m_32, m_33, m_34, m_35, m_36, m_37, m_38, m_39, m_40, m_41, m_42, m_43, m_44, m_45, m_46, m_47, m_48, m_49, m_50, m_51, m_52, m_53, m_54, m_55, m_56, m_57, m_58, m_59])), (t0, .inl (K 0, 400, .inl ft))]) [0, 1] (by decide) rfl
                          exact W.vret hx hb hr (fun t ht hW => ⟨⟨((fun _ => 0, fun _ => fun _ => 0, fun _ => fun _ => 0, fun i => match i with | 0 => v_1792 | 1 => v_2338 | _ => 1, fun i => match i with | _ => v_2339, fun _ => fun _ => none) : Su), rfl, ⟨(show 0 ≤ (v_1792 : Int32).toInt ∧ (v_1792 : Int32).toInt ≤ 400 by omega), (show 0 ≤ (v_2338 : Int32).toInt ∧ (v_2338 : Int32).toInt ≤ 401 by omega), (show 0 ≤ (1 : Int32).toInt ∧ (1 : Int32).toInt ≤ 3 by decide), (show ((0 ≤ (v_1792 : Int32).toInt ∧ (v_1792 : Int32).toInt ≤ (v_2338 : Int32).toInt ∧ (v_2338 : Int32).toInt ≤ ta.toInt) ∧ (1 = 0 ∨ (v_1792 : Int32).toInt < (v_2338 : Int32).toInt) ∧ (1 ≠ 1 ∨ (v_1792 : Int32).toInt + 1 < (v_2338 : Int32).toInt ∨ (v_2339 : Int64).toInt ≤ 26)) by omega), (show to.toInt ≤ (v_1792 : Int32).toInt by omega), trivial⟩, (⟨by rw [ht]; exact hP9, hD9⟩ : Wd D A _ t)⟩, hS.F ht⟩) hS.2.2 dX12_next_335
                        · have c_2381i := i_nle (x := ta.toInt) (y := v_2338.toInt) rfl rfl c_2381
                          refine lv_aload_n hx hb dX12_next_168 rfl (lv_at hl 0 rfl) ?_
                          refine va_get (ci := 12) (v := .ref t0) (C := RX12) (T := TX12) (N := 60) hx hb hts hw12 hown hK hP 0 rfl rfl 12 (by decide) (hts (.fieldLink RX12 35 "SmokeTuneModel" "tape" "[I") (List.mem_cons_of_mem _ (List.mem_append_left _ (List.mem_of_getElem? (i := 3) rfl)))) (fun _ h9 => h9) rfl dX12_next_169 ?_
                          refine lv_aload_n hx hb dX12_next_172 rfl (lv_at hl 0 rfl) ?_
                          refine va_get (ci := 12) (v := .int v_2338) (C := RX12) (T := TX12) (N := 60) hx hb hts hw12 hown hK hP 0 rfl rfl 15 (by decide) (hts (.fieldLink RX12 236 "SmokeTuneModel" "to" "I") (List.mem_cons_of_mem _ (List.mem_append_left _ (List.mem_of_getElem? (i := 0) rfl)))) (fun _ h9 => h9) rfl dX12_next_173 ?_
                          refine va_iald hx hb hK hP 1 0 rfl rfl (i_in rfl (by omega)) dX12_next_176 ?_
                          refine lv_topi (fun x_2383 ex_2383 => ?_)
                          have kx_2383 : ft (v_2338.toInt).toNat = x_2383 := by rw [ex_2383, i_clamp rfl]
                          refine pci (va_runS (As := [.int x_2383]) (rest := []) ⟨hx, hb, hml, hown, hts⟩ (v_isSmall l D K x_2383.toInt x_2383 H.size rfl) (va_cwS 1 hts gX12_next_X12_isSmall rfl rfl rfl (by decide +kernel) ⟨Nat.le_of_ble_eq_true rfl, Nat.le_of_ble_eq_true rfl⟩) (mkS hK hN (va_P.nil) (va_D.nil (A := fun _ => True))) rfl rfl hl.1 rfl (lv_room (Nat.le_of_ble_eq_true rfl)) dX12_next_177 ⟨Nat.le_of_ble_eq_true rfl, Nat.le_of_ble_eq_true rfl⟩) (fun r_2384 hw => ?_)
                          obtain ⟨hw, -⟩ := hw
                          rcases hw with ⟨rfl, h_2385, h_2386⟩ | ⟨rfl, h_2387⟩
                          · refine lv_if_eq (tgt := 243) hx hb dX12_next_180 (by decide) (fun c_2388 => absurd c_2388 (by decide)) (fun c_2388 => ?_)
                            refine lv_aload_n hx hb dX12_next_183 rfl (lv_at hl 0 rfl) ?_
                            refine lv_aload_n hx hb dX12_next_184 rfl (lv_at hl 0 rfl) ?_
                            refine va_get (ci := 12) (v := .int v_2338) (C := RX12) (T := TX12) (N := 60) hx hb hts hw12 hown hK hP 0 rfl rfl 15 (by decide) (hts (.fieldLink RX12 236 "SmokeTuneModel" "to" "I") (List.mem_cons_of_mem _ (List.mem_append_left _ (List.mem_of_getElem? (i := 0) rfl)))) (fun _ h9 => h9) rfl dX12_next_185 ?_
                            refine lv_aload_n hx hb dX12_next_188 rfl (lv_at hl 0 rfl) ?_
                            refine va_get (ci := 12) (v := .int v_1792) (C := RX12) (T := TX12) (N := 60) hx hb hts hw12 hown hK hP 0 rfl rfl 14 (by decide) (hts (.fieldLink RX12 246 "SmokeTuneModel" "from" "I") (List.mem_cons_of_mem _ (List.mem_append_left _ (List.mem_of_getElem? (i := 1) rfl)))) (fun _ h9 => h9) rfl dX12_next_189 ?_
                            refine lv_isub hx hb dX12_next_192 ?_
                            refine lv_topi (fun x_2389 ex_2389 => ?_)
                            have hx_2389 : x_2389.toInt = (v_2338.toInt - v_1792.toInt) := by rw [ex_2389]; exact i_sub rfl rfl (by omega)
                            refine lv_bipush (v := 10) hx hb dX12_next_193 (by decide) ?_
                            refine lv_icmp_ge (tgt := 224) hx hb dX12_next_195 (by decide) (fun c_2390 => ?_) (fun c_2390 => ?_)
                            · have c_2390i := i_le (x := 10) (y := (v_2338.toInt - v_1792.toInt)) rfl hx_2389 c_2390
                              refine lv_ldc2 (v := (-1)) hx hb hown (hts (.constantLong RX12 266 (-1)) (List.mem_cons_of_mem _ (List.mem_append_left _ (List.mem_of_getElem? (i := 8) rfl)))) dX12_next_224 ?_
                              refine va_put (ci := 12) (v := .long (-1)) (ty := .long) (C := RX12) (T := TX12) (N := 60) hx hb hts hw12 tyX12 tyX12_ok nmX12 hown hK hP hD hS 0 rfl rfl 17 (by decide) (hts (.fieldLink RX12 249 "SmokeTuneModel" "worth" "J") (List.mem_cons_of_mem _ (List.mem_append_left _ (List.mem_of_getElem? (i := 4) rfl)))) (fun _ h9 => h9) rfl (by decide +kernel) (by first | rfl | decide) (by first | rfl | decide) (Nat.le_of_ble_eq_true rfl) dX12_next_227 (fun H locs hP hD hS => ?_)
                              have hP : va_P D vwCl [(m0, .inr (12, [m_0, m_1, m_2, m_3, m_4, m_5, m_6, m_7, m_8, m_9, m_10, m_11, .ref t0, .int ta, .int v_1792, .int v_2338, .int 1, .long (-1), m_18, m_19, m_20, m_21, m_22, m_23, m_24, m_25, m_26, m_27, m_28, m_29, m_30, m_31, m_32, m_33, m_34, m_35, m_36, m_37, m_38, m_39, m_40, m_41, m_42, m_43, m_44, m_45, m_46, m_47, m_48, m_49, m_50, m_51, m_52, m_53, m_54, m_55, m_56, m_57, m_58, m_59])), (t0, .inl (K 0, 400, .inl ft))] H := hP
                              have hD : va_D A [(m0, .inr (12, [m_0, m_1, m_2, m_3, m_4, m_5, m_6, m_7, m_8, m_9, m_10, m_11, .ref t0, .int ta, .int v_1792, .int v_2338, .int 1, .long (-1), m_18, m_19, m_20, m_21, m_22, m_23, m_24, m_25, m_26, m_27, m_28, m_29, m_30, m_31, m_32, m_33, m_34, m_35, m_36, m_37, m_38, m_39, m_40, m_41, m_42, m_43, m_44, m_45, m_46, m_47, m_48, m_49, m_50, m_51, m_52, m_53, m_54, m_55, m_56, m_57, m_58, m_59])), (t0, .inl (K 0, 400, .inl ft))] := hD
                              refine lv_aload_n hx hb dX12_next_230 rfl (lv_at hl 0 rfl) ?_
                              refine lv_dup hx hb dX12_next_231 rfl ?_
                              refine va_get (ci := 12) (v := .int v_2338) (C := RX12) (T := TX12) (N := 60) hx hb hts hw12 hown hK hP 0 rfl rfl 15 (by decide) (hts (.fieldLink RX12 236 "SmokeTuneModel" "to" "I") (List.mem_cons_of_mem _ (List.mem_append_left _ (List.mem_of_getElem? (i := 0) rfl)))) (fun _ h9 => h9) rfl dX12_next_232 ?_
                              refine lv_iconst (v := 1) hx hb dX12_next_235 (by decide) ?_
                              refine lv_iadd hx hb dX12_next_236 ?_
                              refine lv_topi (fun x_2391 ex_2391 => ?_)
                              have hx_2391 : x_2391.toInt = (v_2338.toInt + 1) := by rw [ex_2391]; exact i_add rfl (show (1 : Int32).toInt = 1 from rfl) (by omega)
                              refine va_put (ci := 12) (v := .int x_2391) (ty := .int) (C := RX12) (T := TX12) (N := 60) hx hb hts hw12 tyX12 tyX12_ok nmX12 hown hK hP hD hS 0 rfl rfl 15 (by decide) (hts (.fieldLink RX12 236 "SmokeTuneModel" "to" "I") (List.mem_cons_of_mem _ (List.mem_append_left _ (List.mem_of_getElem? (i := 0) rfl)))) (fun _ h9 => h9) rfl (by decide +kernel) (by first | rfl | decide) (by first | rfl | decide) (Nat.le_of_ble_eq_true rfl) dX12_next_237 (fun H locs hP hD hS => ?_)
                              have hP : va_P D vwCl [(m0, .inr (12, [m_0, m_1, m_2, m_3, m_4, m_5, m_6, m_7, m_8, m_9, m_10, m_11, .ref t0, .int ta, .int v_1792, .int x_2391, .int 1, .long (-1), m_18, m_19, m_20, m_21, m_22, m_23, m_24, m_25, m_26, m_27, m_28, m_29, m_30, m_31, m_32, m_33, m_34, m_35, m_36, m_37, m_38, m_39, m_40, m_41, m_42, m_43, m_44, m_45, m_46, m_47, m_48, m_49, m_50, m_51, m_52, m_53, m_54, m_55, m_56, m_57, m_58, m_59])), (t0, .inl (K 0, 400, .inl ft))] H := hP
                              have hD : va_D A [(m0, .inr (12, [m_0, m_1, m_2, m_3, m_4, m_5, m_6, m_7, m_8, m_9, m_10, m_11, .ref t0, .int ta, .int v_1792, .int x_2391, .int 1, .long (-1), m_18, m_19, m_20, m_21, m_22, m_23, m_24, m_25, m_26, m_27, m_28, m_29, m_30, m_31, m_32, m_33, m_34, m_35, m_36, m_37, m_38, m_39, m_40, m_41, m_42, m_43, m_44, m_45, m_46, m_47, m_48, m_49, m_50, m_51, m_52, m_53, m_54, m_55, m_56, m_57, m_58, m_59])), (t0, .inl (K 0, 400, .inl ft))] := hD
                              refine lv_goto (tgt := 149) hx hb dX12_next_240 (by decide) ?_
                              have hz_2392 : ((-1) : Int64).toInt = (-1) := rfl
                              exact ih_2379 x_2391 (-1) (by rw [hx_2391]; omega) (show v_1792.toInt < (x_2391 : Int32).toInt ∧ (x_2391 : Int32).toInt ≤ ta.toInt ∧ (v_1792.toInt + 1 < (x_2391 : Int32).toInt ∨ ((-1) : Int64).toInt ≤ 26) by omega) (by omega) _ _ hP hD hS ls (lv_sub hl [0] rfl)
                            · have c_2390i := i_nle (x := 10) (y := (v_2338.toInt - v_1792.toInt)) rfl hx_2389 c_2390
                              refine lv_aload_n hx hb dX12_next_198 rfl (lv_at hl 0 rfl) ?_
                              refine va_get (ci := 12) (v := .long v_2339) (C := RX12) (T := TX12) (N := 60) hx hb hts hw12 hown hK hP 0 rfl rfl 17 (by decide) (hts (.fieldLink RX12 249 "SmokeTuneModel" "worth" "J") (List.mem_cons_of_mem _ (List.mem_append_left _ (List.mem_of_getElem? (i := 4) rfl)))) (fun _ h9 => h9) rfl dX12_next_199 ?_
                              refine lv_ldc2 (v := 32) hx hb hown (hts (.constantLong RX12 262 (32)) (List.mem_cons_of_mem _ (List.mem_append_left _ (List.mem_of_getElem? (i := 6) rfl)))) dX12_next_202 ?_
                              refine lv_lmul hx hb dX12_next_205 ?_
                              refine lv_topl (fun x_2393 ex_2393 => ?_)
                              refine lv_aload_n hx hb dX12_next_206 rfl (lv_at hl 0 rfl) ?_
                              refine va_get (ci := 12) (v := .ref t0) (C := RX12) (T := TX12) (N := 60) hx hb hts hw12 hown hK hP 0 rfl rfl 12 (by decide) (hts (.fieldLink RX12 35 "SmokeTuneModel" "tape" "[I") (List.mem_cons_of_mem _ (List.mem_append_left _ (List.mem_of_getElem? (i := 3) rfl)))) (fun _ h9 => h9) rfl dX12_next_207 ?_
                              refine lv_aload_n hx hb dX12_next_210 rfl (lv_at hl 0 rfl) ?_
                              refine va_get (ci := 12) (v := .int v_2338) (C := RX12) (T := TX12) (N := 60) hx hb hts hw12 hown hK hP 0 rfl rfl 15 (by decide) (hts (.fieldLink RX12 236 "SmokeTuneModel" "to" "I") (List.mem_cons_of_mem _ (List.mem_append_left _ (List.mem_of_getElem? (i := 0) rfl)))) (fun _ h9 => h9) rfl dX12_next_211 ?_
                              refine va_iald hx hb hK hP 1 0 rfl rfl (i_in rfl (by omega)) dX12_next_214 ?_
                              refine lv_topi (fun x_2394 ex_2394 => ?_)
                              obtain rfl : x_2394 = x_2383 := ex_2394.trans (by rw [i_clamp rfl]; exact kx_2383)
                              refine lv_i2l hx hb dX12_next_215 rfl ?_
                              refine lv_topl (fun x_2395 ex_2395 => ?_)
                              have hx_2395 : x_2395.toInt = x_2383.toInt := by rw [ex_2395]; exact i_wide rfl
                              refine lv_ladd hx hb dX12_next_216 ?_
                              refine lv_topl (fun x_2396 ex_2396 => ?_)
                              refine lv_ldc2 (v := 96) hx hb hown (hts (.constantLong RX12 264 (96)) (List.mem_cons_of_mem _ (List.mem_append_left _ (List.mem_of_getElem? (i := 7) rfl)))) dX12_next_217 ?_
                              refine lv_lsub hx hb dX12_next_220 ?_
                              refine lv_topl (fun x_2397 ex_2397 => ?_)
                              refine lv_goto (tgt := 227) hx hb dX12_next_221 (by decide) ?_
                              refine va_put (ci := 12) (v := .long x_2397) (ty := .long) (C := RX12) (T := TX12) (N := 60) hx hb hts hw12 tyX12 tyX12_ok nmX12 hown hK hP hD hS 0 rfl rfl 17 (by decide) (hts (.fieldLink RX12 249 "SmokeTuneModel" "worth" "J") (List.mem_cons_of_mem _ (List.mem_append_left _ (List.mem_of_getElem? (i := 4) rfl)))) (fun _ h9 => h9) rfl (by decide +kernel) (by first | rfl | decide) (by first | rfl | decide) (Nat.le_of_ble_eq_true rfl) dX12_next_227 (fun H locs hP hD hS => ?_)
                              have hP : va_P D vwCl [(m0, .inr (12, [m_0, m_1, m_2, m_3, m_4, m_5, m_6, m_7, m_8, m_9, m_10, m_11, .ref t0, .int ta, .int v_1792, .int v_2338, .int 1, .long x_2397, m_18, m_19, m_20, m_21, m_22, m_23, m_24, m_25, m_26, m_27, m_28, m_29, m_30, m_31, m_32, m_33, m_34, m_35, m_36, m_37, m_38, m_39, m_40, m_41, m_42, m_43, m_44, m_45, m_46, m_47, m_48, m_49, m_50, m_51, m_52, m_53, m_54, m_55, m_56, m_57, m_58, m_59])), (t0, .inl (K 0, 400, .inl ft))] H := hP
                              have hD : va_D A [(m0, .inr (12, [m_0, m_1, m_2, m_3, m_4, m_5, m_6, m_7, m_8, m_9, m_10, m_11, .ref t0, .int ta, .int v_1792, .int v_2338, .int 1, .long x_2397, m_18, m_19, m_20, m_21, m_22, m_23, m_24, m_25, m_26, m_27, m_28, m_29, m_30, m_31, m_32, m_33, m_34, m_35, m_36, m_37, m_38, m_39, m_40, m_41, m_42, m_43, m_44, m_45, m_46, m_47, m_48, m_49, m_50, m_51, m_52, m_53, m_54, m_55, m_56, m_57, m_58, m_59])), (t0, .inl (K 0, 400, .inl ft))] := hD
                              refine lv_aload_n hx hb dX12_next_230 rfl (lv_at hl 0 rfl) ?_
                              refine lv_dup hx hb dX12_next_231 rfl ?_
                              refine va_get (ci := 12) (v := .int v_2338) (C := RX12) (T := TX12) (N := 60) hx hb hts hw12 hown hK hP 0 rfl rfl 15 (by decide) (hts (.fieldLink RX12 236 "SmokeTuneModel" "to" "I") (List.mem_cons_of_mem _ (List.mem_append_left _ (List.mem_of_getElem? (i := 0) rfl)))) (fun _ h9 => h9) rfl dX12_next_232 ?_
                              refine lv_iconst (v := 1) hx hb dX12_next_235 (by decide) ?_
                              refine lv_iadd hx hb dX12_next_236 ?_
                              refine lv_topi (fun x_2398 ex_2398 => ?_)
                              have hx_2398 : x_2398.toInt = (v_2338.toInt + 1) := by rw [ex_2398]; exact i_add rfl (show (1 : Int32).toInt = 1 from rfl) (by omega)
                              refine va_put (ci := 12) (v := .int x_2398) (ty := .int) (C := RX12) (T := TX12) (N := 60) hx hb hts hw12 tyX12 tyX12_ok nmX12 hown hK hP hD hS 0 rfl rfl 15 (by decide) (hts (.fieldLink RX12 236 "SmokeTuneModel" "to" "I") (List.mem_cons_of_mem _ (List.mem_append_left _ (List.mem_of_getElem? (i := 0) rfl)))) (fun _ h9 => h9) rfl (by decide +kernel) (by first | rfl | decide) (by first | rfl | decide) (Nat.le_of_ble_eq_true rfl) dX12_next_237 (fun H locs hP hD hS => ?_)
                              have hP : va_P D vwCl [(m0, .inr (12, [m_0, m_1, m_2, m_3, m_4, m_5, m_6, m_7, m_8, m_9, m_10, m_11, .ref t0, .int ta, .int v_1792, .int x_2398, .int 1, .long x_2397, m_18, m_19, m_20, m_21, m_22, m_23, m_24, m_25, m_26, m_27, m_28, m_29, m_30, m_31, m_32, m_33, m_34, m_35, m_36, m_37, m_38, m_39, m_40, m_41, m_42, m_43, m_44, m_45, m_46, m_47, m_48, m_49, m_50, m_51, m_52, m_53, m_54, m_55, m_56, m_57, m_58, m_59])), (t0, .inl (K 0, 400, .inl ft))] H := hP
                              have hD : va_D A [(m0, .inr (12, [m_0, m_1, m_2, m_3, m_4, m_5, m_6, m_7, m_8, m_9, m_10, m_11, .ref t0, .int ta, .int v_1792, .int x_2398, .int 1, .long x_2397, m_18, m_19, m_20, m_21, m_22, m_23, m_24, m_25, m_26, m_27, m_28, m_29, m_30, m_31, m_32, m_33, m_34, m_35, m_36, m_37, m_38, m_39, m_40, m_41, m_42, m_43, m_44, m_45, m_46, m_47, m_48, m_49, m_50, m_51, m_52, m_53, m_54, m_55, m_56, m_57, m_58, m_59])), (t0, .inl (K 0, 400, .inl ft))] := hD
                              refine lv_goto (tgt := 149) hx hb dX12_next_240 (by decide) ?_
                              exact ih_2379 x_2398 x_2397 (by rw [hx_2398]; omega) (show v_1792.toInt < (x_2398 : Int32).toInt ∧ (x_2398 : Int32).toInt ≤ ta.toInt ∧ (v_1792.toInt + 1 < (x_2398 : Int32).toInt ∨ (x_2397 : Int64).toInt ≤ 26) by omega) (by omega) _ _ hP hD hS ls (lv_sub hl [0] rfl)
                          · refine lv_if_eq (tgt := 243) hx hb dX12_next_180 (by decide) (fun c_2399 => ?_) (fun c_2399 => absurd (by decide) c_2399)
                            refine lv_aload_n hx hb dX12_next_243 rfl (lv_at hl 0 rfl) ?_
                            refine va_get (ci := 12) (v := .int 1) (C := RX12) (T := TX12) (N := 60) hx hb hts hw12 hown hK hP 0 rfl rfl 16 (by decide) (hts (.fieldLink RX12 259 "SmokeTuneModel" "sort" "I") (List.mem_cons_of_mem _ (List.mem_append_left _ (List.mem_of_getElem? (i := 5) rfl)))) (fun _ h9 => h9) rfl dX12_next_244 ?_
                            refine lv_iconst (v := 2) hx hb dX12_next_247 (by decide) ?_
                            refine lv_icmp_ne (tgt := 335) hx hb dX12_next_248 (by decide) (fun c_2400 => ?_) (fun c_2400 => absurd c_2400 (by decide))
                            subst hQ
                            have hP9 := hP.sub (ws' := [(m0, .inr (12, [m_0, m_1, m_2, m_3, m_4, m_5, m_6, m_7, m_8, m_9, m_10, m_11, .ref t0, .int ta, .int v_1792, .int v_2338, .int 1, .long v_2339, m_18, m_19, m_20, m_21, m_22, m_23, m_24, m_25, m_26, m_27, m_28, m_29, m_30, m_31, m_32, m_33, m_34, m_35, m_36, m_37, m_38, m_39, m_40, m_41, m_42, m_43, m_44, m_45, m_46, m_47, m_48, m_49, m_50, m_51, m_52, m_53, m_54, m_55, m_56, m_57, m_58, m_59])), (t0, .inl (K 0, 400, .inl ft))]) [0, 1] rfl
                            have hD9 := hD.sub (ws' := [(m0, .inr (12, [m_0, m_1, m_2, m_3, m_4, m_5, m_6, m_7, m_8, m_9, m_10, m_11, .ref t0, .int ta, .int v_1792, .int v_2338, .int 1, .long v_2339, m_18, m_19, m_20, m_21, m_22, m_23, m_24, m_25, m_26, m_27, m_28, m_29, m_30, m_31, m_32, m_33, m_34, m_35, m_36, m_37, m_38, m_39, m_40, m_41, m_42, m_43, m_44, m_45, m_46, m_47, m_48, m_49, m_50, m_51, m_52, m_53, m_54, m_55, m_56, m_57, m_58, m_59])), (t0, .inl (K 0, 400, .inl ft))]) [0, 1] (by decide) rfl
                            exact W.vret hx hb hr (fun t ht hW => ⟨⟨((fun _ => 0, fun _ => fun _ => 0, fun _ => fun _ => 0, fun i => match i with | 0 => v_1792 | 1 => v_2338 | _ => 1, fun i => match i with | _ => v_2339, fun _ => fun _ => none) : Su), rfl, ⟨(show 0 ≤ (v_1792 : Int32).toInt ∧ (v_1792 : Int32).toInt ≤ 400 by omega), (show 0 ≤ (v_2338 : Int32).toInt ∧ (v_2338 : Int32).toInt ≤ 401 by omega), (show 0 ≤ (1 : Int32).toInt ∧ (1 : Int32).toInt ≤ 3 by decide), (show ((0 ≤ (v_1792 : Int32).toInt ∧ (v_1792 : Int32).toInt ≤ (v_2338 : Int32).toInt ∧ (v_2338 : Int32).toInt ≤ ta.toInt) ∧ (1 = 0 ∨ (v_1792 : Int32).toInt < (v_2338 : Int32).toInt) ∧ (1 ≠ 1 ∨ (v_1792 : Int32).toInt + 1 < (v_2338 : Int32).toInt ∨ (v_2339 : Int64).toInt ≤ 26)) by omega), (show to.toInt ≤ (v_1792 : Int32).toInt by omega), trivial⟩, (⟨by rw [ht]; exact hP9, hD9⟩ : Wd D A _ t)⟩, hS.F ht⟩) hS.2.2 dX12_next_335
                    have hz_2401 : ((-1) : Int64).toInt = (-1) := rfl
                    exact lp_2378 ((ta.toInt - (x_2259 : Int32).toInt : Int).toNat + 1) x_2259 (-1) (by rw [hx_2259]; omega) (show v_1792.toInt < (x_2259 : Int32).toInt ∧ (x_2259 : Int32).toInt ≤ ta.toInt ∧ (v_1792.toInt + 1 < (x_2259 : Int32).toInt ∨ ((-1) : Int64).toInt ≤ 26) by omega) (Nat.lt_succ_self _) _ _ hP hD hS ls (lv_sub hl [0] rfl)
                  · have c_2258i := i_nle (x := 10) (y := (v_1792.toInt - v_1792.toInt)) rfl hx_2257 c_2258
                    refine lv_aload_n hx hb dX12_next_198 rfl (lv_at hl 0 rfl) ?_
                    refine va_get (ci := 12) (v := .long 0) (C := RX12) (T := TX12) (N := 60) hx hb hts hw12 hown hK hP 0 rfl rfl 17 (by decide) (hts (.fieldLink RX12 249 "SmokeTuneModel" "worth" "J") (List.mem_cons_of_mem _ (List.mem_append_left _ (List.mem_of_getElem? (i := 4) rfl)))) (fun _ h9 => h9) rfl dX12_next_199 ?_
                    refine lv_ldc2 (v := 32) hx hb hown (hts (.constantLong RX12 262 (32)) (List.mem_cons_of_mem _ (List.mem_append_left _ (List.mem_of_getElem? (i := 6) rfl)))) dX12_next_202 ?_
                    refine lv_lmul hx hb dX12_next_205 ?_
                    refine lv_topl (fun x_2402 ex_2402 => ?_)
                    obtain rfl : x_2402 = 0 := ex_2402.trans (by first | rfl | decide)
                    refine lv_aload_n hx hb dX12_next_206 rfl (lv_at hl 0 rfl) ?_
                    refine va_get (ci := 12) (v := .ref t0) (C := RX12) (T := TX12) (N := 60) hx hb hts hw12 hown hK hP 0 rfl rfl 12 (by decide) (hts (.fieldLink RX12 35 "SmokeTuneModel" "tape" "[I") (List.mem_cons_of_mem _ (List.mem_append_left _ (List.mem_of_getElem? (i := 3) rfl)))) (fun _ h9 => h9) rfl dX12_next_207 ?_
                    refine lv_aload_n hx hb dX12_next_210 rfl (lv_at hl 0 rfl) ?_
                    refine va_get (ci := 12) (v := .int v_1792) (C := RX12) (T := TX12) (N := 60) hx hb hts hw12 hown hK hP 0 rfl rfl 15 (by decide) (hts (.fieldLink RX12 236 "SmokeTuneModel" "to" "I") (List.mem_cons_of_mem _ (List.mem_append_left _ (List.mem_of_getElem? (i := 0) rfl)))) (fun _ h9 => h9) rfl dX12_next_211 ?_
                    refine va_iald hx hb hK hP 1 0 rfl rfl (i_in rfl (by omega)) dX12_next_214 ?_
                    refine lv_topi (fun x_2403 ex_2403 => ?_)
                    obtain rfl : x_2403 = x_2238 := ex_2403.trans (by rw [i_clamp rfl]; exact kx_2238)
                    refine lv_i2l hx hb dX12_next_215 rfl ?_
                    refine lv_topl (fun x_2404 ex_2404 => ?_)
                    have hx_2404 : x_2404.toInt = x_2238.toInt := by rw [ex_2404]; exact i_wide rfl
                    refine lv_ladd hx hb dX12_next_216 ?_
                    refine lv_topl (fun x_2405 ex_2405 => ?_)
                    have hx_2405 : x_2405.toInt = (0 + x_2238.toInt) := by rw [ex_2405]; exact l_add (show (0 : Int64).toInt = 0 from rfl) hx_2404 (by omega)
                    refine lv_ldc2 (v := 96) hx hb hown (hts (.constantLong RX12 264 (96)) (List.mem_cons_of_mem _ (List.mem_append_left _ (List.mem_of_getElem? (i := 7) rfl)))) dX12_next_217 ?_
                    refine lv_lsub hx hb dX12_next_220 ?_
                    refine lv_topl (fun x_2406 ex_2406 => ?_)
                    have hx_2406 : x_2406.toInt = ((0 + x_2238.toInt) - 96) := by rw [ex_2406]; exact l_sub hx_2405 (show (96 : Int64).toInt = 96 from rfl) (by omega)
                    refine lv_goto (tgt := 227) hx hb dX12_next_221 (by decide) ?_
                    refine va_put (ci := 12) (v := .long x_2406) (ty := .long) (C := RX12) (T := TX12) (N := 60) hx hb hts hw12 tyX12 tyX12_ok nmX12 hown hK hP hD hS 0 rfl rfl 17 (by decide) (hts (.fieldLink RX12 249 "SmokeTuneModel" "worth" "J") (List.mem_cons_of_mem _ (List.mem_append_left _ (List.mem_of_getElem? (i := 4) rfl)))) (fun _ h9 => h9) rfl (by decide +kernel) (by first | rfl | decide) (by first | rfl | decide) (Nat.le_of_ble_eq_true rfl) dX12_next_227 (fun H locs hP hD hS => ?_)
                    have hP : va_P D vwCl [(m0, .inr (12, [m_0, m_1, m_2, m_3, m_4, m_5, m_6, m_7, m_8, m_9, m_10, m_11, .ref t0, .int ta, .int v_1792, .int v_1792, .int 1, .long x_2406, m_18, m_19, m_20, m_21, m_22, m_23, m_24, m_25, m_26, m_27, m_28, m_29, m_30, m_31, m_32, m_33, m_34, m_35, m_36, m_37, m_38, m_39, m_40, m_41, m_42, m_43, m_44, m_45, m_46, m_47, m_48, m_49, m_50, m_51, m_52, m_53, m_54, m_55, m_56, m_57, m_58, m_59])), (t0, .inl (K 0, 400, .inl ft))] H := hP
                    have hD : va_D A [(m0, .inr (12, [m_0, m_1, m_2, m_3, m_4, m_5, m_6, m_7, m_8, m_9, m_10, m_11, .ref t0, .int ta, .int v_1792, .int v_1792, .int 1, .long x_2406, m_18, m_19, m_20, m_21, m_22, m_23, m_24, m_25, m_26, m_27, m_28, m_29, m_30, m_31, m_32, m_33, m_34, m_35, m_36, m_37, m_38, m_39, m_40, m_41, m_42, m_43, m_44, m_45, m_46, m_47, m_48, m_49, m_50, m_51, m_52, m_53, m_54, m_55, m_56, m_57, m_58, m_59])), (t0, .inl (K 0, 400, .inl ft))] := hD
                    refine lv_aload_n hx hb dX12_next_230 rfl (lv_at hl 0 rfl) ?_
                    refine lv_dup hx hb dX12_next_231 rfl ?_
                    refine va_get (ci := 12) (v := .int v_1792) (C := RX12) (T := TX12) (N := 60) hx hb hts hw12 hown hK hP 0 rfl rfl 15 (by decide) (hts (.fieldLink RX12 236 "SmokeTuneModel" "to" "I") (List.mem_cons_of_mem _ (List.mem_append_left _ (List.mem_of_getElem? (i := 0) rfl)))) (fun _ h9 => h9) rfl dX12_next_232 ?_
                    refine lv_iconst (v := 1) hx hb dX12_next_235 (by decide) ?_
                    refine lv_iadd hx hb dX12_next_236 ?_
                    refine lv_topi (fun x_2407 ex_2407 => ?_)
                    have hx_2407 : x_2407.toInt = (v_1792.toInt + 1) := by rw [ex_2407]; exact i_add rfl (show (1 : Int32).toInt = 1 from rfl) (by omega)
                    refine va_put (ci := 12) (v := .int x_2407) (ty := .int) (C := RX12) (T := TX12) (N := 60) hx hb hts hw12 tyX12 tyX12_ok nmX12 hown hK hP hD hS 0 rfl rfl 15 (by decide) (hts (.fieldLink RX12 236 "SmokeTuneModel" "to" "I") (List.mem_cons_of_mem _ (List.mem_append_left _ (List.mem_of_getElem? (i := 0) rfl)))) (fun _ h9 => h9) rfl (by decide +kernel) (by first | rfl | decide) (by first | rfl | decide) (Nat.le_of_ble_eq_true rfl) dX12_next_237 (fun H locs hP hD hS => ?_)
                    have hP : va_P D vwCl [(m0, .inr (12, [m_0, m_1, m_2, m_3, m_4, m_5, m_6, m_7, m_8, m_9, m_10, m_11, .ref t0, .int ta, .int v_1792, .int x_2407, .int 1, .long x_2406, m_18, m_19, m_20, m_21, m_22, m_23, m_24, m_25, m_26, m_27, m_28, m_29, m_30, m_31, m_32, m_33, m_34, m_35, m_36, m_37, m_38, m_39, m_40, m_41, m_42, m_43, m_44, m_45, m_46, m_47, m_48, m_49, m_50, m_51, m_52, m_53, m_54, m_55, m_56, m_57, m_58, m_59])), (t0, .inl (K 0, 400, .inl ft))] H := hP
                    have hD : va_D A [(m0, .inr (12, [m_0, m_1, m_2, m_3, m_4, m_5, m_6, m_7, m_8, m_9, m_10, m_11, .ref t0, .int ta, .int v_1792, .int x_2407, .int 1, .long x_2406, m_18, m_19, m_20, m_21, m_22, m_23, m_24, m_25, m_26, m_27, m_28, m_29, m_30, m_31, m_32, m_33, m_34, m_35, m_36, m_37, m_38, m_39, m_40, m_41, m_42, m_43, m_44, m_45, m_46, m_47, m_48, m_49, m_50, m_51, m_52, m_53, m_54, m_55, m_56, m_57, m_58, m_59])), (t0, .inl (K 0, 400, .inl ft))] := hD
                    refine lv_goto (tgt := 149) hx hb dX12_next_240 (by decide) ?_
                    have lp_2506 : ∀ (nn_ : Nat) (v_2466 : Int32) (v_2467 : Int64) (hv_2466 : 1 ≤ v_2466.toInt ∧ v_2466.toInt ≤ 400) (hr0_lp_2506 : v_1792.toInt < v_2466.toInt ∧ v_2466.toInt ≤ ta.toInt ∧ (v_1792.toInt + 1 < v_2466.toInt ∨ v_2467.toInt ≤ 26)) (hn : (ta.toInt - v_2466.toInt : Int).toNat < nn_) (H : Heap) (locs : List Loc) (hP : va_P D vwCl [(m0, .inr (12, [m_0, m_1, m_2, m_3, m_4, m_5, m_6, m_7, m_8, m_9, m_10, m_11, .ref t0, .int ta, .int v_1792, .int v_2466, .int 1, .long v_2467, m_18, m_19, m_20, m_21, m_22, m_23, m_24, m_25, m_26, m_27, m_28, m_29, m_30, m_31, m_32, m_33, m_34, m_35, m_36, m_37, m_38, m_39, m_40, m_41, m_42, m_43, m_44, m_45, m_46, m_47, m_48, m_49, m_50, m_51, m_52, m_53, m_54, m_55, m_56, m_57, m_58, m_59])), (t0, .inl (K 0, 400, .inl ft))] H) (hD : va_D A [(m0, .inr (12, [m_0, m_1, m_2, m_3, m_4, m_5, m_6, m_7, m_8, m_9, m_10, m_11, .ref t0, .int ta, .int v_1792, .int v_2466, .int 1, .long v_2467, m_18, m_19, m_20, m_21, m_22, m_23, m_24, m_25, m_26, m_27, m_28, m_29, m_30, m_31, m_32, m_33, m_34, m_35, m_36, m_37, m_38, m_39, m_40, m_41, m_42, m_43, m_44, m_45, m_46, m_47, m_48, m_49, m_50, m_51, m_52, m_53, m_54, m_55, m_56, m_57, m_58, m_59])), (t0, .inl (K 0, 400, .inl ft))]) (hS : va_S A s.heap H locs) (ls : Array Slot) (hl : lv_has ls 1 [(0, .ref m0)]), W p l e ({ frames := 1, cells := 0, slots := 0, locals := 20 }) s m (([.ref m0] : List Value).toArray) below meth c H locs 0 0 Q (F0 m 149 ls []) := by
                      intro nn_
                      induction nn_ with
                      | zero =>
                        intro v_2466 v_2467 hv_2466 hr0_lp_2506 hn H locs hP hD hS ls hl
                        exact absurd hn (Nat.not_lt_zero _)
                      | succ nn_ ih_2507 =>
                        intro v_2466 v_2467 hv_2466 hr0_lp_2506 hn H locs hP hD hS ls hl
                        refine lv_aload_n hx hb dX12_next_149 rfl (lv_at hl 0 rfl) ?_
                        refine va_get (ci := 12) (v := .int 1) (C := RX12) (T := TX12) (N := 60) hx hb hts hw12 hown hK hP 0 rfl rfl 16 (by decide) (hts (.fieldLink RX12 259 "SmokeTuneModel" "sort" "I") (List.mem_cons_of_mem _ (List.mem_append_left _ (List.mem_of_getElem? (i := 5) rfl)))) (fun _ h9 => h9) rfl dX12_next_150 ?_
                        refine lv_iconst (v := 1) hx hb dX12_next_153 (by decide) ?_
                        refine lv_icmp_ne (tgt := 243) hx hb dX12_next_154 (by decide) (fun c_2508 => absurd (by decide) c_2508) (fun c_2508 => ?_)
                        refine lv_aload_n hx hb dX12_next_157 rfl (lv_at hl 0 rfl) ?_
                        refine va_get (ci := 12) (v := .int v_2466) (C := RX12) (T := TX12) (N := 60) hx hb hts hw12 hown hK hP 0 rfl rfl 15 (by decide) (hts (.fieldLink RX12 236 "SmokeTuneModel" "to" "I") (List.mem_cons_of_mem _ (List.mem_append_left _ (List.mem_of_getElem? (i := 0) rfl)))) (fun _ h9 => h9) rfl dX12_next_158 ?_
                        refine lv_aload_n hx hb dX12_next_161 rfl (lv_at hl 0 rfl) ?_
                        refine va_get (ci := 12) (v := .int ta) (C := RX12) (T := TX12) (N := 60) hx hb hts hw12 hown hK hP 0 rfl rfl 13 (by decide) (hts (.fieldLink RX12 227 "SmokeTuneModel" "taped" "I") (List.mem_cons_of_mem _ (List.mem_append_left _ (List.mem_of_getElem? (i := 2) rfl)))) (fun _ h9 => h9) rfl dX12_next_162 ?_
                        refine lv_icmp_ge (tgt := 243) hx hb dX12_next_165 (by decide) (fun c_2509 => ?_) (fun c_2509 => ?_)
                        · have c_2509i := i_le (x := ta.toInt) (y := v_2466.toInt) rfl rfl c_2509
                          refine lv_aload_n hx hb dX12_next_243 rfl (lv_at hl 0 rfl) ?_
                          refine va_get (ci := 12) (v := .int 1) (C := RX12) (T := TX12) (N := 60) hx hb hts hw12 hown hK hP 0 rfl rfl 16 (by decide) (hts (.fieldLink RX12 259 "SmokeTuneModel" "sort" "I") (List.mem_cons_of_mem _ (List.mem_append_left _ (List.mem_of_getElem? (i := 5) rfl)))) (fun _ h9 => h9) rfl dX12_next_244 ?_
                          refine lv_iconst (v := 2) hx hb dX12_next_247 (by decide) ?_
                          refine lv_icmp_ne (tgt := 335) hx hb dX12_next_248 (by decide) (fun c_2510 => ?_) (fun c_2510 => absurd c_2510 (by decide))
                          subst hQ
                          have hP9 := hP.sub (ws' := [(m0, .inr (12, [m_0, m_1, m_2, m_3, m_4, m_5, m_6, m_7, m_8, m_9, m_10, m_11, .ref t0, .int ta, .int v_1792, .int v_2466, .int 1, .long v_2467, m_18, m_19, m_20, m_21, m_22, m_23, m_24, m_25, m_26, m_27, m_28, m_29, m_30, m_31, m_32, m_33, m_34, m_35, m_36, m_37, m_38, m_39, m_40, m_41, m_42, m_43, m_44, m_45, m_46, m_47, m_48, m_49, m_50, m_51, m_52, m_53, m_54, m_55, m_56, m_57, m_58, m_59])), (t0, .inl (K 0, 400, .inl ft))]) [0, 1] rfl
                          have hD9 := hD.sub (ws' := [(m0, .inr (12, [m_0, m_1, m_2, m_3, m_4, m_5, m_6, m_7, m_8, m_9, m_10, m_11, .ref t0, .int ta, .int v_1792, .int v_2466, .int 1, .long v_2467, m_18, m_19, m_20, m_21, m_22, m_23, m_24, m_25, m_26, m_27, m_28, m_29, m_30, m_31, m_32, m_33, m_34, m_35, m_36, m_37, m_38, m_39, m_40, m_41, m_42, m_43, m_44, m_45, m_46, m_47, m_48, m_49, m_50, m_51, m_52, m_53, m_54, m_55, m_56, m_57, m_58, m_59])), (t0, .inl (K 0, 400, .inl ft))]) [0, 1] (by decide) rfl
                          exact W.vret hx hb hr (fun t ht hW => ⟨⟨((fun _ => 0, fun _ => fun _ => 0, fun _ => fun _ => 0, fun i => match i with | 0 => v_1792 | 1 => v_2466 | _ => 1, fun i => match i with | _ => v_2467, fun _ => fun _ => none) : Su), rfl, ⟨(show 0 ≤ (v_1792 : Int32).toInt ∧ (v_1792 : Int32).toInt ≤ 400 by omega), (show 0 ≤ (v_2466 : Int32).toInt ∧ (v_2466 : Int32).toInt ≤ 401 by omega), (show 0 ≤ (1 : Int32).toInt ∧ (1 : Int32).toInt ≤ 3 by decide), (show ((0 ≤ (v_1792 : Int32).toInt ∧ (v_1792 : Int32).toInt ≤ (v_2466 : Int32).toInt ∧ (v_2466 : Int32).toInt ≤ ta.toInt) ∧ (1 = 0 ∨ (v_1792 : Int32).toInt < (v_2466 : Int32).toInt) ∧ (1 ≠ 1 ∨ (v_1792 : Int32).toInt + 1 < (v_2466 : Int32).toInt ∨ (v_2467 : Int64).toInt ≤ 26)) by omega), (show to.toInt ≤ (v_1792 : Int32).toInt by omega), trivial⟩, (⟨by rw [ht]; exact hP9, hD9⟩ : Wd D A _ t)⟩, hS.F ht⟩) hS.2.2 dX12_next_335
                        · have c_2509i := i_nle (x := ta.toInt) (y := v_2466.toInt) rfl rfl c_2509
                          refine lv_aload_n hx hb dX12_next_168 rfl (lv_at hl 0 rfl) ?_
                          refine va_get (ci := 12) (v := .ref t0) (C := RX12) (T := TX12) (N := 60) hx hb hts hw12 hown hK hP 0 rfl rfl 12 (by decide) (hts (.fieldLink RX12 35 "SmokeTuneModel" "tape" "[I") (List.mem_cons_of_mem _ (List.mem_append_left _ (List.mem_of_getElem? (i := 3) rfl)))) (fun _ h9 => h9) rfl dX12_next_169 ?_
                          refine lv_aload_n hx hb dX12_next_172 rfl (lv_at hl 0 rfl) ?_
                          refine va_get (ci := 12) (v := .int v_2466) (C := RX12) (T := TX12) (N := 60) hx hb hts hw12 hown hK hP 0 rfl rfl 15 (by decide) (hts (.fieldLink RX12 236 "SmokeTuneModel" "to" "I") (List.mem_cons_of_mem _ (List.mem_append_left _ (List.mem_of_getElem? (i := 0) rfl)))) (fun _ h9 => h9) rfl dX12_next_173 ?_
                          refine va_iald hx hb hK hP 1 0 rfl rfl (i_in rfl (by omega)) dX12_next_176 ?_
                          refine lv_topi (fun x_2511 ex_2511 => ?_)
                          have kx_2511 : ft (v_2466.toInt).toNat = x_2511 := by rw [ex_2511, i_clamp rfl]
                          refine pci (va_runS (As := [.int x_2511]) (rest := []) ⟨hx, hb, hml, hown, hts⟩ (v_isSmall l D K x_2511.toInt x_2511 H.size rfl) (va_cwS 1 hts gX12_next_X12_isSmall rfl rfl rfl (by decide +kernel) ⟨Nat.le_of_ble_eq_true rfl, Nat.le_of_ble_eq_true rfl⟩) (mkS hK hN (va_P.nil) (va_D.nil (A := fun _ => True))) rfl rfl hl.1 rfl (lv_room (Nat.le_of_ble_eq_true rfl)) dX12_next_177 ⟨Nat.le_of_ble_eq_true rfl, Nat.le_of_ble_eq_true rfl⟩) (fun r_2512 hw => ?_)
                          obtain ⟨hw, -⟩ := hw
                          rcases hw with ⟨rfl, h_2513, h_2514⟩ | ⟨rfl, h_2515⟩
                          · refine lv_if_eq (tgt := 243) hx hb dX12_next_180 (by decide) (fun c_2516 => absurd c_2516 (by decide)) (fun c_2516 => ?_)
                            refine lv_aload_n hx hb dX12_next_183 rfl (lv_at hl 0 rfl) ?_
                            refine lv_aload_n hx hb dX12_next_184 rfl (lv_at hl 0 rfl) ?_
                            refine va_get (ci := 12) (v := .int v_2466) (C := RX12) (T := TX12) (N := 60) hx hb hts hw12 hown hK hP 0 rfl rfl 15 (by decide) (hts (.fieldLink RX12 236 "SmokeTuneModel" "to" "I") (List.mem_cons_of_mem _ (List.mem_append_left _ (List.mem_of_getElem? (i := 0) rfl)))) (fun _ h9 => h9) rfl dX12_next_185 ?_
                            refine lv_aload_n hx hb dX12_next_188 rfl (lv_at hl 0 rfl) ?_
                            refine va_get (ci := 12) (v := .int v_1792) (C := RX12) (T := TX12) (N := 60) hx hb hts hw12 hown hK hP 0 rfl rfl 14 (by decide) (hts (.fieldLink RX12 246 "SmokeTuneModel" "from" "I") (List.mem_cons_of_mem _ (List.mem_append_left _ (List.mem_of_getElem? (i := 1) rfl)))) (fun _ h9 => h9) rfl dX12_next_189 ?_
                            refine lv_isub hx hb dX12_next_192 ?_
                            refine lv_topi (fun x_2517 ex_2517 => ?_)
                            have hx_2517 : x_2517.toInt = (v_2466.toInt - v_1792.toInt) := by rw [ex_2517]; exact i_sub rfl rfl (by omega)
                            refine lv_bipush (v := 10) hx hb dX12_next_193 (by decide) ?_
                            refine lv_icmp_ge (tgt := 224) hx hb dX12_next_195 (by decide) (fun c_2518 => ?_) (fun c_2518 => ?_)
                            · have c_2518i := i_le (x := 10) (y := (v_2466.toInt - v_1792.toInt)) rfl hx_2517 c_2518
                              refine lv_ldc2 (v := (-1)) hx hb hown (hts (.constantLong RX12 266 (-1)) (List.mem_cons_of_mem _ (List.mem_append_left _ (List.mem_of_getElem? (i := 8) rfl)))) dX12_next_224 ?_
                              refine va_put (ci := 12) (v := .long (-1)) (ty := .long) (C := RX12) (T := TX12) (N := 60) hx hb hts hw12 tyX12 tyX12_ok nmX12 hown hK hP hD hS 0 rfl rfl 17 (by decide) (hts (.fieldLink RX12 249 "SmokeTuneModel" "worth" "J") (List.mem_cons_of_mem _ (List.mem_append_left _ (List.mem_of_getElem? (i := 4) rfl)))) (fun _ h9 => h9) rfl (by decide +kernel) (by first | rfl | decide) (by first | rfl | decide) (Nat.le_of_ble_eq_true rfl) dX12_next_227 (fun H locs hP hD hS => ?_)
                              have hP : va_P D vwCl [(m0, .inr (12, [m_0, m_1, m_2, m_3, m_4, m_5, m_6, m_7, m_8, m_9, m_10, m_11, .ref t0, .int ta, .int v_1792, .int v_2466, .int 1, .long (-1), m_18, m_19, m_20, m_21, m_22, m_23, m_24, m_25, m_26, m_27, m_28, m_29, m_30, m_31, m_32, m_33, m_34, m_35, m_36, m_37, m_38, m_39, m_40, m_41, m_42, m_43, m_44, m_45, m_46, m_47, m_48, m_49, m_50, m_51, m_52, m_53, m_54, m_55, m_56, m_57, m_58, m_59])), (t0, .inl (K 0, 400, .inl ft))] H := hP
                              have hD : va_D A [(m0, .inr (12, [m_0, m_1, m_2, m_3, m_4, m_5, m_6, m_7, m_8, m_9, m_10, m_11, .ref t0, .int ta, .int v_1792, .int v_2466, .int 1, .long (-1), m_18, m_19, m_20, m_21, m_22, m_23, m_24, m_25, m_26, m_27, m_28, m_29, m_30, m_31, m_32, m_33, m_34, m_35, m_36, m_37, m_38, m_39, m_40, m_41, m_42, m_43, m_44, m_45, m_46, m_47, m_48, m_49, m_50, m_51, m_52, m_53, m_54, m_55, m_56, m_57, m_58, m_59])), (t0, .inl (K 0, 400, .inl ft))] := hD
                              refine lv_aload_n hx hb dX12_next_230 rfl (lv_at hl 0 rfl) ?_
                              refine lv_dup hx hb dX12_next_231 rfl ?_
                              refine va_get (ci := 12) (v := .int v_2466) (C := RX12) (T := TX12) (N := 60) hx hb hts hw12 hown hK hP 0 rfl rfl 15 (by decide) (hts (.fieldLink RX12 236 "SmokeTuneModel" "to" "I") (List.mem_cons_of_mem _ (List.mem_append_left _ (List.mem_of_getElem? (i := 0) rfl)))) (fun _ h9 => h9) rfl dX12_next_232 ?_
                              refine lv_iconst (v := 1) hx hb dX12_next_235 (by decide) ?_
                              refine lv_iadd hx hb dX12_next_236 ?_
                              refine lv_topi (fun x_2519 ex_2519 => ?_)
                              have hx_2519 : x_2519.toInt = (v_2466.toInt + 1) := by rw [ex_2519]; exact i_add rfl (show (1 : Int32).toInt = 1 from rfl) (by omega)
                              refine va_put (ci := 12) (v := .int x_2519) (ty := .int) (C := RX12) (T := TX12) (N := 60) hx hb hts hw12 tyX12 tyX12_ok nmX12 hown hK hP hD hS 0 rfl rfl 15 (by decide) (hts (.fieldLink RX12 236 "SmokeTuneModel" "to" "I") (List.mem_cons_of_mem _ (List.mem_append_left _ (List.mem_of_getElem? (i := 0) rfl)))) (fun _ h9 => h9) rfl (by decide +kernel) (by first | rfl | decide) (by first | rfl | decide) (Nat.le_of_ble_eq_true rfl) dX12_next_237 (fun H locs hP hD hS => ?_)
                              have hP : va_P D vwCl [(m0, .inr (12, [m_0, m_1, m_2, m_3, m_4, m_5, m_6, m_7, m_8, m_9, m_10, m_11, .ref t0, .int ta, .int v_1792, .int x_2519, .int 1, .long (-1), m_18, m_19, m_20, m_21, m_22, m_23, m_24, m_25, m_26, m_27, m_28, m_29, m_30, m_31, m_32, m_33, m_34, m_35, m_36, m_37, m_38, m_39, m_40, m_41, m_42, m_43, m_44, m_45, m_46, m_47, m_48, m_49, m_50, m_51, m_52, m_53, m_54, m_55, m_56, m_57, m_58, m_59])), (t0, .inl (K 0, 400, .inl ft))] H := hP
                              have hD : va_D A [(m0, .inr (12, [m_0, m_1, m_2, m_3, m_4, m_5, m_6, m_7, m_8, m_9, m_10, m_11, .ref t0, .int ta, .int v_1792, .int x_2519, .int 1, .long (-1), m_18, m_19, m_20, m_21, m_22, m_23, m_24, m_25, m_26, m_27, m_28, m_29, m_30, m_31, m_32, m_33, m_34, m_35, m_36, m_37, m_38, m_39, m_40, m_41, m_42, m_43, m_44, m_45, m_46, m_47, m_48, m_49, m_50, m_51, m_52, m_53, m_54, m_55, m_56, m_57, m_58, m_59])), (t0, .inl (K 0, 400, .inl ft))] := hD
                              refine lv_goto (tgt := 149) hx hb dX12_next_240 (by decide) ?_
                              have hz_2520 : ((-1) : Int64).toInt = (-1) := rfl
                              exact ih_2507 x_2519 (-1) (by rw [hx_2519]; omega) (show v_1792.toInt < (x_2519 : Int32).toInt ∧ (x_2519 : Int32).toInt ≤ ta.toInt ∧ (v_1792.toInt + 1 < (x_2519 : Int32).toInt ∨ ((-1) : Int64).toInt ≤ 26) by omega) (by omega) _ _ hP hD hS ls (lv_sub hl [0] rfl)
                            · have c_2518i := i_nle (x := 10) (y := (v_2466.toInt - v_1792.toInt)) rfl hx_2517 c_2518
                              refine lv_aload_n hx hb dX12_next_198 rfl (lv_at hl 0 rfl) ?_
                              refine va_get (ci := 12) (v := .long v_2467) (C := RX12) (T := TX12) (N := 60) hx hb hts hw12 hown hK hP 0 rfl rfl 17 (by decide) (hts (.fieldLink RX12 249 "SmokeTuneModel" "worth" "J") (List.mem_cons_of_mem _ (List.mem_append_left _ (List.mem_of_getElem? (i := 4) rfl)))) (fun _ h9 => h9) rfl dX12_next_199 ?_
                              refine lv_ldc2 (v := 32) hx hb hown (hts (.constantLong RX12 262 (32)) (List.mem_cons_of_mem _ (List.mem_append_left _ (List.mem_of_getElem? (i := 6) rfl)))) dX12_next_202 ?_
                              refine lv_lmul hx hb dX12_next_205 ?_
                              refine lv_topl (fun x_2521 ex_2521 => ?_)
                              refine lv_aload_n hx hb dX12_next_206 rfl (lv_at hl 0 rfl) ?_
                              refine va_get (ci := 12) (v := .ref t0) (C := RX12) (T := TX12) (N := 60) hx hb hts hw12 hown hK hP 0 rfl rfl 12 (by decide) (hts (.fieldLink RX12 35 "SmokeTuneModel" "tape" "[I") (List.mem_cons_of_mem _ (List.mem_append_left _ (List.mem_of_getElem? (i := 3) rfl)))) (fun _ h9 => h9) rfl dX12_next_207 ?_
                              refine lv_aload_n hx hb dX12_next_210 rfl (lv_at hl 0 rfl) ?_
                              refine va_get (ci := 12) (v := .int v_2466) (C := RX12) (T := TX12) (N := 60) hx hb hts hw12 hown hK hP 0 rfl rfl 15 (by decide) (hts (.fieldLink RX12 236 "SmokeTuneModel" "to" "I") (List.mem_cons_of_mem _ (List.mem_append_left _ (List.mem_of_getElem? (i := 0) rfl)))) (fun _ h9 => h9) rfl dX12_next_211 ?_
                              refine va_iald hx hb hK hP 1 0 rfl rfl (i_in rfl (by omega)) dX12_next_214 ?_
                              refine lv_topi (fun x_2522 ex_2522 => ?_)
                              obtain rfl : x_2522 = x_2511 := ex_2522.trans (by rw [i_clamp rfl]; exact kx_2511)
                              refine lv_i2l hx hb dX12_next_215 rfl ?_
                              refine lv_topl (fun x_2523 ex_2523 => ?_)
                              have hx_2523 : x_2523.toInt = x_2511.toInt := by rw [ex_2523]; exact i_wide rfl
                              refine lv_ladd hx hb dX12_next_216 ?_
                              refine lv_topl (fun x_2524 ex_2524 => ?_)
                              refine lv_ldc2 (v := 96) hx hb hown (hts (.constantLong RX12 264 (96)) (List.mem_cons_of_mem _ (List.mem_append_left _ (List.mem_of_getElem? (i := 7) rfl)))) dX12_next_217 ?_
                              refine lv_lsub hx hb dX12_next_220 ?_
                              refine lv_topl (fun x_2525 ex_2525 => ?_)
                              refine lv_goto (tgt := 227) hx hb dX12_next_221 (by decide) ?_
                              refine va_put (ci := 12) (v := .long x_2525) (ty := .long) (C := RX12) (T := TX12) (N := 60) hx hb hts hw12 tyX12 tyX12_ok nmX12 hown hK hP hD hS 0 rfl rfl 17 (by decide) (hts (.fieldLink RX12 249 "SmokeTuneModel" "worth" "J") (List.mem_cons_of_mem _ (List.mem_append_left _ (List.mem_of_getElem? (i := 4) rfl)))) (fun _ h9 => h9) rfl (by decide +kernel) (by first | rfl | decide) (by first | rfl | decide) (Nat.le_of_ble_eq_true rfl) dX12_next_227 (fun H locs hP hD hS => ?_)
                              have hP : va_P D vwCl [(m0, .inr (12, [m_0, m_1, m_2, m_3, m_4, m_5, m_6, m_7, m_8, m_9, m_10, m_11, .ref t0, .int ta, .int v_1792, .int v_2466, .int 1, .long x_2525, m_18, m_19, m_20, m_21, m_22, m_23, m_24, m_25, m_26, m_27, m_28, m_29, m_30, m_31, m_32, m_33, m_34, m_35, m_36, m_37, m_38, m_39, m_40, m_41, m_42, m_43, m_44, m_45, m_46, m_47, m_48, m_49, m_50, m_51, m_52, m_53, m_54, m_55, m_56, m_57, m_58, m_59])), (t0, .inl (K 0, 400, .inl ft))] H := hP
                              have hD : va_D A [(m0, .inr (12, [m_0, m_1, m_2, m_3, m_4, m_5, m_6, m_7, m_8, m_9, m_10, m_11, .ref t0, .int ta, .int v_1792, .int v_2466, .int 1, .long x_2525, m_18, m_19, m_20, m_21, m_22, m_23, m_24, m_25, m_26, m_27, m_28, m_29, m_30, m_31, m_32, m_33, m_34, m_35, m_36, m_37, m_38, m_39, m_40, m_41, m_42, m_43, m_44, m_45, m_46, m_47, m_48, m_49, m_50, m_51, m_52, m_53, m_54, m_55, m_56, m_57, m_58, m_59])), (t0, .inl (K 0, 400, .inl ft))] := hD
                              refine lv_aload_n hx hb dX12_next_230 rfl (lv_at hl 0 rfl) ?_
                              refine lv_dup hx hb dX12_next_231 rfl ?_
                              refine va_get (ci := 12) (v := .int v_2466) (C := RX12) (T := TX12) (N := 60) hx hb hts hw12 hown hK hP 0 rfl rfl 15 (by decide) (hts (.fieldLink RX12 236 "SmokeTuneModel" "to" "I") (List.mem_cons_of_mem _ (List.mem_append_left _ (List.mem_of_getElem? (i := 0) rfl)))) (fun _ h9 => h9) rfl dX12_next_232 ?_
                              refine lv_iconst (v := 1) hx hb dX12_next_235 (by decide) ?_
                              refine lv_iadd hx hb dX12_next_236 ?_
                              refine lv_topi (fun x_2526 ex_2526 => ?_)
                              have hx_2526 : x_2526.toInt = (v_2466.toInt + 1) := by rw [ex_2526]; exact i_add rfl (show (1 : Int32).toInt = 1 from rfl) (by omega)
                              refine va_put (ci := 12) (v := .int x_2526) (ty := .int) (C := RX12) (T := TX12) (N := 60) hx hb hts hw12 tyX12 tyX12_ok nmX12 hown hK hP hD hS 0 rfl rfl 15 (by decide) (hts (.fieldLink RX12 236 "SmokeTuneModel" "to" "I") (List.mem_cons_of_mem _ (List.mem_append_left _ (List.mem_of_getElem? (i := 0) rfl)))) (fun _ h9 => h9) rfl (by decide +kernel) (by first | rfl | decide) (by first | rfl | decide) (Nat.le_of_ble_eq_true rfl) dX12_next_237 (fun H locs hP hD hS => ?_)
                              have hP : va_P D vwCl [(m0, .inr (12, [m_0, m_1, m_2, m_3, m_4, m_5, m_6, m_7, m_8, m_9, m_10, m_11, .ref t0, .int ta, .int v_1792, .int x_2526, .int 1, .long x_2525, m_18, m_19, m_20, m_21, m_22, m_23, m_24, m_25, m_26, m_27, m_28, m_29, m_30, m_31, m_32, m_33, m_34, m_35, m_36, m_37, m_38, m_39, m_40, m_41, m_42, m_43, m_44, m_45, m_46, m_47, m_48, m_49, m_50, m_51, m_52, m_53, m_54, m_55, m_56, m_57, m_58, m_59])), (t0, .inl (K 0, 400, .inl ft))] H := hP
                              have hD : va_D A [(m0, .inr (12, [m_0, m_1, m_2, m_3, m_4, m_5, m_6, m_7, m_8, m_9, m_10, m_11, .ref t0, .int ta, .int v_1792, .int x_2526, .int 1, .long x_2525, m_18, m_19, m_20, m_21, m_22, m_23, m_24, m_25, m_26, m_27, m_28, m_29, m_30, m_31, m_32, m_33, m_34, m_35, m_36, m_37, m_38, m_39, m_40, m_41, m_42, m_43, m_44, m_45, m_46, m_47, m_48, m_49, m_50, m_51, m_52, m_53, m_54, m_55, m_56, m_57, m_58, m_59])), (t0, .inl (K 0, 400, .inl ft))] := hD
                              refine lv_goto (tgt := 149) hx hb dX12_next_240 (by decide) ?_
                              exact ih_2507 x_2526 x_2525 (by rw [hx_2526]; omega) (show v_1792.toInt < (x_2526 : Int32).toInt ∧ (x_2526 : Int32).toInt ≤ ta.toInt ∧ (v_1792.toInt + 1 < (x_2526 : Int32).toInt ∨ (x_2525 : Int64).toInt ≤ 26) by omega) (by omega) _ _ hP hD hS ls (lv_sub hl [0] rfl)
                          · refine lv_if_eq (tgt := 243) hx hb dX12_next_180 (by decide) (fun c_2527 => ?_) (fun c_2527 => absurd (by decide) c_2527)
                            refine lv_aload_n hx hb dX12_next_243 rfl (lv_at hl 0 rfl) ?_
                            refine va_get (ci := 12) (v := .int 1) (C := RX12) (T := TX12) (N := 60) hx hb hts hw12 hown hK hP 0 rfl rfl 16 (by decide) (hts (.fieldLink RX12 259 "SmokeTuneModel" "sort" "I") (List.mem_cons_of_mem _ (List.mem_append_left _ (List.mem_of_getElem? (i := 5) rfl)))) (fun _ h9 => h9) rfl dX12_next_244 ?_
                            refine lv_iconst (v := 2) hx hb dX12_next_247 (by decide) ?_
                            refine lv_icmp_ne (tgt := 335) hx hb dX12_next_248 (by decide) (fun c_2528 => ?_) (fun c_2528 => absurd c_2528 (by decide))
                            subst hQ
                            have hP9 := hP.sub (ws' := [(m0, .inr (12, [m_0, m_1, m_2, m_3, m_4, m_5, m_6, m_7, m_8, m_9, m_10, m_11, .ref t0, .int ta, .int v_1792, .int v_2466, .int 1, .long v_2467, m_18, m_19, m_20, m_21, m_22, m_23, m_24, m_25, m_26, m_27, m_28, m_29, m_30, m_31, m_32, m_33, m_34, m_35, m_36, m_37, m_38, m_39, m_40, m_41, m_42, m_43, m_44, m_45, m_46, m_47, m_48, m_49, m_50, m_51, m_52, m_53, m_54, m_55, m_56, m_57, m_58, m_59])), (t0, .inl (K 0, 400, .inl ft))]) [0, 1] rfl
                            have hD9 := hD.sub (ws' := [(m0, .inr (12, [m_0, m_1, m_2, m_3, m_4, m_5, m_6, m_7, m_8, m_9, m_10, m_11, .ref t0, .int ta, .int v_1792, .int v_2466, .int 1, .long v_2467, m_18, m_19, m_20, m_21, m_22, m_23, m_24, m_25, m_26, m_27, m_28, m_29, m_30, m_31, m_32, m_33, m_34, m_35, m_36, m_37, m_38, m_39, m_40, m_41, m_42, m_43, m_44, m_45, m_46, m_47, m_48, m_49, m_50, m_51, m_52, m_53, m_54, m_55, m_56, m_57, m_58, m_59])), (t0, .inl (K 0, 400, .inl ft))]) [0, 1] (by decide) rfl
                            exact W.vret hx hb hr (fun t ht hW => ⟨⟨((fun _ => 0, fun _ => fun _ => 0, fun _ => fun _ => 0, fun i => match i with | 0 => v_1792 | 1 => v_2466 | _ => 1, fun i => match i with | _ => v_2467, fun _ => fun _ => none) : Su), rfl, ⟨(show 0 ≤ (v_1792 : Int32).toInt ∧ (v_1792 : Int32).toInt ≤ 400 by omega), (show 0 ≤ (v_2466 : Int32).toInt ∧ (v_2466 : Int32).toInt ≤ 401 by omega), (show 0 ≤ (1 : Int32).toInt ∧ (1 : Int32).toInt ≤ 3 by decide), (show ((0 ≤ (v_1792 : Int32).toInt ∧ (v_1792 : Int32).toInt ≤ (v_2466 : Int32).toInt ∧ (v_2466 : Int32).toInt ≤ ta.toInt) ∧ (1 = 0 ∨ (v_1792 : Int32).toInt < (v_2466 : Int32).toInt) ∧ (1 ≠ 1 ∨ (v_1792 : Int32).toInt + 1 < (v_2466 : Int32).toInt ∨ (v_2467 : Int64).toInt ≤ 26)) by omega), (show to.toInt ≤ (v_1792 : Int32).toInt by omega), trivial⟩, (⟨by rw [ht]; exact hP9, hD9⟩ : Wd D A _ t)⟩, hS.F ht⟩) hS.2.2 dX12_next_335
                    exact lp_2506 ((ta.toInt - (x_2407 : Int32).toInt : Int).toNat + 1) x_2407 x_2406 (by rw [hx_2407]; omega) (show v_1792.toInt < (x_2407 : Int32).toInt ∧ (x_2407 : Int32).toInt ≤ ta.toInt ∧ (v_1792.toInt + 1 < (x_2407 : Int32).toInt ∨ (x_2406 : Int64).toInt ≤ 26) by omega) (Nat.lt_succ_self _) _ _ hP hD hS ls (lv_sub hl [0] rfl)
                · exfalso; omega
            · refine lv_if_eq (tgt := 94) hx hb dX12_next_87 (by decide) (fun c_2529 => ?_) (fun c_2529 => absurd (by decide) c_2529)
              refine lv_aload_n hx hb dX12_next_94 rfl (lv_at hl 0 rfl) ?_
              refine va_get (ci := 12) (v := .ref t0) (C := RX12) (T := TX12) (N := 60) hx hb hts hw12 hown hK hP 0 rfl rfl 12 (by decide) (hts (.fieldLink RX12 35 "SmokeTuneModel" "tape" "[I") (List.mem_cons_of_mem _ (List.mem_append_left _ (List.mem_of_getElem? (i := 3) rfl)))) (fun _ h9 => h9) rfl dX12_next_95 ?_
              refine lv_aload_n hx hb dX12_next_98 rfl (lv_at hl 0 rfl) ?_
              refine va_get (ci := 12) (v := .int v_1792) (C := RX12) (T := TX12) (N := 60) hx hb hts hw12 hown hK hP 0 rfl rfl 14 (by decide) (hts (.fieldLink RX12 246 "SmokeTuneModel" "from" "I") (List.mem_cons_of_mem _ (List.mem_append_left _ (List.mem_of_getElem? (i := 1) rfl)))) (fun _ h9 => h9) rfl dX12_next_99 ?_
              refine va_iald hx hb hK hP 1 0 rfl rfl (i_in rfl (by omega)) dX12_next_102 ?_
              refine lv_topi (fun x_2530 ex_2530 => ?_)
              obtain rfl : x_2530 = x_2238 := ex_2530.trans (by rw [i_clamp rfl]; exact kx_2238)
              refine pci (va_runS (As := [.int x_2238]) (rest := [.ref m0]) ⟨hx, hb, hml, hown, hts⟩ (v_isDigit l D K x_2238.toInt x_2238 H.size rfl) (va_cwS 1 hts gX12_next_X12_isDigit rfl rfl rfl (by decide +kernel) ⟨Nat.le_of_ble_eq_true rfl, Nat.le_of_ble_eq_true rfl⟩) (mkS hK hN (va_P.nil) (va_D.nil (A := fun _ => True))) rfl rfl hl.1 rfl (lv_room (Nat.le_of_ble_eq_true rfl)) dX12_next_103 ⟨Nat.le_of_ble_eq_true rfl, Nat.le_of_ble_eq_true rfl⟩) (fun r_2531 hw => ?_)
              obtain ⟨hw, -⟩ := hw
              rcases hw with ⟨rfl, h_2532, h_2533⟩ | ⟨rfl, h_2534⟩
              · refine lv_if_eq (tgt := 113) hx hb dX12_next_106 (by decide) (fun c_2535 => absurd c_2535 (by decide)) (fun c_2535 => ?_)
                refine lv_iconst (v := 2) hx hb dX12_next_109 (by decide) ?_
                refine lv_goto (tgt := 114) hx hb dX12_next_110 (by decide) ?_
                refine va_put (ci := 12) (v := .int 2) (ty := .int) (C := RX12) (T := TX12) (N := 60) hx hb hts hw12 tyX12 tyX12_ok nmX12 hown hK hP hD hS 0 rfl rfl 16 (by decide) (hts (.fieldLink RX12 259 "SmokeTuneModel" "sort" "I") (List.mem_cons_of_mem _ (List.mem_append_left _ (List.mem_of_getElem? (i := 5) rfl)))) (fun _ h9 => h9) rfl (by decide +kernel) (by first | rfl | decide) (by first | rfl | decide) (Nat.le_of_ble_eq_true rfl) dX12_next_114 (fun H locs hP hD hS => ?_)
                have hP : va_P D vwCl [(m0, .inr (12, [m_0, m_1, m_2, m_3, m_4, m_5, m_6, m_7, m_8, m_9, m_10, m_11, .ref t0, .int ta, .int v_1792, .int v_1792, .int 2, .long 0, m_18, m_19, m_20, m_21, m_22, m_23, m_24, m_25, m_26, m_27, m_28, m_29, m_30, m_31, m_32, m_33, m_34, m_35, m_36, m_37, m_38, m_39, m_40, m_41, m_42, m_43, m_44, m_45, m_46, m_47, m_48, m_49, m_50, m_51, m_52, m_53, m_54, m_55, m_56, m_57, m_58, m_59])), (t0, .inl (K 0, 400, .inl ft))] H := hP
                have hD : va_D A [(m0, .inr (12, [m_0, m_1, m_2, m_3, m_4, m_5, m_6, m_7, m_8, m_9, m_10, m_11, .ref t0, .int ta, .int v_1792, .int v_1792, .int 2, .long 0, m_18, m_19, m_20, m_21, m_22, m_23, m_24, m_25, m_26, m_27, m_28, m_29, m_30, m_31, m_32, m_33, m_34, m_35, m_36, m_37, m_38, m_39, m_40, m_41, m_42, m_43, m_44, m_45, m_46, m_47, m_48, m_49, m_50, m_51, m_52, m_53, m_54, m_55, m_56, m_57, m_58, m_59])), (t0, .inl (K 0, 400, .inl ft))] := hD
                refine lv_aload_n hx hb dX12_next_117 rfl (lv_at hl 0 rfl) ?_
                refine va_get (ci := 12) (v := .int 2) (C := RX12) (T := TX12) (N := 60) hx hb hts hw12 hown hK hP 0 rfl rfl 16 (by decide) (hts (.fieldLink RX12 259 "SmokeTuneModel" "sort" "I") (List.mem_cons_of_mem _ (List.mem_append_left _ (List.mem_of_getElem? (i := 5) rfl)))) (fun _ h9 => h9) rfl dX12_next_118 ?_
                refine lv_iconst (v := 3) hx hb dX12_next_121 (by decide) ?_
                refine lv_icmp_ne (tgt := 149) hx hb dX12_next_122 (by decide) (fun c_2536 => ?_) (fun c_2536 => absurd c_2536 (by decide))
                refine lv_aload_n hx hb dX12_next_149 rfl (lv_at hl 0 rfl) ?_
                refine va_get (ci := 12) (v := .int 2) (C := RX12) (T := TX12) (N := 60) hx hb hts hw12 hown hK hP 0 rfl rfl 16 (by decide) (hts (.fieldLink RX12 259 "SmokeTuneModel" "sort" "I") (List.mem_cons_of_mem _ (List.mem_append_left _ (List.mem_of_getElem? (i := 5) rfl)))) (fun _ h9 => h9) rfl dX12_next_150 ?_
                refine lv_iconst (v := 1) hx hb dX12_next_153 (by decide) ?_
                refine lv_icmp_ne (tgt := 243) hx hb dX12_next_154 (by decide) (fun c_2537 => ?_) (fun c_2537 => absurd c_2537 (by decide))
                refine lv_aload_n hx hb dX12_next_243 rfl (lv_at hl 0 rfl) ?_
                refine va_get (ci := 12) (v := .int 2) (C := RX12) (T := TX12) (N := 60) hx hb hts hw12 hown hK hP 0 rfl rfl 16 (by decide) (hts (.fieldLink RX12 259 "SmokeTuneModel" "sort" "I") (List.mem_cons_of_mem _ (List.mem_append_left _ (List.mem_of_getElem? (i := 5) rfl)))) (fun _ h9 => h9) rfl dX12_next_244 ?_
                refine lv_iconst (v := 2) hx hb dX12_next_247 (by decide) ?_
                refine lv_icmp_ne (tgt := 335) hx hb dX12_next_248 (by decide) (fun c_2538 => absurd (by decide) c_2538) (fun c_2538 => ?_)
                refine lv_aload_n hx hb dX12_next_251 rfl (lv_at hl 0 rfl) ?_
                refine va_get (ci := 12) (v := .int v_1792) (C := RX12) (T := TX12) (N := 60) hx hb hts hw12 hown hK hP 0 rfl rfl 15 (by decide) (hts (.fieldLink RX12 236 "SmokeTuneModel" "to" "I") (List.mem_cons_of_mem _ (List.mem_append_left _ (List.mem_of_getElem? (i := 0) rfl)))) (fun _ h9 => h9) rfl dX12_next_252 ?_
                refine lv_aload_n hx hb dX12_next_255 rfl (lv_at hl 0 rfl) ?_
                refine va_get (ci := 12) (v := .int ta) (C := RX12) (T := TX12) (N := 60) hx hb hts hw12 hown hK hP 0 rfl rfl 13 (by decide) (hts (.fieldLink RX12 227 "SmokeTuneModel" "taped" "I") (List.mem_cons_of_mem _ (List.mem_append_left _ (List.mem_of_getElem? (i := 2) rfl)))) (fun _ h9 => h9) rfl dX12_next_256 ?_
                refine lv_icmp_ge (tgt := 335) hx hb dX12_next_259 (by decide) (fun c_2539 => ?_) (fun c_2539 => ?_)
                · have c_2539i := i_le (x := ta.toInt) (y := v_1792.toInt) rfl rfl c_2539
                  subst hQ
                  have hP9 := hP.sub (ws' := [(m0, .inr (12, [m_0, m_1, m_2, m_3, m_4, m_5, m_6, m_7, m_8, m_9, m_10, m_11, .ref t0, .int ta, .int v_1792, .int v_1792, .int 2, .long 0, m_18, m_19, m_20, m_21, m_22, m_23, m_24, m_25, m_26, m_27, m_28, m_29, m_30, m_31, m_32, m_33, m_34, m_35, m_36, m_37, m_38, m_39, m_40, m_41, m_42, m_43, m_44, m_45, m_46, m_47, m_48, m_49, m_50, m_51, m_52, m_53, m_54, m_55, m_56, m_57, m_58, m_59])), (t0, .inl (K 0, 400, .inl ft))]) [0, 1] rfl
                  have hD9 := hD.sub (ws' := [(m0, .inr (12, [m_0, m_1, m_2, m_3, m_4, m_5, m_6, m_7, m_8, m_9, m_10, m_11, .ref t0, .int ta, .int v_1792, .int v_1792, .int 2, .long 0, m_18, m_19, m_20, m_21, m_22, m_23, m_24, m_25, m_26, m_27, m_28, m_29, m_30, m_31, m_32, m_33, m_34, m_35, m_36, m_37, m_38, m_39, m_40, m_41, m_42, m_43, m_44, m_45, m_46, m_47, m_48, m_49, m_50, m_51, m_52, m_53, m_54, m_55, m_56, m_57, m_58, m_59])), (t0, .inl (K 0, 400, .inl ft))]) [0, 1] (by decide) rfl
                  exact W.vret hx hb hr (fun t ht hW => ⟨⟨((fun _ => 0, fun _ => fun _ => 0, fun _ => fun _ => 0, fun i => match i with | 0 => v_1792 | 1 => v_1792 | _ => 2, fun i => match i with | _ => 0, fun _ => fun _ => none) : Su), rfl, ⟨(show 0 ≤ (v_1792 : Int32).toInt ∧ (v_1792 : Int32).toInt ≤ 400 by omega), (show 0 ≤ (v_1792 : Int32).toInt ∧ (v_1792 : Int32).toInt ≤ 401 by omega), (show 0 ≤ (2 : Int32).toInt ∧ (2 : Int32).toInt ≤ 3 by decide), (show ((0 ≤ (v_1792 : Int32).toInt ∧ (v_1792 : Int32).toInt ≤ (v_1792 : Int32).toInt ∧ (v_1792 : Int32).toInt ≤ ta.toInt) ∧ (2 = 0 ∨ (v_1792 : Int32).toInt < (v_1792 : Int32).toInt) ∧ (2 ≠ 1 ∨ (v_1792 : Int32).toInt + 1 < (v_1792 : Int32).toInt ∨ 0 ≤ 26)) by omega), (show to.toInt ≤ (v_1792 : Int32).toInt by omega), trivial⟩, (⟨by rw [ht]; exact hP9, hD9⟩ : Wd D A _ t)⟩, hS.F ht⟩) hS.2.2 dX12_next_335
                · have c_2539i := i_nle (x := ta.toInt) (y := v_1792.toInt) rfl rfl c_2539
                  refine lv_aload_n hx hb dX12_next_262 rfl (lv_at hl 0 rfl) ?_
                  refine va_get (ci := 12) (v := .ref t0) (C := RX12) (T := TX12) (N := 60) hx hb hts hw12 hown hK hP 0 rfl rfl 12 (by decide) (hts (.fieldLink RX12 35 "SmokeTuneModel" "tape" "[I") (List.mem_cons_of_mem _ (List.mem_append_left _ (List.mem_of_getElem? (i := 3) rfl)))) (fun _ h9 => h9) rfl dX12_next_263 ?_
                  refine lv_aload_n hx hb dX12_next_266 rfl (lv_at hl 0 rfl) ?_
                  refine va_get (ci := 12) (v := .int v_1792) (C := RX12) (T := TX12) (N := 60) hx hb hts hw12 hown hK hP 0 rfl rfl 15 (by decide) (hts (.fieldLink RX12 236 "SmokeTuneModel" "to" "I") (List.mem_cons_of_mem _ (List.mem_append_left _ (List.mem_of_getElem? (i := 0) rfl)))) (fun _ h9 => h9) rfl dX12_next_267 ?_
                  refine va_iald hx hb hK hP 1 0 rfl rfl (i_in rfl (by omega)) dX12_next_270 ?_
                  refine lv_topi (fun x_2540 ex_2540 => ?_)
                  obtain rfl : x_2540 = x_2238 := ex_2540.trans (by rw [i_clamp rfl]; exact kx_2238)
                  refine pci (va_runS (As := [.int x_2238]) (rest := []) ⟨hx, hb, hml, hown, hts⟩ (v_isDigit l D K x_2238.toInt x_2238 H.size rfl) (va_cwS 1 hts gX12_next_X12_isDigit rfl rfl rfl (by decide +kernel) ⟨Nat.le_of_ble_eq_true rfl, Nat.le_of_ble_eq_true rfl⟩) (mkS hK hN (va_P.nil) (va_D.nil (A := fun _ => True))) rfl rfl hl.1 rfl (lv_room (Nat.le_of_ble_eq_true rfl)) dX12_next_271 ⟨Nat.le_of_ble_eq_true rfl, Nat.le_of_ble_eq_true rfl⟩) (fun r_2541 hw => ?_)
                  obtain ⟨hw, -⟩ := hw
                  rcases hw with ⟨rfl, h_2542, h_2543⟩ | ⟨rfl, h_2544⟩
                  · refine lv_if_eq (tgt := 335) hx hb dX12_next_274 (by decide) (fun c_2545 => absurd c_2545 (by decide)) (fun c_2545 => ?_)
                    refine lv_aload_n hx hb dX12_next_277 rfl (lv_at hl 0 rfl) ?_
                    refine lv_aload_n hx hb dX12_next_278 rfl (lv_at hl 0 rfl) ?_
                    refine va_get (ci := 12) (v := .long 0) (C := RX12) (T := TX12) (N := 60) hx hb hts hw12 hown hK hP 0 rfl rfl 17 (by decide) (hts (.fieldLink RX12 249 "SmokeTuneModel" "worth" "J") (List.mem_cons_of_mem _ (List.mem_append_left _ (List.mem_of_getElem? (i := 4) rfl)))) (fun _ h9 => h9) rfl dX12_next_279 ?_
                    refine lv_ldc2 (v := 1000000) hx hb hown (hts (.constantLong RX12 268 (1000000)) (List.mem_cons_of_mem _ (List.mem_append_left _ (List.mem_of_getElem? (i := 9) rfl)))) dX12_next_282 ?_
                    refine W.lcmp hx hb dX12_next_285 ?_
                    refine lv_if_le (tgt := 296) hx hb dX12_next_286 (by decide) (fun c_2546 => ?_) (fun c_2546 => absurd (by decide) c_2546)
                    refine lv_aload_n hx hb dX12_next_296 rfl (lv_at hl 0 rfl) ?_
                    refine va_get (ci := 12) (v := .long 0) (C := RX12) (T := TX12) (N := 60) hx hb hts hw12 hown hK hP 0 rfl rfl 17 (by decide) (hts (.fieldLink RX12 249 "SmokeTuneModel" "worth" "J") (List.mem_cons_of_mem _ (List.mem_append_left _ (List.mem_of_getElem? (i := 4) rfl)))) (fun _ h9 => h9) rfl dX12_next_297 ?_
                    refine lv_ldc2 (v := 10) hx hb hown (hts (.constantLong RX12 219 (10)) (List.mem_cons_of_mem _ (List.mem_append_left _ (List.mem_of_getElem? (i := 10) rfl)))) dX12_next_300 ?_
                    refine lv_lmul hx hb dX12_next_303 ?_
                    refine lv_topl (fun x_2547 ex_2547 => ?_)
                    obtain rfl : x_2547 = 0 := ex_2547.trans (by first | rfl | decide)
                    refine lv_aload_n hx hb dX12_next_304 rfl (lv_at hl 0 rfl) ?_
                    refine va_get (ci := 12) (v := .ref t0) (C := RX12) (T := TX12) (N := 60) hx hb hts hw12 hown hK hP 0 rfl rfl 12 (by decide) (hts (.fieldLink RX12 35 "SmokeTuneModel" "tape" "[I") (List.mem_cons_of_mem _ (List.mem_append_left _ (List.mem_of_getElem? (i := 3) rfl)))) (fun _ h9 => h9) rfl dX12_next_305 ?_
                    refine lv_aload_n hx hb dX12_next_308 rfl (lv_at hl 0 rfl) ?_
                    refine va_get (ci := 12) (v := .int v_1792) (C := RX12) (T := TX12) (N := 60) hx hb hts hw12 hown hK hP 0 rfl rfl 15 (by decide) (hts (.fieldLink RX12 236 "SmokeTuneModel" "to" "I") (List.mem_cons_of_mem _ (List.mem_append_left _ (List.mem_of_getElem? (i := 0) rfl)))) (fun _ h9 => h9) rfl dX12_next_309 ?_
                    refine va_iald hx hb hK hP 1 0 rfl rfl (i_in rfl (by omega)) dX12_next_312 ?_
                    refine lv_topi (fun x_2548 ex_2548 => ?_)
                    obtain rfl : x_2548 = x_2238 := ex_2548.trans (by rw [i_clamp rfl]; exact kx_2238)
                    refine lv_i2l hx hb dX12_next_313 rfl ?_
                    refine lv_topl (fun x_2549 ex_2549 => ?_)
                    have hx_2549 : x_2549.toInt = x_2238.toInt := by rw [ex_2549]; exact i_wide rfl
                    refine lv_ladd hx hb dX12_next_314 ?_
                    refine lv_topl (fun x_2550 ex_2550 => ?_)
                    have hx_2550 : x_2550.toInt = (0 + x_2238.toInt) := by rw [ex_2550]; exact l_add (show (0 : Int64).toInt = 0 from rfl) hx_2549 (by omega)
                    refine lv_ldc2 (v := 48) hx hb hown (hts (.constantLong RX12 270 (48)) (List.mem_cons_of_mem _ (List.mem_append_left _ (List.mem_of_getElem? (i := 11) rfl)))) dX12_next_315 ?_
                    refine lv_lsub hx hb dX12_next_318 ?_
                    refine lv_topl (fun x_2551 ex_2551 => ?_)
                    have hx_2551 : x_2551.toInt = ((0 + x_2238.toInt) - 48) := by rw [ex_2551]; exact l_sub hx_2550 (show (48 : Int64).toInt = 48 from rfl) (by omega)
                    refine va_put (ci := 12) (v := .long x_2551) (ty := .long) (C := RX12) (T := TX12) (N := 60) hx hb hts hw12 tyX12 tyX12_ok nmX12 hown hK hP hD hS 0 rfl rfl 17 (by decide) (hts (.fieldLink RX12 249 "SmokeTuneModel" "worth" "J") (List.mem_cons_of_mem _ (List.mem_append_left _ (List.mem_of_getElem? (i := 4) rfl)))) (fun _ h9 => h9) rfl (by decide +kernel) (by first | rfl | decide) (by first | rfl | decide) (Nat.le_of_ble_eq_true rfl) dX12_next_319 (fun H locs hP hD hS => ?_)
                    have hP : va_P D vwCl [(m0, .inr (12, [m_0, m_1, m_2, m_3, m_4, m_5, m_6, m_7, m_8, m_9, m_10, m_11, .ref t0, .int ta, .int v_1792, .int v_1792, .int 2, .long x_2551, m_18, m_19, m_20, m_21, m_22, m_23, m_24, m_25, m_26, m_27, m_28, m_29, m_30, m_31, m_32, m_33, m_34, m_35, m_36, m_37, m_38, m_39, m_40, m_41, m_42, m_43, m_44, m_45, m_46, m_47, m_48, m_49, m_50, m_51, m_52, m_53, m_54, m_55, m_56, m_57, m_58, m_59])), (t0, .inl (K 0, 400, .inl ft))] H := hP
                    have hD : va_D A [(m0, .inr (12, [m_0, m_1, m_2, m_3, m_4, m_5, m_6, m_7, m_8, m_9, m_10, m_11, .ref t0, .int ta, .int v_1792, .int v_1792, .int 2, .long x_2551, m_18, m_19, m_20, m_21, m_22, m_23, m_24, m_25, m_26, m_27, m_28, m_29, m_30, m_31, m_32, m_33, m_34, m_35, m_36, m_37, m_38, m_39, m_40, m_41, m_42, m_43, m_44, m_45, m_46, m_47, m_48, m_49, m_50, m_51, m_52, m_53, m_54, m_55, m_56, m_57, m_58, m_59])), (t0, .inl (K 0, 400, .inl ft))] := hD
                    refine lv_aload_n hx hb dX12_next_322 rfl (lv_at hl 0 rfl) ?_
                    refine lv_dup hx hb dX12_next_323 rfl ?_
                    refine va_get (ci := 12) (v := .int v_1792) (C := RX12) (T := TX12) (N := 60) hx hb hts hw12 hown hK hP 0 rfl rfl 15 (by decide) (hts (.fieldLink RX12 236 "SmokeTuneModel" "to" "I") (List.mem_cons_of_mem _ (List.mem_append_left _ (List.mem_of_getElem? (i := 0) rfl)))) (fun _ h9 => h9) rfl dX12_next_324 ?_
                    refine lv_iconst (v := 1) hx hb dX12_next_327 (by decide) ?_
                    refine lv_iadd hx hb dX12_next_328 ?_
                    refine lv_topi (fun x_2552 ex_2552 => ?_)
                    have hx_2552 : x_2552.toInt = (v_1792.toInt + 1) := by rw [ex_2552]; exact i_add rfl (show (1 : Int32).toInt = 1 from rfl) (by omega)
                    refine va_put (ci := 12) (v := .int x_2552) (ty := .int) (C := RX12) (T := TX12) (N := 60) hx hb hts hw12 tyX12 tyX12_ok nmX12 hown hK hP hD hS 0 rfl rfl 15 (by decide) (hts (.fieldLink RX12 236 "SmokeTuneModel" "to" "I") (List.mem_cons_of_mem _ (List.mem_append_left _ (List.mem_of_getElem? (i := 0) rfl)))) (fun _ h9 => h9) rfl (by decide +kernel) (by first | rfl | decide) (by first | rfl | decide) (Nat.le_of_ble_eq_true rfl) dX12_next_329 (fun H locs hP hD hS => ?_)
                    have hP : va_P D vwCl [(m0, .inr (12, [m_0, m_1, m_2, m_3, m_4, m_5, m_6, m_7, m_8, m_9, m_10, m_11, .ref t0, .int ta, .int v_1792, .int x_2552, .int 2, .long x_2551, m_18, m_19, m_20, m_21, m_22, m_23, m_24, m_25, m_26, m_27, m_28, m_29, m_30, m_31, m_32, m_33, m_34, m_35, m_36, m_37, m_38, m_39, m_40, m_41, m_42, m_43, m_44, m_45, m_46, m_47, m_48, m_49, m_50, m_51, m_52, m_53, m_54, m_55, m_56, m_57, m_58, m_59])), (t0, .inl (K 0, 400, .inl ft))] H := hP
                    have hD : va_D A [(m0, .inr (12, [m_0, m_1, m_2, m_3, m_4, m_5, m_6, m_7, m_8, m_9, m_10, m_11, .ref t0, .int ta, .int v_1792, .int x_2552, .int 2, .long x_2551, m_18, m_19, m_20, m_21, m_22, m_23, m_24, m_25, m_26, m_27, m_28, m_29, m_30, m_31, m_32, m_33, m_34, m_35, m_36, m_37, m_38, m_39, m_40, m_41, m_42, m_43, m_44, m_45, m_46, m_47, m_48, m_49, m_50, m_51, m_52, m_53, m_54, m_55, m_56, m_57, m_58, m_59])), (t0, .inl (K 0, 400, .inl ft))] := hD
                    refine lv_goto (tgt := 243) hx hb dX12_next_332 (by decide) ?_
                    have lp_2644 : ∀ (nn_ : Nat) (v_2606 : Int32) (v_2607 : Int64) (hv_2606 : 1 ≤ v_2606.toInt ∧ v_2606.toInt ≤ 400) (hv_2607 : 0 ≤ v_2607.toInt) (hr0_lp_2644 : v_1792.toInt < v_2606.toInt ∧ v_2606.toInt ≤ ta.toInt) (hn : (ta.toInt - v_2606.toInt : Int).toNat < nn_) (H : Heap) (locs : List Loc) (hP : va_P D vwCl [(m0, .inr (12, [m_0, m_1, m_2, m_3, m_4, m_5, m_6, m_7, m_8, m_9, m_10, m_11, .ref t0, .int ta, .int v_1792, .int v_2606, .int 2, .long v_2607, m_18, m_19, m_20, m_21, m_22, m_23, m_24, m_25, m_26, m_27, m_28, m_29, m_30, m_31, m_32, m_33, m_34, m_35, m_36, m_37, m_38, m_39, m_40, m_41, m_42, m_43, m_44, m_45, m_46, m_47, m_48, m_49, m_50, m_51, m_52, m_53, m_54, m_55, m_56, m_57, m_58, m_59])), (t0, .inl (K 0, 400, .inl ft))] H) (hD : va_D A [(m0, .inr (12, [m_0, m_1, m_2, m_3, m_4, m_5, m_6, m_7, m_8, m_9, m_10, m_11, .ref t0, .int ta, .int v_1792, .int v_2606, .int 2, .long v_2607, m_18, m_19, m_20, m_21, m_22, m_23, m_24, m_25, m_26, m_27, m_28, m_29, m_30, m_31, m_32, m_33, m_34, m_35, m_36, m_37, m_38, m_39, m_40, m_41, m_42, m_43, m_44, m_45, m_46, m_47, m_48, m_49, m_50, m_51, m_52, m_53, m_54, m_55, m_56, m_57, m_58, m_59])), (t0, .inl (K 0, 400, .inl ft))]) (hS : va_S A s.heap H locs) (ls : Array Slot) (hl : lv_has ls 1 [(0, .ref m0)]), W p l e ({ frames := 1, cells := 0, slots := 0, locals := 20 }) s m (([.ref m0] : List Value).toArray) below meth c H locs 0 0 Q (F0 m 243 ls []) := by
                      intro nn_
                      induction nn_ with
                      | zero =>
                        intro v_2606 v_2607 hv_2606 hv_2607 hr0_lp_2644 hn H locs hP hD hS ls hl
                        exact absurd hn (Nat.not_lt_zero _)
                      | succ nn_ ih_2645 =>
                        intro v_2606 v_2607 hv_2606 hv_2607 hr0_lp_2644 hn H locs hP hD hS ls hl
                        refine lv_aload_n hx hb dX12_next_243 rfl (lv_at hl 0 rfl) ?_
                        refine va_get (ci := 12) (v := .int 2) (C := RX12) (T := TX12) (N := 60) hx hb hts hw12 hown hK hP 0 rfl rfl 16 (by decide) (hts (.fieldLink RX12 259 "SmokeTuneModel" "sort" "I") (List.mem_cons_of_mem _ (List.mem_append_left _ (List.mem_of_getElem? (i := 5) rfl)))) (fun _ h9 => h9) rfl dX12_next_244 ?_
                        refine lv_iconst (v := 2) hx hb dX12_next_247 (by decide) ?_
                        refine lv_icmp_ne (tgt := 335) hx hb dX12_next_248 (by decide) (fun c_2646 => absurd (by decide) c_2646) (fun c_2646 => ?_)
                        refine lv_aload_n hx hb dX12_next_251 rfl (lv_at hl 0 rfl) ?_
                        refine va_get (ci := 12) (v := .int v_2606) (C := RX12) (T := TX12) (N := 60) hx hb hts hw12 hown hK hP 0 rfl rfl 15 (by decide) (hts (.fieldLink RX12 236 "SmokeTuneModel" "to" "I") (List.mem_cons_of_mem _ (List.mem_append_left _ (List.mem_of_getElem? (i := 0) rfl)))) (fun _ h9 => h9) rfl dX12_next_252 ?_
                        refine lv_aload_n hx hb dX12_next_255 rfl (lv_at hl 0 rfl) ?_
                        refine va_get (ci := 12) (v := .int ta) (C := RX12) (T := TX12) (N := 60) hx hb hts hw12 hown hK hP 0 rfl rfl 13 (by decide) (hts (.fieldLink RX12 227 "SmokeTuneModel" "taped" "I") (List.mem_cons_of_mem _ (List.mem_append_left _ (List.mem_of_getElem? (i := 2) rfl)))) (fun _ h9 => h9) rfl dX12_next_256 ?_
                        refine lv_icmp_ge (tgt := 335) hx hb dX12_next_259 (by decide) (fun c_2647 => ?_) (fun c_2647 => ?_)
                        · have c_2647i := i_le (x := ta.toInt) (y := v_2606.toInt) rfl rfl c_2647
                          subst hQ
                          have hP9 := hP.sub (ws' := [(m0, .inr (12, [m_0, m_1, m_2, m_3, m_4, m_5, m_6, m_7, m_8, m_9, m_10, m_11, .ref t0, .int ta, .int v_1792, .int v_2606, .int 2, .long v_2607, m_18, m_19, m_20, m_21, m_22, m_23, m_24, m_25, m_26, m_27, m_28, m_29, m_30, m_31, m_32, m_33, m_34, m_35, m_36, m_37, m_38, m_39, m_40, m_41, m_42, m_43, m_44, m_45, m_46, m_47, m_48, m_49, m_50, m_51, m_52, m_53, m_54, m_55, m_56, m_57, m_58, m_59])), (t0, .inl (K 0, 400, .inl ft))]) [0, 1] rfl
                          have hD9 := hD.sub (ws' := [(m0, .inr (12, [m_0, m_1, m_2, m_3, m_4, m_5, m_6, m_7, m_8, m_9, m_10, m_11, .ref t0, .int ta, .int v_1792, .int v_2606, .int 2, .long v_2607, m_18, m_19, m_20, m_21, m_22, m_23, m_24, m_25, m_26, m_27, m_28, m_29, m_30, m_31, m_32, m_33, m_34, m_35, m_36, m_37, m_38, m_39, m_40, m_41, m_42, m_43, m_44, m_45, m_46, m_47, m_48, m_49, m_50, m_51, m_52, m_53, m_54, m_55, m_56, m_57, m_58, m_59])), (t0, .inl (K 0, 400, .inl ft))]) [0, 1] (by decide) rfl
                          exact W.vret hx hb hr (fun t ht hW => ⟨⟨((fun _ => 0, fun _ => fun _ => 0, fun _ => fun _ => 0, fun i => match i with | 0 => v_1792 | 1 => v_2606 | _ => 2, fun i => match i with | _ => v_2607, fun _ => fun _ => none) : Su), rfl, ⟨(show 0 ≤ (v_1792 : Int32).toInt ∧ (v_1792 : Int32).toInt ≤ 400 by omega), (show 0 ≤ (v_2606 : Int32).toInt ∧ (v_2606 : Int32).toInt ≤ 401 by omega), (show 0 ≤ (2 : Int32).toInt ∧ (2 : Int32).toInt ≤ 3 by decide), (show ((0 ≤ (v_1792 : Int32).toInt ∧ (v_1792 : Int32).toInt ≤ (v_2606 : Int32).toInt ∧ (v_2606 : Int32).toInt ≤ ta.toInt) ∧ (2 = 0 ∨ (v_1792 : Int32).toInt < (v_2606 : Int32).toInt) ∧ (2 ≠ 1 ∨ (v_1792 : Int32).toInt + 1 < (v_2606 : Int32).toInt ∨ (v_2607 : Int64).toInt ≤ 26)) by omega), (show to.toInt ≤ (v_1792 : Int32).toInt by omega), trivial⟩, (⟨by rw [ht]; exact hP9, hD9⟩ : Wd D A _ t)⟩, hS.F ht⟩) hS.2.2 dX12_next_335
                        · have c_2647i := i_nle (x := ta.toInt) (y := v_2606.toInt) rfl rfl c_2647
                          refine lv_aload_n hx hb dX12_next_262 rfl (lv_at hl 0 rfl) ?_
                          refine va_get (ci := 12) (v := .ref t0) (C := RX12) (T := TX12) (N := 60) hx hb hts hw12 hown hK hP 0 rfl rfl 12 (by decide) (hts (.fieldLink RX12 35 "SmokeTuneModel" "tape" "[I") (List.mem_cons_of_mem _ (List.mem_append_left _ (List.mem_of_getElem? (i := 3) rfl)))) (fun _ h9 => h9) rfl dX12_next_263 ?_
                          refine lv_aload_n hx hb dX12_next_266 rfl (lv_at hl 0 rfl) ?_
                          refine va_get (ci := 12) (v := .int v_2606) (C := RX12) (T := TX12) (N := 60) hx hb hts hw12 hown hK hP 0 rfl rfl 15 (by decide) (hts (.fieldLink RX12 236 "SmokeTuneModel" "to" "I") (List.mem_cons_of_mem _ (List.mem_append_left _ (List.mem_of_getElem? (i := 0) rfl)))) (fun _ h9 => h9) rfl dX12_next_267 ?_
                          refine va_iald hx hb hK hP 1 0 rfl rfl (i_in rfl (by omega)) dX12_next_270 ?_
                          refine lv_topi (fun x_2648 ex_2648 => ?_)
                          have kx_2648 : ft (v_2606.toInt).toNat = x_2648 := by rw [ex_2648, i_clamp rfl]
                          refine pci (va_runS (As := [.int x_2648]) (rest := []) ⟨hx, hb, hml, hown, hts⟩ (v_isDigit l D K x_2648.toInt x_2648 H.size rfl) (va_cwS 1 hts gX12_next_X12_isDigit rfl rfl rfl (by decide +kernel) ⟨Nat.le_of_ble_eq_true rfl, Nat.le_of_ble_eq_true rfl⟩) (mkS hK hN (va_P.nil) (va_D.nil (A := fun _ => True))) rfl rfl hl.1 rfl (lv_room (Nat.le_of_ble_eq_true rfl)) dX12_next_271 ⟨Nat.le_of_ble_eq_true rfl, Nat.le_of_ble_eq_true rfl⟩) (fun r_2649 hw => ?_)
                          obtain ⟨hw, -⟩ := hw
                          rcases hw with ⟨rfl, h_2650, h_2651⟩ | ⟨rfl, h_2652⟩
                          · refine lv_if_eq (tgt := 335) hx hb dX12_next_274 (by decide) (fun c_2653 => absurd c_2653 (by decide)) (fun c_2653 => ?_)
                            refine lv_aload_n hx hb dX12_next_277 rfl (lv_at hl 0 rfl) ?_
                            refine lv_aload_n hx hb dX12_next_278 rfl (lv_at hl 0 rfl) ?_
                            refine va_get (ci := 12) (v := .long v_2607) (C := RX12) (T := TX12) (N := 60) hx hb hts hw12 hown hK hP 0 rfl rfl 17 (by decide) (hts (.fieldLink RX12 249 "SmokeTuneModel" "worth" "J") (List.mem_cons_of_mem _ (List.mem_append_left _ (List.mem_of_getElem? (i := 4) rfl)))) (fun _ h9 => h9) rfl dX12_next_279 ?_
                            refine lv_ldc2 (v := 1000000) hx hb hown (hts (.constantLong RX12 268 (1000000)) (List.mem_cons_of_mem _ (List.mem_append_left _ (List.mem_of_getElem? (i := 9) rfl)))) dX12_next_282 ?_
                            refine W.lcmp hx hb dX12_next_285 ?_
                            refine lv_if_le (tgt := 296) hx hb dX12_next_286 (by decide) (fun c_2654 => ?_) (fun c_2654 => ?_)
                            · have c_2654i := l_le (x := v_2607.toInt) (y := 1000000) rfl rfl ((lg_cmp_le v_2607 1000000).mp c_2654)
                              refine lv_aload_n hx hb dX12_next_296 rfl (lv_at hl 0 rfl) ?_
                              refine va_get (ci := 12) (v := .long v_2607) (C := RX12) (T := TX12) (N := 60) hx hb hts hw12 hown hK hP 0 rfl rfl 17 (by decide) (hts (.fieldLink RX12 249 "SmokeTuneModel" "worth" "J") (List.mem_cons_of_mem _ (List.mem_append_left _ (List.mem_of_getElem? (i := 4) rfl)))) (fun _ h9 => h9) rfl dX12_next_297 ?_
                              refine lv_ldc2 (v := 10) hx hb hown (hts (.constantLong RX12 219 (10)) (List.mem_cons_of_mem _ (List.mem_append_left _ (List.mem_of_getElem? (i := 10) rfl)))) dX12_next_300 ?_
                              refine lv_lmul hx hb dX12_next_303 ?_
                              refine lv_topl (fun x_2655 ex_2655 => ?_)
                              have hx_2655 : x_2655.toInt = (v_2607.toInt * 10) := by rw [ex_2655]; exact l_mul rfl (show (10 : Int64).toInt = 10 from rfl) (by omega)
                              refine lv_aload_n hx hb dX12_next_304 rfl (lv_at hl 0 rfl) ?_
                              refine va_get (ci := 12) (v := .ref t0) (C := RX12) (T := TX12) (N := 60) hx hb hts hw12 hown hK hP 0 rfl rfl 12 (by decide) (hts (.fieldLink RX12 35 "SmokeTuneModel" "tape" "[I") (List.mem_cons_of_mem _ (List.mem_append_left _ (List.mem_of_getElem? (i := 3) rfl)))) (fun _ h9 => h9) rfl dX12_next_305 ?_
                              refine lv_aload_n hx hb dX12_next_308 rfl (lv_at hl 0 rfl) ?_
                              refine va_get (ci := 12) (v := .int v_2606) (C := RX12) (T := TX12) (N := 60) hx hb hts hw12 hown hK hP 0 rfl rfl 15 (by decide) (hts (.fieldLink RX12 236 "SmokeTuneModel" "to" "I") (List.mem_cons_of_mem _ (List.mem_append_left _ (List.mem_of_getElem? (i := 0) rfl)))) (fun _ h9 => h9) rfl dX12_next_309 ?_
                              refine va_iald hx hb hK hP 1 0 rfl rfl (i_in rfl (by omega)) dX12_next_312 ?_
                              refine lv_topi (fun x_2656 ex_2656 => ?_)
                              obtain rfl : x_2656 = x_2648 := ex_2656.trans (by rw [i_clamp rfl]; exact kx_2648)
                              refine lv_i2l hx hb dX12_next_313 rfl ?_
                              refine lv_topl (fun x_2657 ex_2657 => ?_)
                              have hx_2657 : x_2657.toInt = x_2648.toInt := by rw [ex_2657]; exact i_wide rfl
                              refine lv_ladd hx hb dX12_next_314 ?_
                              refine lv_topl (fun x_2658 ex_2658 => ?_)
                              have hx_2658 : x_2658.toInt = ((v_2607.toInt * 10) + x_2648.toInt) := by rw [ex_2658]; exact l_add hx_2655 hx_2657 (by omega)
                              refine lv_ldc2 (v := 48) hx hb hown (hts (.constantLong RX12 270 (48)) (List.mem_cons_of_mem _ (List.mem_append_left _ (List.mem_of_getElem? (i := 11) rfl)))) dX12_next_315 ?_
                              refine lv_lsub hx hb dX12_next_318 ?_
                              refine lv_topl (fun x_2659 ex_2659 => ?_)
                              have hx_2659 : x_2659.toInt = (((v_2607.toInt * 10) + x_2648.toInt) - 48) := by rw [ex_2659]; exact l_sub hx_2658 (show (48 : Int64).toInt = 48 from rfl) (by omega)
                              refine va_put (ci := 12) (v := .long x_2659) (ty := .long) (C := RX12) (T := TX12) (N := 60) hx hb hts hw12 tyX12 tyX12_ok nmX12 hown hK hP hD hS 0 rfl rfl 17 (by decide) (hts (.fieldLink RX12 249 "SmokeTuneModel" "worth" "J") (List.mem_cons_of_mem _ (List.mem_append_left _ (List.mem_of_getElem? (i := 4) rfl)))) (fun _ h9 => h9) rfl (by decide +kernel) (by first | rfl | decide) (by first | rfl | decide) (Nat.le_of_ble_eq_true rfl) dX12_next_319 (fun H locs hP hD hS => ?_)
                              have hP : va_P D vwCl [(m0, .inr (12, [m_0, m_1, m_2, m_3, m_4, m_5, m_6, m_7, m_8, m_9, m_10, m_11, .ref t0, .int ta, .int v_1792, .int v_2606, .int 2, .long x_2659, m_18, m_19, m_20, m_21, m_22, m_23, m_24, m_25, m_26, m_27, m_28, m_29, m_30, m_31, m_32, m_33, m_34, m_35, m_36, m_37, m_38, m_39, m_40, m_41, m_42, m_43, m_44, m_45, m_46, m_47, m_48, m_49, m_50, m_51, m_52, m_53, m_54, m_55, m_56, m_57, m_58, m_59])), (t0, .inl (K 0, 400, .inl ft))] H := hP
                              have hD : va_D A [(m0, .inr (12, [m_0, m_1, m_2, m_3, m_4, m_5, m_6, m_7, m_8, m_9, m_10, m_11, .ref t0, .int ta, .int v_1792, .int v_2606, .int 2, .long x_2659, m_18, m_19, m_20, m_21, m_22, m_23, m_24, m_25, m_26, m_27, m_28, m_29, m_30, m_31, m_32, m_33, m_34, m_35, m_36, m_37, m_38, m_39, m_40, m_41, m_42, m_43, m_44, m_45, m_46, m_47, m_48, m_49, m_50, m_51, m_52, m_53, m_54, m_55, m_56, m_57, m_58, m_59])), (t0, .inl (K 0, 400, .inl ft))] := hD
                              refine lv_aload_n hx hb dX12_next_322 rfl (lv_at hl 0 rfl) ?_
                              refine lv_dup hx hb dX12_next_323 rfl ?_
                              refine va_get (ci := 12) (v := .int v_2606) (C := RX12) (T := TX12) (N := 60) hx hb hts hw12 hown hK hP 0 rfl rfl 15 (by decide) (hts (.fieldLink RX12 236 "SmokeTuneModel" "to" "I") (List.mem_cons_of_mem _ (List.mem_append_left _ (List.mem_of_getElem? (i := 0) rfl)))) (fun _ h9 => h9) rfl dX12_next_324 ?_
                              refine lv_iconst (v := 1) hx hb dX12_next_327 (by decide) ?_
                              refine lv_iadd hx hb dX12_next_328 ?_
                              refine lv_topi (fun x_2660 ex_2660 => ?_)
                              have hx_2660 : x_2660.toInt = (v_2606.toInt + 1) := by rw [ex_2660]; exact i_add rfl (show (1 : Int32).toInt = 1 from rfl) (by omega)
                              refine va_put (ci := 12) (v := .int x_2660) (ty := .int) (C := RX12) (T := TX12) (N := 60) hx hb hts hw12 tyX12 tyX12_ok nmX12 hown hK hP hD hS 0 rfl rfl 15 (by decide) (hts (.fieldLink RX12 236 "SmokeTuneModel" "to" "I") (List.mem_cons_of_mem _ (List.mem_append_left _ (List.mem_of_getElem? (i := 0) rfl)))) (fun _ h9 => h9) rfl (by decide +kernel) (by first | rfl | decide) (by first | rfl | decide) (Nat.le_of_ble_eq_true rfl) dX12_next_329 (fun H locs hP hD hS => ?_)
                              have hP : va_P D vwCl [(m0, .inr (12, [m_0, m_1, m_2, m_3, m_4, m_5, m_6, m_7, m_8, m_9, m_10, m_11, .ref t0, .int ta, .int v_1792, .int x_2660, .int 2, .long x_2659, m_18, m_19, m_20, m_21, m_22, m_23, m_24, m_25, m_26, m_27, m_28, m_29, m_30, m_31, m_32, m_33, m_34, m_35, m_36, m_37, m_38, m_39, m_40, m_41, m_42, m_43, m_44, m_45, m_46, m_47, m_48, m_49, m_50, m_51, m_52, m_53, m_54, m_55, m_56, m_57, m_58, m_59])), (t0, .inl (K 0, 400, .inl ft))] H := hP
                              have hD : va_D A [(m0, .inr (12, [m_0, m_1, m_2, m_3, m_4, m_5, m_6, m_7, m_8, m_9, m_10, m_11, .ref t0, .int ta, .int v_1792, .int x_2660, .int 2, .long x_2659, m_18, m_19, m_20, m_21, m_22, m_23, m_24, m_25, m_26, m_27, m_28, m_29, m_30, m_31, m_32, m_33, m_34, m_35, m_36, m_37, m_38, m_39, m_40, m_41, m_42, m_43, m_44, m_45, m_46, m_47, m_48, m_49, m_50, m_51, m_52, m_53, m_54, m_55, m_56, m_57, m_58, m_59])), (t0, .inl (K 0, 400, .inl ft))] := hD
                              refine lv_goto (tgt := 243) hx hb dX12_next_332 (by decide) ?_
                              exact ih_2645 x_2660 x_2659 (by rw [hx_2660]; omega) (by rw [hx_2659]; omega) (show v_1792.toInt < (x_2660 : Int32).toInt ∧ (x_2660 : Int32).toInt ≤ ta.toInt by omega) (by omega) _ _ hP hD hS ls (lv_sub hl [0] rfl)
                            · have c_2654i := l_nle (x := v_2607.toInt) (y := 1000000) rfl rfl (fun q => c_2654 ((lg_cmp_le v_2607 1000000).mpr q))
                              refine lv_aload_n hx hb dX12_next_289 rfl (lv_at hl 0 rfl) ?_
                              refine va_get (ci := 12) (v := .long v_2607) (C := RX12) (T := TX12) (N := 60) hx hb hts hw12 hown hK hP 0 rfl rfl 17 (by decide) (hts (.fieldLink RX12 249 "SmokeTuneModel" "worth" "J") (List.mem_cons_of_mem _ (List.mem_append_left _ (List.mem_of_getElem? (i := 4) rfl)))) (fun _ h9 => h9) rfl dX12_next_290 ?_
                              refine lv_goto (tgt := 319) hx hb dX12_next_293 (by decide) ?_
                              refine va_put (ci := 12) (v := .long v_2607) (ty := .long) (C := RX12) (T := TX12) (N := 60) hx hb hts hw12 tyX12 tyX12_ok nmX12 hown hK hP hD hS 0 rfl rfl 17 (by decide) (hts (.fieldLink RX12 249 "SmokeTuneModel" "worth" "J") (List.mem_cons_of_mem _ (List.mem_append_left _ (List.mem_of_getElem? (i := 4) rfl)))) (fun _ h9 => h9) rfl (by decide +kernel) (by first | rfl | decide) (by first | rfl | decide) (Nat.le_of_ble_eq_true rfl) dX12_next_319 (fun H locs hP hD hS => ?_)
                              have hP : va_P D vwCl [(m0, .inr (12, [m_0, m_1, m_2, m_3, m_4, m_5, m_6, m_7, m_8, m_9, m_10, m_11, .ref t0, .int ta, .int v_1792, .int v_2606, .int 2, .long v_2607, m_18, m_19, m_20, m_21, m_22, m_23, m_24, m_25, m_26, m_27, m_28, m_29, m_30, m_31, m_32, m_33, m_34, m_35, m_36, m_37, m_38, m_39, m_40, m_41, m_42, m_43, m_44, m_45, m_46, m_47, m_48, m_49, m_50, m_51, m_52, m_53, m_54, m_55, m_56, m_57, m_58, m_59])), (t0, .inl (K 0, 400, .inl ft))] H := hP
                              have hD : va_D A [(m0, .inr (12, [m_0, m_1, m_2, m_3, m_4, m_5, m_6, m_7, m_8, m_9, m_10, m_11, .ref t0, .int ta, .int v_1792, .int v_2606, .int 2, .long v_2607, m_18, m_19, m_20, m_21, m_22, m_23, m_24, m_25, m_26, m_27, m_28, m_29, m_30, m_31, m_32, m_33, m_34, m_35, m_36, m_37, m_38, m_39, m_40, m_41, m_42, m_43, m_44, m_45, m_46, m_47, m_48, m_49, m_50, m_51, m_52, m_53, m_54, m_55, m_56, m_57, m_58, m_59])), (t0, .inl (K 0, 400, .inl ft))] := hD
                              refine lv_aload_n hx hb dX12_next_322 rfl (lv_at hl 0 rfl) ?_
                              refine lv_dup hx hb dX12_next_323 rfl ?_
                              refine va_get (ci := 12) (v := .int v_2606) (C := RX12) (T := TX12) (N := 60) hx hb hts hw12 hown hK hP 0 rfl rfl 15 (by decide) (hts (.fieldLink RX12 236 "SmokeTuneModel" "to" "I") (List.mem_cons_of_mem _ (List.mem_append_left _ (List.mem_of_getElem? (i := 0) rfl)))) (fun _ h9 => h9) rfl dX12_next_324 ?_
                              refine lv_iconst (v := 1) hx hb dX12_next_327 (by decide) ?_
                              refine lv_iadd hx hb dX12_next_328 ?_
                              refine lv_topi (fun x_2661 ex_2661 => ?_)
                              have hx_2661 : x_2661.toInt = (v_2606.toInt + 1) := by rw [ex_2661]; exact i_add rfl (show (1 : Int32).toInt = 1 from rfl) (by omega)
                              refine va_put (ci := 12) (v := .int x_2661) (ty := .int) (C := RX12) (T := TX12) (N := 60) hx hb hts hw12 tyX12 tyX12_ok nmX12 hown hK hP hD hS 0 rfl rfl 15 (by decide) (hts (.fieldLink RX12 236 "SmokeTuneModel" "to" "I") (List.mem_cons_of_mem _ (List.mem_append_left _ (List.mem_of_getElem? (i := 0) rfl)))) (fun _ h9 => h9) rfl (by decide +kernel) (by first | rfl | decide) (by first | rfl | decide) (Nat.le_of_ble_eq_true rfl) dX12_next_329 (fun H locs hP hD hS => ?_)
                              have hP : va_P D vwCl [(m0, .inr (12, [m_0, m_1, m_2, m_3, m_4, m_5, m_6, m_7, m_8, m_9, m_10, m_11, .ref t0, .int ta, .int v_1792, .int x_2661, .int 2, .long v_2607, m_18, m_19, m_20, m_21, m_22, m_23, m_24, m_25, m_26, m_27, m_28, m_29, m_30, m_31, m_32, m_33, m_34, m_35, m_36, m_37, m_38, m_39, m_40, m_41, m_42, m_43, m_44, m_45, m_46, m_47, m_48, m_49, m_50, m_51, m_52, m_53, m_54, m_55, m_56, m_57, m_58, m_59])), (t0, .inl (K 0, 400, .inl ft))] H := hP
                              have hD : va_D A [(m0, .inr (12, [m_0, m_1, m_2, m_3, m_4, m_5, m_6, m_7, m_8, m_9, m_10, m_11, .ref t0, .int ta, .int v_1792, .int x_2661, .int 2, .long v_2607, m_18, m_19, m_20, m_21, m_22, m_23, m_24, m_25, m_26, m_27, m_28, m_29, m_30, m_31, m_32, m_33, m_34, m_35, m_36, m_37, m_38, m_39, m_40, m_41, m_42, m_43, m_44, m_45, m_46, m_47, m_48, m_49, m_50, m_51, m_52, m_53, m_54, m_55, m_56, m_57, m_58, m_59])), (t0, .inl (K 0, 400, .inl ft))] := hD
                              refine lv_goto (tgt := 243) hx hb dX12_next_332 (by decide) ?_
                              exact ih_2645 x_2661 v_2607 (by rw [hx_2661]; omega) (by omega) (show v_1792.toInt < (x_2661 : Int32).toInt ∧ (x_2661 : Int32).toInt ≤ ta.toInt by omega) (by omega) _ _ hP hD hS ls (lv_sub hl [0] rfl)
                          · refine lv_if_eq (tgt := 335) hx hb dX12_next_274 (by decide) (fun c_2662 => ?_) (fun c_2662 => absurd (by decide) c_2662)
                            subst hQ
                            have hP9 := hP.sub (ws' := [(m0, .inr (12, [m_0, m_1, m_2, m_3, m_4, m_5, m_6, m_7, m_8, m_9, m_10, m_11, .ref t0, .int ta, .int v_1792, .int v_2606, .int 2, .long v_2607, m_18, m_19, m_20, m_21, m_22, m_23, m_24, m_25, m_26, m_27, m_28, m_29, m_30, m_31, m_32, m_33, m_34, m_35, m_36, m_37, m_38, m_39, m_40, m_41, m_42, m_43, m_44, m_45, m_46, m_47, m_48, m_49, m_50, m_51, m_52, m_53, m_54, m_55, m_56, m_57, m_58, m_59])), (t0, .inl (K 0, 400, .inl ft))]) [0, 1] rfl
                            have hD9 := hD.sub (ws' := [(m0, .inr (12, [m_0, m_1, m_2, m_3, m_4, m_5, m_6, m_7, m_8, m_9, m_10, m_11, .ref t0, .int ta, .int v_1792, .int v_2606, .int 2, .long v_2607, m_18, m_19, m_20, m_21, m_22, m_23, m_24, m_25, m_26, m_27, m_28, m_29, m_30, m_31, m_32, m_33, m_34, m_35, m_36, m_37, m_38, m_39, m_40, m_41, m_42, m_43, m_44, m_45, m_46, m_47, m_48, m_49, m_50, m_51, m_52, m_53, m_54, m_55, m_56, m_57, m_58, m_59])), (t0, .inl (K 0, 400, .inl ft))]) [0, 1] (by decide) rfl
                            exact W.vret hx hb hr (fun t ht hW => ⟨⟨((fun _ => 0, fun _ => fun _ => 0, fun _ => fun _ => 0, fun i => match i with | 0 => v_1792 | 1 => v_2606 | _ => 2, fun i => match i with | _ => v_2607, fun _ => fun _ => none) : Su), rfl, ⟨(show 0 ≤ (v_1792 : Int32).toInt ∧ (v_1792 : Int32).toInt ≤ 400 by omega), (show 0 ≤ (v_2606 : Int32).toInt ∧ (v_2606 : Int32).toInt ≤ 401 by omega), (show 0 ≤ (2 : Int32).toInt ∧ (2 : Int32).toInt ≤ 3 by decide), (show ((0 ≤ (v_1792 : Int32).toInt ∧ (v_1792 : Int32).toInt ≤ (v_2606 : Int32).toInt ∧ (v_2606 : Int32).toInt ≤ ta.toInt) ∧ (2 = 0 ∨ (v_1792 : Int32).toInt < (v_2606 : Int32).toInt) ∧ (2 ≠ 1 ∨ (v_1792 : Int32).toInt + 1 < (v_2606 : Int32).toInt ∨ (v_2607 : Int64).toInt ≤ 26)) by omega), (show to.toInt ≤ (v_1792 : Int32).toInt by omega), trivial⟩, (⟨by rw [ht]; exact hP9, hD9⟩ : Wd D A _ t)⟩, hS.F ht⟩) hS.2.2 dX12_next_335
                    exact lp_2644 ((ta.toInt - (x_2552 : Int32).toInt : Int).toNat + 1) x_2552 x_2551 (by rw [hx_2552]; omega) (by rw [hx_2551]; omega) (show v_1792.toInt < (x_2552 : Int32).toInt ∧ (x_2552 : Int32).toInt ≤ ta.toInt by omega) (Nat.lt_succ_self _) _ _ hP hD hS ls (lv_sub hl [0] rfl)
                  · exfalso; omega
              · refine lv_if_eq (tgt := 113) hx hb dX12_next_106 (by decide) (fun c_2663 => ?_) (fun c_2663 => absurd (by decide) c_2663)
                refine lv_iconst (v := 3) hx hb dX12_next_113 (by decide) ?_
                refine va_put (ci := 12) (v := .int 3) (ty := .int) (C := RX12) (T := TX12) (N := 60) hx hb hts hw12 tyX12 tyX12_ok nmX12 hown hK hP hD hS 0 rfl rfl 16 (by decide) (hts (.fieldLink RX12 259 "SmokeTuneModel" "sort" "I") (List.mem_cons_of_mem _ (List.mem_append_left _ (List.mem_of_getElem? (i := 5) rfl)))) (fun _ h9 => h9) rfl (by decide +kernel) (by first | rfl | decide) (by first | rfl | decide) (Nat.le_of_ble_eq_true rfl) dX12_next_114 (fun H locs hP hD hS => ?_)
                have hP : va_P D vwCl [(m0, .inr (12, [m_0, m_1, m_2, m_3, m_4, m_5, m_6, m_7, m_8, m_9, m_10, m_11, .ref t0, .int ta, .int v_1792, .int v_1792, .int 3, .long 0, m_18, m_19, m_20, m_21, m_22, m_23, m_24, m_25, m_26, m_27, m_28, m_29, m_30, m_31, m_32, m_33, m_34, m_35, m_36, m_37, m_38, m_39, m_40, m_41, m_42, m_43, m_44, m_45, m_46, m_47, m_48, m_49, m_50, m_51, m_52, m_53, m_54, m_55, m_56, m_57, m_58, m_59])), (t0, .inl (K 0, 400, .inl ft))] H := hP
                have hD : va_D A [(m0, .inr (12, [m_0, m_1, m_2, m_3, m_4, m_5, m_6, m_7, m_8, m_9, m_10, m_11, .ref t0, .int ta, .int v_1792, .int v_1792, .int 3, .long 0, m_18, m_19, m_20, m_21, m_22, m_23, m_24, m_25, m_26, m_27, m_28, m_29, m_30, m_31, m_32, m_33, m_34, m_35, m_36, m_37, m_38, m_39, m_40, m_41, m_42, m_43, m_44, m_45, m_46, m_47, m_48, m_49, m_50, m_51, m_52, m_53, m_54, m_55, m_56, m_57, m_58, m_59])), (t0, .inl (K 0, 400, .inl ft))] := hD
                refine lv_aload_n hx hb dX12_next_117 rfl (lv_at hl 0 rfl) ?_
                refine va_get (ci := 12) (v := .int 3) (C := RX12) (T := TX12) (N := 60) hx hb hts hw12 hown hK hP 0 rfl rfl 16 (by decide) (hts (.fieldLink RX12 259 "SmokeTuneModel" "sort" "I") (List.mem_cons_of_mem _ (List.mem_append_left _ (List.mem_of_getElem? (i := 5) rfl)))) (fun _ h9 => h9) rfl dX12_next_118 ?_
                refine lv_iconst (v := 3) hx hb dX12_next_121 (by decide) ?_
                refine lv_icmp_ne (tgt := 149) hx hb dX12_next_122 (by decide) (fun c_2664 => absurd (by decide) c_2664) (fun c_2664 => ?_)
                refine lv_aload_n hx hb dX12_next_125 rfl (lv_at hl 0 rfl) ?_
                refine lv_aload_n hx hb dX12_next_126 rfl (lv_at hl 0 rfl) ?_
                refine va_get (ci := 12) (v := .ref t0) (C := RX12) (T := TX12) (N := 60) hx hb hts hw12 hown hK hP 0 rfl rfl 12 (by decide) (hts (.fieldLink RX12 35 "SmokeTuneModel" "tape" "[I") (List.mem_cons_of_mem _ (List.mem_append_left _ (List.mem_of_getElem? (i := 3) rfl)))) (fun _ h9 => h9) rfl dX12_next_127 ?_
                refine lv_aload_n hx hb dX12_next_130 rfl (lv_at hl 0 rfl) ?_
                refine va_get (ci := 12) (v := .int v_1792) (C := RX12) (T := TX12) (N := 60) hx hb hts hw12 hown hK hP 0 rfl rfl 14 (by decide) (hts (.fieldLink RX12 246 "SmokeTuneModel" "from" "I") (List.mem_cons_of_mem _ (List.mem_append_left _ (List.mem_of_getElem? (i := 1) rfl)))) (fun _ h9 => h9) rfl dX12_next_131 ?_
                refine va_iald hx hb hK hP 1 0 rfl rfl (i_in rfl (by omega)) dX12_next_134 ?_
                refine lv_topi (fun x_2665 ex_2665 => ?_)
                obtain rfl : x_2665 = x_2238 := ex_2665.trans (by rw [i_clamp rfl]; exact kx_2238)
                refine lv_i2l hx hb dX12_next_135 rfl ?_
                refine lv_topl (fun x_2666 ex_2666 => ?_)
                have hx_2666 : x_2666.toInt = x_2238.toInt := by rw [ex_2666]; exact i_wide rfl
                have hbx_2666 := i_rng (a := x_2238) rfl
                refine va_put (ci := 12) (v := .long x_2666) (ty := .long) (C := RX12) (T := TX12) (N := 60) hx hb hts hw12 tyX12 tyX12_ok nmX12 hown hK hP hD hS 0 rfl rfl 17 (by decide) (hts (.fieldLink RX12 249 "SmokeTuneModel" "worth" "J") (List.mem_cons_of_mem _ (List.mem_append_left _ (List.mem_of_getElem? (i := 4) rfl)))) (fun _ h9 => h9) rfl (by decide +kernel) (by first | rfl | decide) (by first | rfl | decide) (Nat.le_of_ble_eq_true rfl) dX12_next_136 (fun H locs hP hD hS => ?_)
                have hP : va_P D vwCl [(m0, .inr (12, [m_0, m_1, m_2, m_3, m_4, m_5, m_6, m_7, m_8, m_9, m_10, m_11, .ref t0, .int ta, .int v_1792, .int v_1792, .int 3, .long x_2666, m_18, m_19, m_20, m_21, m_22, m_23, m_24, m_25, m_26, m_27, m_28, m_29, m_30, m_31, m_32, m_33, m_34, m_35, m_36, m_37, m_38, m_39, m_40, m_41, m_42, m_43, m_44, m_45, m_46, m_47, m_48, m_49, m_50, m_51, m_52, m_53, m_54, m_55, m_56, m_57, m_58, m_59])), (t0, .inl (K 0, 400, .inl ft))] H := hP
                have hD : va_D A [(m0, .inr (12, [m_0, m_1, m_2, m_3, m_4, m_5, m_6, m_7, m_8, m_9, m_10, m_11, .ref t0, .int ta, .int v_1792, .int v_1792, .int 3, .long x_2666, m_18, m_19, m_20, m_21, m_22, m_23, m_24, m_25, m_26, m_27, m_28, m_29, m_30, m_31, m_32, m_33, m_34, m_35, m_36, m_37, m_38, m_39, m_40, m_41, m_42, m_43, m_44, m_45, m_46, m_47, m_48, m_49, m_50, m_51, m_52, m_53, m_54, m_55, m_56, m_57, m_58, m_59])), (t0, .inl (K 0, 400, .inl ft))] := hD
                refine lv_aload_n hx hb dX12_next_139 rfl (lv_at hl 0 rfl) ?_
                refine lv_dup hx hb dX12_next_140 rfl ?_
                refine va_get (ci := 12) (v := .int v_1792) (C := RX12) (T := TX12) (N := 60) hx hb hts hw12 hown hK hP 0 rfl rfl 15 (by decide) (hts (.fieldLink RX12 236 "SmokeTuneModel" "to" "I") (List.mem_cons_of_mem _ (List.mem_append_left _ (List.mem_of_getElem? (i := 0) rfl)))) (fun _ h9 => h9) rfl dX12_next_141 ?_
                refine lv_iconst (v := 1) hx hb dX12_next_144 (by decide) ?_
                refine lv_iadd hx hb dX12_next_145 ?_
                refine lv_topi (fun x_2667 ex_2667 => ?_)
                have hx_2667 : x_2667.toInt = (v_1792.toInt + 1) := by rw [ex_2667]; exact i_add rfl (show (1 : Int32).toInt = 1 from rfl) (by omega)
                refine va_put (ci := 12) (v := .int x_2667) (ty := .int) (C := RX12) (T := TX12) (N := 60) hx hb hts hw12 tyX12 tyX12_ok nmX12 hown hK hP hD hS 0 rfl rfl 15 (by decide) (hts (.fieldLink RX12 236 "SmokeTuneModel" "to" "I") (List.mem_cons_of_mem _ (List.mem_append_left _ (List.mem_of_getElem? (i := 0) rfl)))) (fun _ h9 => h9) rfl (by decide +kernel) (by first | rfl | decide) (by first | rfl | decide) (Nat.le_of_ble_eq_true rfl) dX12_next_146 (fun H locs hP hD hS => ?_)
                have hP : va_P D vwCl [(m0, .inr (12, [m_0, m_1, m_2, m_3, m_4, m_5, m_6, m_7, m_8, m_9, m_10, m_11, .ref t0, .int ta, .int v_1792, .int x_2667, .int 3, .long x_2666, m_18, m_19, m_20, m_21, m_22, m_23, m_24, m_25, m_26, m_27, m_28, m_29, m_30, m_31, m_32, m_33, m_34, m_35, m_36, m_37, m_38, m_39, m_40, m_41, m_42, m_43, m_44, m_45, m_46, m_47, m_48, m_49, m_50, m_51, m_52, m_53, m_54, m_55, m_56, m_57, m_58, m_59])), (t0, .inl (K 0, 400, .inl ft))] H := hP
                have hD : va_D A [(m0, .inr (12, [m_0, m_1, m_2, m_3, m_4, m_5, m_6, m_7, m_8, m_9, m_10, m_11, .ref t0, .int ta, .int v_1792, .int x_2667, .int 3, .long x_2666, m_18, m_19, m_20, m_21, m_22, m_23, m_24, m_25, m_26, m_27, m_28, m_29, m_30, m_31, m_32, m_33, m_34, m_35, m_36, m_37, m_38, m_39, m_40, m_41, m_42, m_43, m_44, m_45, m_46, m_47, m_48, m_49, m_50, m_51, m_52, m_53, m_54, m_55, m_56, m_57, m_58, m_59])), (t0, .inl (K 0, 400, .inl ft))] := hD
                refine lv_aload_n hx hb dX12_next_149 rfl (lv_at hl 0 rfl) ?_
                refine va_get (ci := 12) (v := .int 3) (C := RX12) (T := TX12) (N := 60) hx hb hts hw12 hown hK hP 0 rfl rfl 16 (by decide) (hts (.fieldLink RX12 259 "SmokeTuneModel" "sort" "I") (List.mem_cons_of_mem _ (List.mem_append_left _ (List.mem_of_getElem? (i := 5) rfl)))) (fun _ h9 => h9) rfl dX12_next_150 ?_
                refine lv_iconst (v := 1) hx hb dX12_next_153 (by decide) ?_
                refine lv_icmp_ne (tgt := 243) hx hb dX12_next_154 (by decide) (fun c_2668 => ?_) (fun c_2668 => absurd c_2668 (by decide))
                refine lv_aload_n hx hb dX12_next_243 rfl (lv_at hl 0 rfl) ?_
                refine va_get (ci := 12) (v := .int 3) (C := RX12) (T := TX12) (N := 60) hx hb hts hw12 hown hK hP 0 rfl rfl 16 (by decide) (hts (.fieldLink RX12 259 "SmokeTuneModel" "sort" "I") (List.mem_cons_of_mem _ (List.mem_append_left _ (List.mem_of_getElem? (i := 5) rfl)))) (fun _ h9 => h9) rfl dX12_next_244 ?_
                refine lv_iconst (v := 2) hx hb dX12_next_247 (by decide) ?_
                refine lv_icmp_ne (tgt := 335) hx hb dX12_next_248 (by decide) (fun c_2669 => ?_) (fun c_2669 => absurd c_2669 (by decide))
                subst hQ
                have hP9 := hP.sub (ws' := [(m0, .inr (12, [m_0, m_1, m_2, m_3, m_4, m_5, m_6, m_7, m_8, m_9, m_10, m_11, .ref t0, .int ta, .int v_1792, .int x_2667, .int 3, .long x_2666, m_18, m_19, m_20, m_21, m_22, m_23, m_24, m_25, m_26, m_27, m_28, m_29, m_30, m_31, m_32, m_33, m_34, m_35, m_36, m_37, m_38, m_39, m_40, m_41, m_42, m_43, m_44, m_45, m_46, m_47, m_48, m_49, m_50, m_51, m_52, m_53, m_54, m_55, m_56, m_57, m_58, m_59])), (t0, .inl (K 0, 400, .inl ft))]) [0, 1] rfl
                have hD9 := hD.sub (ws' := [(m0, .inr (12, [m_0, m_1, m_2, m_3, m_4, m_5, m_6, m_7, m_8, m_9, m_10, m_11, .ref t0, .int ta, .int v_1792, .int x_2667, .int 3, .long x_2666, m_18, m_19, m_20, m_21, m_22, m_23, m_24, m_25, m_26, m_27, m_28, m_29, m_30, m_31, m_32, m_33, m_34, m_35, m_36, m_37, m_38, m_39, m_40, m_41, m_42, m_43, m_44, m_45, m_46, m_47, m_48, m_49, m_50, m_51, m_52, m_53, m_54, m_55, m_56, m_57, m_58, m_59])), (t0, .inl (K 0, 400, .inl ft))]) [0, 1] (by decide) rfl
                exact W.vret hx hb hr (fun t ht hW => ⟨⟨((fun _ => 0, fun _ => fun _ => 0, fun _ => fun _ => 0, fun i => match i with | 0 => v_1792 | 1 => x_2667 | _ => 3, fun i => match i with | _ => x_2666, fun _ => fun _ => none) : Su), rfl, ⟨(show 0 ≤ (v_1792 : Int32).toInt ∧ (v_1792 : Int32).toInt ≤ 400 by omega), (show 0 ≤ (x_2667 : Int32).toInt ∧ (x_2667 : Int32).toInt ≤ 401 by rw [hx_2667]; omega), (show 0 ≤ (3 : Int32).toInt ∧ (3 : Int32).toInt ≤ 3 by decide), (show ((0 ≤ (v_1792 : Int32).toInt ∧ (v_1792 : Int32).toInt ≤ (x_2667 : Int32).toInt ∧ (x_2667 : Int32).toInt ≤ ta.toInt) ∧ (3 = 0 ∨ (v_1792 : Int32).toInt < (x_2667 : Int32).toInt) ∧ (3 ≠ 1 ∨ (v_1792 : Int32).toInt + 1 < (x_2667 : Int32).toInt ∨ (x_2666 : Int64).toInt ≤ 26)) by omega), (show to.toInt ≤ (v_1792 : Int32).toInt by omega), trivial⟩, (⟨by rw [ht]; exact hP9, hD9⟩ : Wd D A _ t)⟩, hS.F ht⟩) hS.2.2 dX12_next_335
          · have c_2240i := i_eq (x := v_1792.toInt) (y := ta.toInt) rfl rfl c_2240
            refine lv_iconst (v := 0) hx hb dX12_next_71 (by decide) ?_
            refine lv_goto (tgt := 114) hx hb dX12_next_72 (by decide) ?_
            refine va_put (ci := 12) (v := .int 0) (ty := .int) (C := RX12) (T := TX12) (N := 60) hx hb hts hw12 tyX12 tyX12_ok nmX12 hown hK hP hD hS 0 rfl rfl 16 (by decide) (hts (.fieldLink RX12 259 "SmokeTuneModel" "sort" "I") (List.mem_cons_of_mem _ (List.mem_append_left _ (List.mem_of_getElem? (i := 5) rfl)))) (fun _ h9 => h9) rfl (by decide +kernel) (by first | rfl | decide) (by first | rfl | decide) (Nat.le_of_ble_eq_true rfl) dX12_next_114 (fun H locs hP hD hS => ?_)
            have hP : va_P D vwCl [(m0, .inr (12, [m_0, m_1, m_2, m_3, m_4, m_5, m_6, m_7, m_8, m_9, m_10, m_11, .ref t0, .int ta, .int v_1792, .int v_1792, .int 0, .long 0, m_18, m_19, m_20, m_21, m_22, m_23, m_24, m_25, m_26, m_27, m_28, m_29, m_30, m_31, m_32, m_33, m_34, m_35, m_36, m_37, m_38, m_39, m_40, m_41, m_42, m_43, m_44, m_45, m_46, m_47, m_48, m_49, m_50, m_51, m_52, m_53, m_54, m_55, m_56, m_57, m_58, m_59])), (t0, .inl (K 0, 400, .inl ft))] H := hP
            have hD : va_D A [(m0, .inr (12, [m_0, m_1, m_2, m_3, m_4, m_5, m_6, m_7, m_8, m_9, m_10, m_11, .ref t0, .int ta, .int v_1792, .int v_1792, .int 0, .long 0, m_18, m_19, m_20, m_21, m_22, m_23, m_24, m_25, m_26, m_27, m_28, m_29, m_30, m_31, m_32, m_33, m_34, m_35, m_36, m_37, m_38, m_39, m_40, m_41, m_42, m_43, m_44, m_45, m_46, m_47, m_48, m_49, m_50, m_51, m_52, m_53, m_54, m_55, m_56, m_57, m_58, m_59])), (t0, .inl (K 0, 400, .inl ft))] := hD
            refine lv_aload_n hx hb dX12_next_117 rfl (lv_at hl 0 rfl) ?_
            refine va_get (ci := 12) (v := .int 0) (C := RX12) (T := TX12) (N := 60) hx hb hts hw12 hown hK hP 0 rfl rfl 16 (by decide) (hts (.fieldLink RX12 259 "SmokeTuneModel" "sort" "I") (List.mem_cons_of_mem _ (List.mem_append_left _ (List.mem_of_getElem? (i := 5) rfl)))) (fun _ h9 => h9) rfl dX12_next_118 ?_
            refine lv_iconst (v := 3) hx hb dX12_next_121 (by decide) ?_
            refine lv_icmp_ne (tgt := 149) hx hb dX12_next_122 (by decide) (fun c_2670 => ?_) (fun c_2670 => absurd c_2670 (by decide))
            refine lv_aload_n hx hb dX12_next_149 rfl (lv_at hl 0 rfl) ?_
            refine va_get (ci := 12) (v := .int 0) (C := RX12) (T := TX12) (N := 60) hx hb hts hw12 hown hK hP 0 rfl rfl 16 (by decide) (hts (.fieldLink RX12 259 "SmokeTuneModel" "sort" "I") (List.mem_cons_of_mem _ (List.mem_append_left _ (List.mem_of_getElem? (i := 5) rfl)))) (fun _ h9 => h9) rfl dX12_next_150 ?_
            refine lv_iconst (v := 1) hx hb dX12_next_153 (by decide) ?_
            refine lv_icmp_ne (tgt := 243) hx hb dX12_next_154 (by decide) (fun c_2671 => ?_) (fun c_2671 => absurd c_2671 (by decide))
            refine lv_aload_n hx hb dX12_next_243 rfl (lv_at hl 0 rfl) ?_
            refine va_get (ci := 12) (v := .int 0) (C := RX12) (T := TX12) (N := 60) hx hb hts hw12 hown hK hP 0 rfl rfl 16 (by decide) (hts (.fieldLink RX12 259 "SmokeTuneModel" "sort" "I") (List.mem_cons_of_mem _ (List.mem_append_left _ (List.mem_of_getElem? (i := 5) rfl)))) (fun _ h9 => h9) rfl dX12_next_244 ?_
            refine lv_iconst (v := 2) hx hb dX12_next_247 (by decide) ?_
            refine lv_icmp_ne (tgt := 335) hx hb dX12_next_248 (by decide) (fun c_2672 => ?_) (fun c_2672 => absurd c_2672 (by decide))
            subst hQ
            have hP9 := hP.sub (ws' := [(m0, .inr (12, [m_0, m_1, m_2, m_3, m_4, m_5, m_6, m_7, m_8, m_9, m_10, m_11, .ref t0, .int ta, .int v_1792, .int v_1792, .int 0, .long 0, m_18, m_19, m_20, m_21, m_22, m_23, m_24, m_25, m_26, m_27, m_28, m_29, m_30, m_31, m_32, m_33, m_34, m_35, m_36, m_37, m_38, m_39, m_40, m_41, m_42, m_43, m_44, m_45, m_46, m_47, m_48, m_49, m_50, m_51, m_52, m_53, m_54, m_55, m_56, m_57, m_58, m_59])), (t0, .inl (K 0, 400, .inl ft))]) [0, 1] rfl
            have hD9 := hD.sub (ws' := [(m0, .inr (12, [m_0, m_1, m_2, m_3, m_4, m_5, m_6, m_7, m_8, m_9, m_10, m_11, .ref t0, .int ta, .int v_1792, .int v_1792, .int 0, .long 0, m_18, m_19, m_20, m_21, m_22, m_23, m_24, m_25, m_26, m_27, m_28, m_29, m_30, m_31, m_32, m_33, m_34, m_35, m_36, m_37, m_38, m_39, m_40, m_41, m_42, m_43, m_44, m_45, m_46, m_47, m_48, m_49, m_50, m_51, m_52, m_53, m_54, m_55, m_56, m_57, m_58, m_59])), (t0, .inl (K 0, 400, .inl ft))]) [0, 1] (by decide) rfl
            exact W.vret hx hb hr (fun t ht hW => ⟨⟨((fun _ => 0, fun _ => fun _ => 0, fun _ => fun _ => 0, fun i => match i with | 0 => v_1792 | 1 => v_1792 | _ => 0, fun i => match i with | _ => 0, fun _ => fun _ => none) : Su), rfl, ⟨(show 0 ≤ (v_1792 : Int32).toInt ∧ (v_1792 : Int32).toInt ≤ 400 by omega), (show 0 ≤ (v_1792 : Int32).toInt ∧ (v_1792 : Int32).toInt ≤ 401 by omega), (show 0 ≤ (0 : Int32).toInt ∧ (0 : Int32).toInt ≤ 3 by decide), (show ((0 ≤ (v_1792 : Int32).toInt ∧ (v_1792 : Int32).toInt ≤ (v_1792 : Int32).toInt ∧ (v_1792 : Int32).toInt ≤ ta.toInt) ∧ (0 = 0 ∨ (v_1792 : Int32).toInt < (v_1792 : Int32).toInt) ∧ (0 ≠ 1 ∨ (v_1792 : Int32).toInt + 1 < (v_1792 : Int32).toInt ∨ 0 ≤ 26)) by omega), (show to.toInt ≤ (v_1792 : Int32).toInt by omega), trivial⟩, (⟨by rw [ht]; exact hP9, hD9⟩ : Wd D A _ t)⟩, hS.F ht⟩) hS.2.2 dX12_next_335
        · have c_2239i := i_eq (x := x_2238.toInt) (y := 32) rfl rfl c_2239
          refine lv_aload_n hx hb dX12_next_33 rfl (lv_at hl 0 rfl) ?_
          refine lv_dup hx hb dX12_next_34 rfl ?_
          refine va_get (ci := 12) (v := .int v_1792) (C := RX12) (T := TX12) (N := 60) hx hb hts hw12 hown hK hP 0 rfl rfl 14 (by decide) (hts (.fieldLink RX12 246 "SmokeTuneModel" "from" "I") (List.mem_cons_of_mem _ (List.mem_append_left _ (List.mem_of_getElem? (i := 1) rfl)))) (fun _ h9 => h9) rfl dX12_next_35 ?_
          refine lv_iconst (v := 1) hx hb dX12_next_38 (by decide) ?_
          refine lv_iadd hx hb dX12_next_39 ?_
          refine lv_topi (fun x_2673 ex_2673 => ?_)
          have hx_2673 : x_2673.toInt = (v_1792.toInt + 1) := by rw [ex_2673]; exact i_add rfl (show (1 : Int32).toInt = 1 from rfl) (by omega)
          refine va_put (ci := 12) (v := .int x_2673) (ty := .int) (C := RX12) (T := TX12) (N := 60) hx hb hts hw12 tyX12 tyX12_ok nmX12 hown hK hP hD hS 0 rfl rfl 14 (by decide) (hts (.fieldLink RX12 246 "SmokeTuneModel" "from" "I") (List.mem_cons_of_mem _ (List.mem_append_left _ (List.mem_of_getElem? (i := 1) rfl)))) (fun _ h9 => h9) rfl (by decide +kernel) (by first | rfl | decide) (by first | rfl | decide) (Nat.le_of_ble_eq_true rfl) dX12_next_40 (fun H locs hP hD hS => ?_)
          have hP : va_P D vwCl [(m0, .inr (12, [m_0, m_1, m_2, m_3, m_4, m_5, m_6, m_7, m_8, m_9, m_10, m_11, .ref t0, .int ta, .int x_2673, .int to, .int so, .long wo, m_18, m_19, m_20, m_21, m_22, m_23, m_24, m_25, m_26, m_27, m_28, m_29, m_30, m_31, m_32, m_33, m_34, m_35, m_36, m_37, m_38, m_39, m_40, m_41, m_42, m_43, m_44, m_45, m_46, m_47, m_48, m_49, m_50, m_51, m_52, m_53, m_54, m_55, m_56, m_57, m_58, m_59])), (t0, .inl (K 0, 400, .inl ft))] H := hP
          have hD : va_D A [(m0, .inr (12, [m_0, m_1, m_2, m_3, m_4, m_5, m_6, m_7, m_8, m_9, m_10, m_11, .ref t0, .int ta, .int x_2673, .int to, .int so, .long wo, m_18, m_19, m_20, m_21, m_22, m_23, m_24, m_25, m_26, m_27, m_28, m_29, m_30, m_31, m_32, m_33, m_34, m_35, m_36, m_37, m_38, m_39, m_40, m_41, m_42, m_43, m_44, m_45, m_46, m_47, m_48, m_49, m_50, m_51, m_52, m_53, m_54, m_55, m_56, m_57, m_58, m_59])), (t0, .inl (K 0, 400, .inl ft))] := hD
          refine lv_goto (tgt := 8) hx hb dX12_next_43 (by decide) ?_
          exact ih_1803 x_2673 (by rw [hx_2673]; omega) (show to.toInt ≤ (x_2673 : Int32).toInt ∧ (x_2673 : Int32).toInt ≤ ta.toInt by omega) (by omega) _ _ hP hD hS ls (lv_sub hl [0] rfl)
  exact lp_1802 ((ta.toInt - (to : Int32).toInt : Int).toNat + 1) to (by omega) (show to.toInt ≤ (to : Int32).toInt ∧ (to : Int32).toInt ≤ ta.toInt by omega) (Nat.lt_succ_self _) _ _ hP hD hS ls (lv_sub hl [0] rfl)
set_option maxHeartbeats 4000000 in
set_option maxRecDepth 100000 in
theorem v_begin (l : Launch) (D : va_G) (K : Nat → ClassId) (m0 : Nat) (m_0 : Value) (m_1 : Value) (m_2 : Value) (m_3 : Value) (m_4 : Value) (m_5 : Value) (m_6 : Value) (m_7 : Value) (m_8 : Value) (m_9 : Value) (m_10 : Value) (m_11 : Value) (t0 : Nat) (ta : Int32) (fr : Int32) (to : Int32) (so : Int32) (wo : Int64) (fau : Int32) (bd : Int32) (m_20 : Value) (m_21 : Value) (m_22 : Value) (m_23 : Value) (m_24 : Value) (m_25 : Value) (m_26 : Value) (m_27 : Value) (m_28 : Value) (m_29 : Value) (m_30 : Value) (m_31 : Value) (m_32 : Value) (m_33 : Value) (m_34 : Value) (m_35 : Value) (m_36 : Value) (m_37 : Value) (m_38 : Value) (m_39 : Value) (m_40 : Value) (m_41 : Value) (m_42 : Value) (m_43 : Value) (m_44 : Value) (m_45 : Value) (m_46 : Value) (m_47 : Value) (m_48 : Value) (m_49 : Value) (m_50 : Value) (m_51 : Value) (m_52 : Value) (m_53 : Value) (m_54 : Value) (m_55 : Value) (m_56 : Value) (m_57 : Value) (m_58 : Value) (m_59 : Value) (ft : Nat → Int32) (sz : Nat) (zta : 0 ≤ ta.toInt ∧ ta.toInt ≤ 400) : Met l yX12_begin wsX12_begin ({ frames := 2, cells := 0, slots := 0, locals := 40 }) (va_Pc [.ref m0] (Pre D K [(m0, .inr (12, [m_0, m_1, m_2, m_3, m_4, m_5, m_6, m_7, m_8, m_9, m_10, m_11, .ref t0, .int ta, .int fr, .int to, .int so, .long wo, .int fau, .int bd, m_20, m_21, m_22, m_23, m_24, m_25, m_26, m_27, m_28, m_29, m_30, m_31, m_32, m_33, m_34, m_35, m_36, m_37, m_38, m_39, m_40, m_41, m_42, m_43, m_44, m_45, m_46, m_47, m_48, m_49, m_50, m_51, m_52, m_53, m_54, m_55, m_56, m_57, m_58, m_59])), (t0, .inl (K 0, 400, .inl ft))] sz)) (va_Qv (S := Su) (fun (u : Su) => (0 ≤ (u.2.2.2.1 0).toInt ∧ (u.2.2.2.1 0).toInt ≤ 400) ∧ (0 ≤ (u.2.2.2.1 1).toInt ∧ (u.2.2.2.1 1).toInt ≤ 400) ∧ (0 ≤ (u.2.2.2.1 2).toInt ∧ (u.2.2.2.1 2).toInt ≤ 3) ∧ (((0 ≤ (u.2.2.2.1 0).toInt ∧ (u.2.2.2.1 0).toInt ≤ (u.2.2.2.1 1).toInt ∧ (u.2.2.2.1 1).toInt ≤ ta.toInt) ∧ ((u.2.2.2.1 2).toInt = 0 ∨ (u.2.2.2.1 0).toInt < (u.2.2.2.1 1).toInt) ∧ ((u.2.2.2.1 2).toInt ≠ 1 ∨ (u.2.2.2.1 0).toInt + 1 < (u.2.2.2.1 1).toInt ∨ (u.2.2.2.2.1 0).toInt ≤ 26))) ∧ True) (fun u t => Wd D (va_A [(m0, .inr (12, [m_0, m_1, m_2, m_3, m_4, m_5, m_6, m_7, m_8, m_9, m_10, m_11, .ref t0, .int ta, .int fr, .int to, .int so, .long wo, .int fau, .int bd, m_20, m_21, m_22, m_23, m_24, m_25, m_26, m_27, m_28, m_29, m_30, m_31, m_32, m_33, m_34, m_35, m_36, m_37, m_38, m_39, m_40, m_41, m_42, m_43, m_44, m_45, m_46, m_47, m_48, m_49, m_50, m_51, m_52, m_53, m_54, m_55, m_56, m_57, m_58, m_59])), (t0, .inl (K 0, 400, .inl ft))] sz) ((fun u => [(m0, .inr (12, [m_0, m_1, m_2, m_3, m_4, m_5, m_6, m_7, m_8, m_9, m_10, m_11, .ref t0, .int ta, .int (u.2.2.2.1 0), .int (u.2.2.2.1 1), .int (u.2.2.2.1 2), .long (u.2.2.2.2.1 0), .int (-1), .int 0, m_20, m_21, m_22, m_23, m_24, m_25, m_26, m_27, m_28, m_29, m_30, m_31, m_32, m_33, m_34, m_35, m_36, m_37, m_38, m_39, m_40, m_41, m_42, m_43, m_44, m_45, m_46, m_47, m_48, m_49, m_50, m_51, m_52, m_53, m_54, m_55, m_56, m_57, m_58, m_59])), (t0, .inl (K 0, 400, .inl ft))]) u) t) (va_A [(m0, .inr (12, [m_0, m_1, m_2, m_3, m_4, m_5, m_6, m_7, m_8, m_9, m_10, m_11, .ref t0, .int ta, .int fr, .int to, .int so, .long wo, .int fau, .int bd, m_20, m_21, m_22, m_23, m_24, m_25, m_26, m_27, m_28, m_29, m_30, m_31, m_32, m_33, m_34, m_35, m_36, m_37, m_38, m_39, m_40, m_41, m_42, m_43, m_44, m_45, m_46, m_47, m_48, m_49, m_50, m_51, m_52, m_53, m_54, m_55, m_56, m_57, m_58, m_59])), (t0, .inl (K 0, 400, .inl ft))] sz)) 0 0 (va_A [(m0, .inr (12, [m_0, m_1, m_2, m_3, m_4, m_5, m_6, m_7, m_8, m_9, m_10, m_11, .ref t0, .int ta, .int fr, .int to, .int so, .long wo, .int fau, .int bd, m_20, m_21, m_22, m_23, m_24, m_25, m_26, m_27, m_28, m_29, m_30, m_31, m_32, m_33, m_34, m_35, m_36, m_37, m_38, m_39, m_40, m_41, m_42, m_43, m_44, m_45, m_46, m_47, m_48, m_49, m_50, m_51, m_52, m_53, m_54, m_55, m_56, m_57, m_58, m_59])), (t0, .inl (K 0, 400, .inl ft))] sz) := by
  refine Met.ofW (cc := cX12_begin) (maxL := 1) (ret := none) (by decide) rfl ?_
  intro p e s m args below meth c s₁ B hml hv
  obtain ⟨rfl, hsz, hP, hK, hD0, hN⟩ := hv
  have hx := B.exec
  have hb := B.bytes
  have hr := B.returns
  have hts := atoms_spec (ws := wsX12_begin) B.pre
  have hown : s.vm.findClass RX12 = some m.cls := findClass_of_methodNamed B.named
  have hlocks := B.notSynchronized
  subst hsz
  have hD := hD0.self (sz := s.heap.size)
  generalize hAe : va_A [(m0, .inr (12, [m_0, m_1, m_2, m_3, m_4, m_5, m_6, m_7, m_8, m_9, m_10, m_11, .ref t0, .int ta, .int fr, .int to, .int so, .long wo, .int fau, .int bd, m_20, m_21, m_22, m_23, m_24, m_25, m_26, m_27, m_28, m_29, m_30, m_31, m_32, m_33, m_34, m_35, m_36, m_37, m_38, m_39, m_40, m_41, m_42, m_43, m_44, m_45, m_46, m_47, m_48, m_49, m_50, m_51, m_52, m_53, m_54, m_55, m_56, m_57, m_58, m_59])), (t0, .inl (K 0, 400, .inl ft))] s.heap.size = A at hD ⊢
  have hA : ∀ q : Nat, s.heap.size ≤ q → A q := fun q h => by rw [← hAe]; exact Or.inr h
  have hS : va_S A s.heap s.heap [] := va_S.rf
  have hP : va_P D vwCl [(m0, .inr (12, [m_0, m_1, m_2, m_3, m_4, m_5, m_6, m_7, m_8, m_9, m_10, m_11, .ref t0, .int ta, .int fr, .int to, .int so, .long wo, .int fau, .int bd, m_20, m_21, m_22, m_23, m_24, m_25, m_26, m_27, m_28, m_29, m_30, m_31, m_32, m_33, m_34, m_35, m_36, m_37, m_38, m_39, m_40, m_41, m_42, m_43, m_44, m_45, m_46, m_47, m_48, m_49, m_50, m_51, m_52, m_53, m_54, m_55, m_56, m_57, m_58, m_59])), (t0, .inl (K 0, 400, .inl ft))] s.heap := hP
  have hl := lv_entry [.ref m0] (n := 1) (Nat.le_of_ble_eq_true rfl)
  rw [lg_entry_eq]
  generalize (lg_sl [.ref m0] ++ List.replicate (1 - (lg_sl [.ref m0]).length) Slot.unset).toArray = ls at hl ⊢
  have hl : lv_has ls 1 [(0, .ref m0)] := hl
  have hw12 : ∀ w ∈ wsX120, w ∈ wsX12_begin := fun w h => (List.mem_cons_of_mem _ (List.mem_append_right _ h))
  generalize hQ : MQ below _ _ s _ _ _ = Q
  refine lv_aload_n hx hb dX12_begin_0 rfl (lv_at hl 0 rfl) ?_
  refine lv_iconst (v := 0) hx hb dX12_begin_1 (by decide) ?_
  refine va_put (ci := 12) (v := .int 0) (ty := .int) (C := RX12) (T := TX12) (N := 60) hx hb hts hw12 tyX12 tyX12_ok nmX12 hown hK hP hD hS 0 rfl rfl 15 (by decide) (hts (.fieldLink RX12 236 "SmokeTuneModel" "to" "I") (List.mem_cons_of_mem _ (List.mem_append_left _ (List.mem_append_left _ (List.mem_of_getElem? (i := 0) rfl))))) (fun _ h9 => h9) rfl (by decide +kernel) (by first | rfl | decide) (by first | rfl | decide) (Nat.le_of_ble_eq_true rfl) dX12_begin_2 (fun H locs hP hD hS => ?_)
  have hP : va_P D vwCl [(m0, .inr (12, [m_0, m_1, m_2, m_3, m_4, m_5, m_6, m_7, m_8, m_9, m_10, m_11, .ref t0, .int ta, .int fr, .int 0, .int so, .long wo, .int fau, .int bd, m_20, m_21, m_22, m_23, m_24, m_25, m_26, m_27, m_28, m_29, m_30, m_31, m_32, m_33, m_34, m_35, m_36, m_37, m_38, m_39, m_40, m_41, m_42, m_43, m_44, m_45, m_46, m_47, m_48, m_49, m_50, m_51, m_52, m_53, m_54, m_55, m_56, m_57, m_58, m_59])), (t0, .inl (K 0, 400, .inl ft))] H := hP
  have hD : va_D A [(m0, .inr (12, [m_0, m_1, m_2, m_3, m_4, m_5, m_6, m_7, m_8, m_9, m_10, m_11, .ref t0, .int ta, .int fr, .int 0, .int so, .long wo, .int fau, .int bd, m_20, m_21, m_22, m_23, m_24, m_25, m_26, m_27, m_28, m_29, m_30, m_31, m_32, m_33, m_34, m_35, m_36, m_37, m_38, m_39, m_40, m_41, m_42, m_43, m_44, m_45, m_46, m_47, m_48, m_49, m_50, m_51, m_52, m_53, m_54, m_55, m_56, m_57, m_58, m_59])), (t0, .inl (K 0, 400, .inl ft))] := hD
  refine lv_aload_n hx hb dX12_begin_5 rfl (lv_at hl 0 rfl) ?_
  refine lv_iconst (v := 0) hx hb dX12_begin_6 (by decide) ?_
  refine va_put (ci := 12) (v := .int 0) (ty := .boolean) (C := RX12) (T := TX12) (N := 60) hx hb hts hw12 tyX12 tyX12_ok nmX12 hown hK hP hD hS 0 rfl rfl 19 (by decide) (hts (.fieldLink RX12 239 "SmokeTuneModel" "bad" "Z") (List.mem_cons_of_mem _ (List.mem_append_left _ (List.mem_append_left _ (List.mem_of_getElem? (i := 1) rfl))))) (fun _ h9 => h9) rfl (by decide +kernel) (by first | rfl | decide) (by first | rfl | decide) (Nat.le_of_ble_eq_true rfl) dX12_begin_7 (fun H locs hP hD hS => ?_)
  have hP : va_P D vwCl [(m0, .inr (12, [m_0, m_1, m_2, m_3, m_4, m_5, m_6, m_7, m_8, m_9, m_10, m_11, .ref t0, .int ta, .int fr, .int 0, .int so, .long wo, .int fau, .int 0, m_20, m_21, m_22, m_23, m_24, m_25, m_26, m_27, m_28, m_29, m_30, m_31, m_32, m_33, m_34, m_35, m_36, m_37, m_38, m_39, m_40, m_41, m_42, m_43, m_44, m_45, m_46, m_47, m_48, m_49, m_50, m_51, m_52, m_53, m_54, m_55, m_56, m_57, m_58, m_59])), (t0, .inl (K 0, 400, .inl ft))] H := hP
  have hD : va_D A [(m0, .inr (12, [m_0, m_1, m_2, m_3, m_4, m_5, m_6, m_7, m_8, m_9, m_10, m_11, .ref t0, .int ta, .int fr, .int 0, .int so, .long wo, .int fau, .int 0, m_20, m_21, m_22, m_23, m_24, m_25, m_26, m_27, m_28, m_29, m_30, m_31, m_32, m_33, m_34, m_35, m_36, m_37, m_38, m_39, m_40, m_41, m_42, m_43, m_44, m_45, m_46, m_47, m_48, m_49, m_50, m_51, m_52, m_53, m_54, m_55, m_56, m_57, m_58, m_59])), (t0, .inl (K 0, 400, .inl ft))] := hD
  refine lv_aload_n hx hb dX12_begin_10 rfl (lv_at hl 0 rfl) ?_
  refine lv_iconst (v := (-1)) hx hb dX12_begin_11 (by decide) ?_
  refine va_put (ci := 12) (v := .int (-1)) (ty := .int) (C := RX12) (T := TX12) (N := 60) hx hb hts hw12 tyX12 tyX12_ok nmX12 hown hK hP hD hS 0 rfl rfl 18 (by decide) (hts (.fieldLink RX12 38 "SmokeTuneModel" "fault" "I") (List.mem_cons_of_mem _ (List.mem_append_left _ (List.mem_append_left _ (List.mem_of_getElem? (i := 2) rfl))))) (fun _ h9 => h9) rfl (by decide +kernel) (by first | rfl | decide) (by first | rfl | decide) (Nat.le_of_ble_eq_true rfl) dX12_begin_12 (fun H locs hP hD hS => ?_)
  have hP : va_P D vwCl [(m0, .inr (12, [m_0, m_1, m_2, m_3, m_4, m_5, m_6, m_7, m_8, m_9, m_10, m_11, .ref t0, .int ta, .int fr, .int 0, .int so, .long wo, .int (-1), .int 0, m_20, m_21, m_22, m_23, m_24, m_25, m_26, m_27, m_28, m_29, m_30, m_31, m_32, m_33, m_34, m_35, m_36, m_37, m_38, m_39, m_40, m_41, m_42, m_43, m_44, m_45, m_46, m_47, m_48, m_49, m_50, m_51, m_52, m_53, m_54, m_55, m_56, m_57, m_58, m_59])), (t0, .inl (K 0, 400, .inl ft))] H := hP
  have hD : va_D A [(m0, .inr (12, [m_0, m_1, m_2, m_3, m_4, m_5, m_6, m_7, m_8, m_9, m_10, m_11, .ref t0, .int ta, .int fr, .int 0, .int so, .long wo, .int (-1), .int 0, m_20, m_21, m_22, m_23, m_24, m_25, m_26, m_27, m_28, m_29, m_30, m_31, m_32, m_33, m_34, m_35, m_36, m_37, m_38, m_39, m_40, m_41, m_42, m_43, m_44, m_45, m_46, m_47, m_48, m_49, m_50, m_51, m_52, m_53, m_54, m_55, m_56, m_57, m_58, m_59])), (t0, .inl (K 0, 400, .inl ft))] := hD
  refine lv_aload_n hx hb dX12_begin_15 rfl (lv_at hl 0 rfl) ?_
  refine kcv (S := Su) (wr := []) (va_runV (As := []) (rest := []) ⟨hx, hb, hml, hown, hts⟩ (v_next l D K m0 m_0 m_1 m_2 m_3 m_4 m_5 m_6 m_7 m_8 m_9 m_10 m_11 t0 ta fr 0 so wo (.int (-1)) (.int 0) m_20 m_21 m_22 m_23 m_24 m_25 m_26 m_27 m_28 m_29 m_30 m_31 m_32 m_33 m_34 m_35 m_36 m_37 m_38 m_39 m_40 m_41 m_42 m_43 m_44 m_45 m_46 m_47 m_48 m_49 m_50 m_51 m_52 m_53 m_54 m_55 m_56 m_57 m_58 m_59 ft H.size (by first | omega | decide)) (cwV 0 hts gX12_begin_X12_next rfl rfl rfl (by decide +kernel) ⟨Nat.le_of_ble_eq_true rfl, Nat.le_of_ble_eq_true rfl⟩) (mkV hK hN (hP.sub [0, 1] rfl) (hD.sub [0, 1] (by decide) rfl) (ci := 12) (q0 := 0) rfl rfl) rfl rfl hl.1 rfl (lv_room (Nat.le_of_ble_eq_true rfl)) dX12_begin_16 ⟨Nat.le_of_ble_eq_true rfl, Nat.le_of_ble_eq_true rfl⟩) hP hD hS hA [0, 1] [] rfl rfl (by decide) (by decide) (fun u_16 H locs hw hP hD hS => ?_)
  have hP : va_P D vwCl [(m0, .inr (12, [m_0, m_1, m_2, m_3, m_4, m_5, m_6, m_7, m_8, m_9, m_10, m_11, .ref t0, .int ta, .int (u_16.2.2.2.1 0), .int (u_16.2.2.2.1 1), .int (u_16.2.2.2.1 2), .long (u_16.2.2.2.2.1 0), .int (-1), .int 0, m_20, m_21, m_22, m_23, m_24, m_25, m_26, m_27, m_28, m_29, m_30, m_31, m_32, m_33, m_34, m_35, m_36, m_37, m_38, m_39, m_40, m_41, m_42, m_43, m_44, m_45, m_46, m_47, m_48, m_49, m_50, m_51, m_52, m_53, m_54, m_55, m_56, m_57, m_58, m_59])), (t0, .inl (K 0, 400, .inl ft))] H := hP
  have hD : va_D A [(m0, .inr (12, [m_0, m_1, m_2, m_3, m_4, m_5, m_6, m_7, m_8, m_9, m_10, m_11, .ref t0, .int ta, .int (u_16.2.2.2.1 0), .int (u_16.2.2.2.1 1), .int (u_16.2.2.2.1 2), .long (u_16.2.2.2.2.1 0), .int (-1), .int 0, m_20, m_21, m_22, m_23, m_24, m_25, m_26, m_27, m_28, m_29, m_30, m_31, m_32, m_33, m_34, m_35, m_36, m_37, m_38, m_39, m_40, m_41, m_42, m_43, m_44, m_45, m_46, m_47, m_48, m_49, m_50, m_51, m_52, m_53, m_54, m_55, m_56, m_57, m_58, m_59])), (t0, .inl (K 0, 400, .inl ft))] := hD
  obtain ⟨k_17, k_18, k_19, k_20, k_21, -⟩ := hw
  subst hQ
  have hP9 := hP.sub (ws' := [(m0, .inr (12, [m_0, m_1, m_2, m_3, m_4, m_5, m_6, m_7, m_8, m_9, m_10, m_11, .ref t0, .int ta, .int (u_16.2.2.2.1 0), .int (u_16.2.2.2.1 1), .int (u_16.2.2.2.1 2), .long (u_16.2.2.2.2.1 0), .int (-1), .int 0, m_20, m_21, m_22, m_23, m_24, m_25, m_26, m_27, m_28, m_29, m_30, m_31, m_32, m_33, m_34, m_35, m_36, m_37, m_38, m_39, m_40, m_41, m_42, m_43, m_44, m_45, m_46, m_47, m_48, m_49, m_50, m_51, m_52, m_53, m_54, m_55, m_56, m_57, m_58, m_59])), (t0, .inl (K 0, 400, .inl ft))]) [0, 1] rfl
  have hD9 := hD.sub (ws' := [(m0, .inr (12, [m_0, m_1, m_2, m_3, m_4, m_5, m_6, m_7, m_8, m_9, m_10, m_11, .ref t0, .int ta, .int (u_16.2.2.2.1 0), .int (u_16.2.2.2.1 1), .int (u_16.2.2.2.1 2), .long (u_16.2.2.2.2.1 0), .int (-1), .int 0, m_20, m_21, m_22, m_23, m_24, m_25, m_26, m_27, m_28, m_29, m_30, m_31, m_32, m_33, m_34, m_35, m_36, m_37, m_38, m_39, m_40, m_41, m_42, m_43, m_44, m_45, m_46, m_47, m_48, m_49, m_50, m_51, m_52, m_53, m_54, m_55, m_56, m_57, m_58, m_59])), (t0, .inl (K 0, 400, .inl ft))]) [0, 1] (by decide) rfl
  exact W.vret hx hb hr (fun t ht hW => ⟨⟨((fun _ => 0, fun _ => fun _ => 0, fun _ => fun _ => 0, fun i => match i with | 0 => (u_16.2.2.2.1 0) | 1 => (u_16.2.2.2.1 1) | _ => (u_16.2.2.2.1 2), fun i => match i with | _ => (u_16.2.2.2.2.1 0), fun _ => fun _ => none) : Su), rfl, ⟨(show 0 ≤ ((u_16.2.2.2.1 0) : Int32).toInt ∧ ((u_16.2.2.2.1 0) : Int32).toInt ≤ 400 by omega), (show 0 ≤ ((u_16.2.2.2.1 1) : Int32).toInt ∧ ((u_16.2.2.2.1 1) : Int32).toInt ≤ 400 by omega), (show 0 ≤ ((u_16.2.2.2.1 2) : Int32).toInt ∧ ((u_16.2.2.2.1 2) : Int32).toInt ≤ 3 by omega), (show ((0 ≤ ((u_16.2.2.2.1 0) : Int32).toInt ∧ ((u_16.2.2.2.1 0) : Int32).toInt ≤ ((u_16.2.2.2.1 1) : Int32).toInt ∧ ((u_16.2.2.2.1 1) : Int32).toInt ≤ ta.toInt) ∧ (((u_16.2.2.2.1 2) : Int32).toInt = 0 ∨ ((u_16.2.2.2.1 0) : Int32).toInt < ((u_16.2.2.2.1 1) : Int32).toInt) ∧ (((u_16.2.2.2.1 2) : Int32).toInt ≠ 1 ∨ ((u_16.2.2.2.1 0) : Int32).toInt + 1 < ((u_16.2.2.2.1 1) : Int32).toInt ∨ ((u_16.2.2.2.2.1 0) : Int64).toInt ≤ 26)) by omega), trivial⟩, (⟨by rw [ht]; exact hP9, hD9⟩ : Wd D A _ t)⟩, hS.F ht⟩) hS.2.2 dX12_begin_19
set_option maxHeartbeats 4000000 in
set_option maxRecDepth 100000 in
theorem v_isWord (l : Launch) (D : va_G) (K : Nat → ClassId) (m0 : Nat) (x : Int64) (m_0 : Value) (m_1 : Value) (m_2 : Value) (m_3 : Value) (m_4 : Value) (m_5 : Value) (m_6 : Value) (m_7 : Value) (m_8 : Value) (m_9 : Value) (m_10 : Value) (m_11 : Value) (m_12 : Value) (m_13 : Value) (m_14 : Value) (m_15 : Value) (so : Int32) (wo : Int64) (m_18 : Value) (m_19 : Value) (m_20 : Value) (m_21 : Value) (m_22 : Value) (m_23 : Value) (m_24 : Value) (m_25 : Value) (m_26 : Value) (m_27 : Value) (m_28 : Value) (m_29 : Value) (m_30 : Value) (m_31 : Value) (m_32 : Value) (m_33 : Value) (m_34 : Value) (m_35 : Value) (m_36 : Value) (m_37 : Value) (m_38 : Value) (m_39 : Value) (m_40 : Value) (m_41 : Value) (m_42 : Value) (m_43 : Value) (m_44 : Value) (m_45 : Value) (m_46 : Value) (m_47 : Value) (m_48 : Value) (m_49 : Value) (m_50 : Value) (m_51 : Value) (m_52 : Value) (m_53 : Value) (m_54 : Value) (m_55 : Value) (m_56 : Value) (m_57 : Value) (m_58 : Value) (m_59 : Value) (sz : Nat) : Met l yX12_isWord wsX12_isWord ({ frames := 0, cells := 0, slots := 0, locals := 0 }) (va_Pc [.ref m0, .long x] (Pre D K [(m0, .inr (12, [m_0, m_1, m_2, m_3, m_4, m_5, m_6, m_7, m_8, m_9, m_10, m_11, m_12, m_13, m_14, m_15, .int so, .long wo, m_18, m_19, m_20, m_21, m_22, m_23, m_24, m_25, m_26, m_27, m_28, m_29, m_30, m_31, m_32, m_33, m_34, m_35, m_36, m_37, m_38, m_39, m_40, m_41, m_42, m_43, m_44, m_45, m_46, m_47, m_48, m_49, m_50, m_51, m_52, m_53, m_54, m_55, m_56, m_57, m_58, m_59]))] sz)) (vp_Si (fun r : Int32 => ((r = 1 ∧ so.toInt = 1 ∧ wo.toInt = x.toInt) ∨ (r = 0)) ∧ True)) 0 0 (fun _ => False) := by
  refine Met.ofW (cc := cX12_isWord) (maxL := 3) (ret := (some .boolean)) (by decide) rfl ?_
  intro p e s m args below meth c s₁ B hml hv
  obtain ⟨rfl, hsz, hP, hK, hD0, hN⟩ := hv
  have hx := B.exec
  have hb := B.bytes
  have hr := B.returns
  have hts := atoms_spec (ws := wsX12_isWord) B.pre
  have hown : s.vm.findClass RX12 = some m.cls := findClass_of_methodNamed B.named
  have hlocks := B.notSynchronized
  subst hsz
  have hD := hD0
  have hP : va_P D vwCl [(m0, .inr (12, [m_0, m_1, m_2, m_3, m_4, m_5, m_6, m_7, m_8, m_9, m_10, m_11, m_12, m_13, m_14, m_15, .int so, .long wo, m_18, m_19, m_20, m_21, m_22, m_23, m_24, m_25, m_26, m_27, m_28, m_29, m_30, m_31, m_32, m_33, m_34, m_35, m_36, m_37, m_38, m_39, m_40, m_41, m_42, m_43, m_44, m_45, m_46, m_47, m_48, m_49, m_50, m_51, m_52, m_53, m_54, m_55, m_56, m_57, m_58, m_59]))] s.heap := hP
  have hl := lv_entry [.ref m0, .long x] (n := 3) (Nat.le_of_ble_eq_true rfl)
  rw [lg_entry_eq]
  generalize (lg_sl [.ref m0, .long x] ++ List.replicate (3 - (lg_sl [.ref m0, .long x]).length) Slot.unset).toArray = ls at hl ⊢
  have hl : lv_has ls 3 [(0, .ref m0), (1, .long x)] := hl
  have hw12 : ∀ w ∈ wsX120, w ∈ wsX12_isWord := fun w h => (List.mem_cons_of_mem _ (List.mem_append_right _ h))
  generalize hQ : MQ below _ _ s _ _ _ = Q
  refine lv_aload_n hx hb dX12_isWord_0 rfl (lv_at hl 0 rfl) ?_
  refine va_get (ci := 12) (v := .int so) (C := RX12) (T := TX12) (N := 60) hx hb hts hw12 hown hK hP 0 rfl rfl 16 (by decide) (hts (.fieldLink RX12 259 "SmokeTuneModel" "sort" "I") (List.mem_cons_of_mem _ (List.mem_append_left _ (List.mem_of_getElem? (i := 0) rfl)))) (fun _ h9 => h9) rfl dX12_isWord_1 ?_
  refine lv_iconst (v := 1) hx hb dX12_isWord_4 (by decide) ?_
  refine lv_icmp_ne (tgt := 21) hx hb dX12_isWord_5 (by decide) (fun c_3 => ?_) (fun c_3 => ?_)
  · have c_3i := i_ne (x := so.toInt) (y := 1) rfl rfl c_3
    refine lv_iconst (v := 0) hx hb dX12_isWord_21 (by decide) ?_
    subst hQ
    exact W.zret (v := 0) hx hb hr (by decide) (fun t ht hW => ⟨_, rfl, ⟨(by first | exact Or.inr (rfl)), trivial⟩, ht⟩) (fun q hq => by cases hq) dX12_isWord_22
  · have c_3i := i_eq (x := so.toInt) (y := 1) rfl rfl c_3
    refine lv_aload_n hx hb dX12_isWord_8 rfl (lv_at hl 0 rfl) ?_
    refine va_get (ci := 12) (v := .long wo) (C := RX12) (T := TX12) (N := 60) hx hb hts hw12 hown hK hP 0 rfl rfl 17 (by decide) (hts (.fieldLink RX12 249 "SmokeTuneModel" "worth" "J") (List.mem_cons_of_mem _ (List.mem_append_left _ (List.mem_of_getElem? (i := 1) rfl)))) (fun _ h9 => h9) rfl dX12_isWord_9 ?_
    refine lv_lload_n hx hb dX12_isWord_12 rfl (lv_at hl 1 rfl) ?_
    refine W.lcmp hx hb dX12_isWord_13 ?_
    refine lv_if_ne (tgt := 21) hx hb dX12_isWord_14 (by decide) (fun c_4 => ?_) (fun c_4 => ?_)
    · have c_4i := l_ne (x := wo.toInt) (y := x.toInt) rfl rfl (fun q => c_4 ((lg_cmp_eq wo x).mpr q))
      refine lv_iconst (v := 0) hx hb dX12_isWord_21 (by decide) ?_
      subst hQ
      exact W.zret (v := 0) hx hb hr (by decide) (fun t ht hW => ⟨_, rfl, ⟨(by first | exact Or.inr (rfl)), trivial⟩, ht⟩) (fun q hq => by cases hq) dX12_isWord_22
    · have c_4i := l_eq (x := wo.toInt) (y := x.toInt) rfl rfl ((lg_cmp_eq wo x).mp c_4)
      refine lv_iconst (v := 1) hx hb dX12_isWord_17 (by decide) ?_
      refine lv_goto (tgt := 22) hx hb dX12_isWord_18 (by decide) ?_
      subst hQ
      exact W.zret (v := 1) hx hb hr (by decide) (fun t ht hW => ⟨_, rfl, ⟨(by first | exact Or.inl ⟨rfl, by first | omega | decide | (subst_vars; assumption), by first | omega | decide | (subst_vars; assumption)⟩), trivial⟩, ht⟩) (fun q hq => by cases hq) dX12_isWord_22
set_option maxHeartbeats 4000000 in
set_option maxRecDepth 100000 in
theorem v_isSign (l : Launch) (D : va_G) (K : Nat → ClassId) (m0 : Nat) (x : Int32) (m_0 : Value) (m_1 : Value) (m_2 : Value) (m_3 : Value) (m_4 : Value) (m_5 : Value) (m_6 : Value) (m_7 : Value) (m_8 : Value) (m_9 : Value) (m_10 : Value) (m_11 : Value) (m_12 : Value) (m_13 : Value) (m_14 : Value) (m_15 : Value) (so : Int32) (wo : Int64) (m_18 : Value) (m_19 : Value) (m_20 : Value) (m_21 : Value) (m_22 : Value) (m_23 : Value) (m_24 : Value) (m_25 : Value) (m_26 : Value) (m_27 : Value) (m_28 : Value) (m_29 : Value) (m_30 : Value) (m_31 : Value) (m_32 : Value) (m_33 : Value) (m_34 : Value) (m_35 : Value) (m_36 : Value) (m_37 : Value) (m_38 : Value) (m_39 : Value) (m_40 : Value) (m_41 : Value) (m_42 : Value) (m_43 : Value) (m_44 : Value) (m_45 : Value) (m_46 : Value) (m_47 : Value) (m_48 : Value) (m_49 : Value) (m_50 : Value) (m_51 : Value) (m_52 : Value) (m_53 : Value) (m_54 : Value) (m_55 : Value) (m_56 : Value) (m_57 : Value) (m_58 : Value) (m_59 : Value) (sz : Nat) : Met l yX12_isSign wsX12_isSign ({ frames := 0, cells := 0, slots := 0, locals := 0 }) (va_Pc [.ref m0, .int x] (Pre D K [(m0, .inr (12, [m_0, m_1, m_2, m_3, m_4, m_5, m_6, m_7, m_8, m_9, m_10, m_11, m_12, m_13, m_14, m_15, .int so, .long wo, m_18, m_19, m_20, m_21, m_22, m_23, m_24, m_25, m_26, m_27, m_28, m_29, m_30, m_31, m_32, m_33, m_34, m_35, m_36, m_37, m_38, m_39, m_40, m_41, m_42, m_43, m_44, m_45, m_46, m_47, m_48, m_49, m_50, m_51, m_52, m_53, m_54, m_55, m_56, m_57, m_58, m_59]))] sz)) (vp_Si (fun r : Int32 => ((r = 1 ∧ so.toInt = 3) ∨ (r = 0)) ∧ True)) 0 0 (fun _ => False) := by
  refine Met.ofW (cc := cX12_isSign) (maxL := 2) (ret := (some .boolean)) (by decide) rfl ?_
  intro p e s m args below meth c s₁ B hml hv
  obtain ⟨rfl, hsz, hP, hK, hD0, hN⟩ := hv
  have hx := B.exec
  have hb := B.bytes
  have hr := B.returns
  have hts := atoms_spec (ws := wsX12_isSign) B.pre
  have hown : s.vm.findClass RX12 = some m.cls := findClass_of_methodNamed B.named
  have hlocks := B.notSynchronized
  subst hsz
  have hD := hD0
  have hP : va_P D vwCl [(m0, .inr (12, [m_0, m_1, m_2, m_3, m_4, m_5, m_6, m_7, m_8, m_9, m_10, m_11, m_12, m_13, m_14, m_15, .int so, .long wo, m_18, m_19, m_20, m_21, m_22, m_23, m_24, m_25, m_26, m_27, m_28, m_29, m_30, m_31, m_32, m_33, m_34, m_35, m_36, m_37, m_38, m_39, m_40, m_41, m_42, m_43, m_44, m_45, m_46, m_47, m_48, m_49, m_50, m_51, m_52, m_53, m_54, m_55, m_56, m_57, m_58, m_59]))] s.heap := hP
  have hl := lv_entry [.ref m0, .int x] (n := 2) (Nat.le_of_ble_eq_true rfl)
  rw [lg_entry_eq]
  generalize (lg_sl [.ref m0, .int x] ++ List.replicate (2 - (lg_sl [.ref m0, .int x]).length) Slot.unset).toArray = ls at hl ⊢
  have hl : lv_has ls 2 [(0, .ref m0), (1, .int x)] := hl
  have hw12 : ∀ w ∈ wsX120, w ∈ wsX12_isSign := fun w h => (List.mem_cons_of_mem _ (List.mem_append_right _ h))
  generalize hQ : MQ below _ _ s _ _ _ = Q
  refine lv_aload_n hx hb dX12_isSign_0 rfl (lv_at hl 0 rfl) ?_
  refine va_get (ci := 12) (v := .int so) (C := RX12) (T := TX12) (N := 60) hx hb hts hw12 hown hK hP 0 rfl rfl 16 (by decide) (hts (.fieldLink RX12 259 "SmokeTuneModel" "sort" "I") (List.mem_cons_of_mem _ (List.mem_append_left _ (List.mem_of_getElem? (i := 0) rfl)))) (fun _ h9 => h9) rfl dX12_isSign_1 ?_
  refine lv_iconst (v := 3) hx hb dX12_isSign_4 (by decide) ?_
  refine lv_icmp_ne (tgt := 22) hx hb dX12_isSign_5 (by decide) (fun c_4 => ?_) (fun c_4 => ?_)
  · have c_4i := i_ne (x := so.toInt) (y := 3) rfl rfl c_4
    refine lv_iconst (v := 0) hx hb dX12_isSign_22 (by decide) ?_
    subst hQ
    exact W.zret (v := 0) hx hb hr (by decide) (fun t ht hW => ⟨_, rfl, ⟨(by first | exact Or.inr (rfl)), trivial⟩, ht⟩) (fun q hq => by cases hq) dX12_isSign_23
  · have c_4i := i_eq (x := so.toInt) (y := 3) rfl rfl c_4
    refine lv_aload_n hx hb dX12_isSign_8 rfl (lv_at hl 0 rfl) ?_
    refine va_get (ci := 12) (v := .long wo) (C := RX12) (T := TX12) (N := 60) hx hb hts hw12 hown hK hP 0 rfl rfl 17 (by decide) (hts (.fieldLink RX12 249 "SmokeTuneModel" "worth" "J") (List.mem_cons_of_mem _ (List.mem_append_left _ (List.mem_of_getElem? (i := 1) rfl)))) (fun _ h9 => h9) rfl dX12_isSign_9 ?_
    refine lv_iload_n hx hb dX12_isSign_12 rfl (lv_at hl 1 rfl) ?_
    refine lv_i2l hx hb dX12_isSign_13 rfl ?_
    refine lv_topl (fun x_5 ex_5 => ?_)
    have hx_5 : x_5.toInt = x.toInt := by rw [ex_5]; exact i_wide rfl
    have hbx_5 := i_rng (a := x) rfl
    refine W.lcmp hx hb dX12_isSign_14 ?_
    refine lv_if_ne (tgt := 22) hx hb dX12_isSign_15 (by decide) (fun c_6 => ?_) (fun c_6 => ?_)
    · have c_6i := l_ne (x := wo.toInt) (y := x.toInt) rfl hx_5 (fun q => c_6 ((lg_cmp_eq wo x_5).mpr q))
      refine lv_iconst (v := 0) hx hb dX12_isSign_22 (by decide) ?_
      subst hQ
      exact W.zret (v := 0) hx hb hr (by decide) (fun t ht hW => ⟨_, rfl, ⟨(by first | exact Or.inr (rfl)), trivial⟩, ht⟩) (fun q hq => by cases hq) dX12_isSign_23
    · have c_6i := l_eq (x := wo.toInt) (y := x.toInt) rfl hx_5 ((lg_cmp_eq wo x_5).mp c_6)
      refine lv_iconst (v := 1) hx hb dX12_isSign_18 (by decide) ?_
      refine lv_goto (tgt := 23) hx hb dX12_isSign_19 (by decide) ?_
      subst hQ
      exact W.zret (v := 1) hx hb hr (by decide) (fun t ht hW => ⟨_, rfl, ⟨(by first | exact Or.inl ⟨rfl, by first | omega | decide | (subst_vars; assumption)⟩), trivial⟩, ht⟩) (fun q hq => by cases hq) dX12_isSign_23
set_option maxHeartbeats 4000000 in
set_option maxRecDepth 100000 in
theorem v_must (l : Launch) (D : va_G) (K : Nat → ClassId) (m0 : Nat) (x : Int32) (m_0 : Value) (m_1 : Value) (m_2 : Value) (m_3 : Value) (m_4 : Value) (m_5 : Value) (m_6 : Value) (m_7 : Value) (m_8 : Value) (m_9 : Value) (m_10 : Value) (m_11 : Value) (t0 : Nat) (ta : Int32) (fr : Int32) (to : Int32) (so : Int32) (wo : Int64) (fau : Int32) (bd : Int32) (m_20 : Value) (m_21 : Value) (m_22 : Value) (m_23 : Value) (m_24 : Value) (m_25 : Value) (m_26 : Value) (m_27 : Value) (m_28 : Value) (m_29 : Value) (m_30 : Value) (m_31 : Value) (m_32 : Value) (m_33 : Value) (m_34 : Value) (m_35 : Value) (m_36 : Value) (m_37 : Value) (m_38 : Value) (m_39 : Value) (m_40 : Value) (m_41 : Value) (m_42 : Value) (m_43 : Value) (m_44 : Value) (m_45 : Value) (m_46 : Value) (m_47 : Value) (m_48 : Value) (m_49 : Value) (m_50 : Value) (m_51 : Value) (m_52 : Value) (m_53 : Value) (m_54 : Value) (m_55 : Value) (m_56 : Value) (m_57 : Value) (m_58 : Value) (m_59 : Value) (ft : Nat → Int32) (sz : Nat) (ztk : 0 ≤ fr.toInt ∧ fr.toInt ≤ to.toInt ∧ to.toInt ≤ ta.toInt ∧ ta.toInt ≤ 400) (ztk2 : (so.toInt = 0 ∨ fr.toInt < to.toInt)) (ztk3 : (so.toInt ≠ 1 ∨ fr.toInt + 1 < to.toInt ∨ wo.toInt ≤ 26)) (zso : 0 ≤ so.toInt ∧ so.toInt ≤ 3) (zbd : 0 ≤ bd.toInt ∧ bd.toInt ≤ 1) (zx : 0 ≤ x.toInt ∧ x.toInt ≤ 1) : Met l yX12_must wsX12_must ({ frames := 2, cells := 0, slots := 0, locals := 40 }) (va_Pc [.ref m0, .int x] (Pre D K [(m0, .inr (12, [m_0, m_1, m_2, m_3, m_4, m_5, m_6, m_7, m_8, m_9, m_10, m_11, .ref t0, .int ta, .int fr, .int to, .int so, .long wo, .int fau, .int bd, m_20, m_21, m_22, m_23, m_24, m_25, m_26, m_27, m_28, m_29, m_30, m_31, m_32, m_33, m_34, m_35, m_36, m_37, m_38, m_39, m_40, m_41, m_42, m_43, m_44, m_45, m_46, m_47, m_48, m_49, m_50, m_51, m_52, m_53, m_54, m_55, m_56, m_57, m_58, m_59])), (t0, .inl (K 0, 400, .inl ft))] sz)) (va_Qv (S := Su) (fun (u : Su) => (0 ≤ (u.2.2.2.1 0).toInt ∧ (u.2.2.2.1 0).toInt ≤ 400) ∧ (0 ≤ (u.2.2.2.1 1).toInt ∧ (u.2.2.2.1 1).toInt ≤ 400) ∧ (0 ≤ (u.2.2.2.1 2).toInt ∧ (u.2.2.2.1 2).toInt ≤ 3) ∧ (0 ≤ (u.2.2.2.1 4).toInt ∧ (u.2.2.2.1 4).toInt ≤ 1) ∧ (((0 ≤ (u.2.2.2.1 0).toInt ∧ (u.2.2.2.1 0).toInt ≤ (u.2.2.2.1 1).toInt ∧ (u.2.2.2.1 1).toInt ≤ ta.toInt) ∧ ((u.2.2.2.1 2).toInt = 0 ∨ (u.2.2.2.1 0).toInt < (u.2.2.2.1 1).toInt) ∧ ((u.2.2.2.1 2).toInt ≠ 1 ∨ (u.2.2.2.1 0).toInt + 1 < (u.2.2.2.1 1).toInt ∨ (u.2.2.2.2.1 0).toInt ≤ 26))) ∧ (((u.2.2.2.1 4).toInt = 1 ∨ (bd.toInt = 0 ∧ x.toInt = 1 ∧ to.toInt ≤ (u.2.2.2.1 0).toInt))) ∧ (fr.toInt ≤ (u.2.2.2.1 0).toInt) ∧ True) (fun u t => Wd D (va_A [(m0, .inr (12, [m_0, m_1, m_2, m_3, m_4, m_5, m_6, m_7, m_8, m_9, m_10, m_11, .ref t0, .int ta, .int fr, .int to, .int so, .long wo, .int fau, .int bd, m_20, m_21, m_22, m_23, m_24, m_25, m_26, m_27, m_28, m_29, m_30, m_31, m_32, m_33, m_34, m_35, m_36, m_37, m_38, m_39, m_40, m_41, m_42, m_43, m_44, m_45, m_46, m_47, m_48, m_49, m_50, m_51, m_52, m_53, m_54, m_55, m_56, m_57, m_58, m_59])), (t0, .inl (K 0, 400, .inl ft))] sz) ((fun u => [(m0, .inr (12, [m_0, m_1, m_2, m_3, m_4, m_5, m_6, m_7, m_8, m_9, m_10, m_11, .ref t0, .int ta, .int (u.2.2.2.1 0), .int (u.2.2.2.1 1), .int (u.2.2.2.1 2), .long (u.2.2.2.2.1 0), .int (u.2.2.2.1 3), .int (u.2.2.2.1 4), m_20, m_21, m_22, m_23, m_24, m_25, m_26, m_27, m_28, m_29, m_30, m_31, m_32, m_33, m_34, m_35, m_36, m_37, m_38, m_39, m_40, m_41, m_42, m_43, m_44, m_45, m_46, m_47, m_48, m_49, m_50, m_51, m_52, m_53, m_54, m_55, m_56, m_57, m_58, m_59])), (t0, .inl (K 0, 400, .inl ft))]) u) t) (va_A [(m0, .inr (12, [m_0, m_1, m_2, m_3, m_4, m_5, m_6, m_7, m_8, m_9, m_10, m_11, .ref t0, .int ta, .int fr, .int to, .int so, .long wo, .int fau, .int bd, m_20, m_21, m_22, m_23, m_24, m_25, m_26, m_27, m_28, m_29, m_30, m_31, m_32, m_33, m_34, m_35, m_36, m_37, m_38, m_39, m_40, m_41, m_42, m_43, m_44, m_45, m_46, m_47, m_48, m_49, m_50, m_51, m_52, m_53, m_54, m_55, m_56, m_57, m_58, m_59])), (t0, .inl (K 0, 400, .inl ft))] sz)) 0 0 (va_A [(m0, .inr (12, [m_0, m_1, m_2, m_3, m_4, m_5, m_6, m_7, m_8, m_9, m_10, m_11, .ref t0, .int ta, .int fr, .int to, .int so, .long wo, .int fau, .int bd, m_20, m_21, m_22, m_23, m_24, m_25, m_26, m_27, m_28, m_29, m_30, m_31, m_32, m_33, m_34, m_35, m_36, m_37, m_38, m_39, m_40, m_41, m_42, m_43, m_44, m_45, m_46, m_47, m_48, m_49, m_50, m_51, m_52, m_53, m_54, m_55, m_56, m_57, m_58, m_59])), (t0, .inl (K 0, 400, .inl ft))] sz) := by
  refine Met.ofW (cc := cX12_must) (maxL := 2) (ret := none) (by decide) rfl ?_
  intro p e s m args below meth c s₁ B hml hv
  obtain ⟨rfl, hsz, hP, hK, hD0, hN⟩ := hv
  have hx := B.exec
  have hb := B.bytes
  have hr := B.returns
  have hts := atoms_spec (ws := wsX12_must) B.pre
  have hown : s.vm.findClass RX12 = some m.cls := findClass_of_methodNamed B.named
  have hlocks := B.notSynchronized
  subst hsz
  have hD := hD0.self (sz := s.heap.size)
  generalize hAe : va_A [(m0, .inr (12, [m_0, m_1, m_2, m_3, m_4, m_5, m_6, m_7, m_8, m_9, m_10, m_11, .ref t0, .int ta, .int fr, .int to, .int so, .long wo, .int fau, .int bd, m_20, m_21, m_22, m_23, m_24, m_25, m_26, m_27, m_28, m_29, m_30, m_31, m_32, m_33, m_34, m_35, m_36, m_37, m_38, m_39, m_40, m_41, m_42, m_43, m_44, m_45, m_46, m_47, m_48, m_49, m_50, m_51, m_52, m_53, m_54, m_55, m_56, m_57, m_58, m_59])), (t0, .inl (K 0, 400, .inl ft))] s.heap.size = A at hD ⊢
  have hA : ∀ q : Nat, s.heap.size ≤ q → A q := fun q h => by rw [← hAe]; exact Or.inr h
  have hS : va_S A s.heap s.heap [] := va_S.rf
  have hP : va_P D vwCl [(m0, .inr (12, [m_0, m_1, m_2, m_3, m_4, m_5, m_6, m_7, m_8, m_9, m_10, m_11, .ref t0, .int ta, .int fr, .int to, .int so, .long wo, .int fau, .int bd, m_20, m_21, m_22, m_23, m_24, m_25, m_26, m_27, m_28, m_29, m_30, m_31, m_32, m_33, m_34, m_35, m_36, m_37, m_38, m_39, m_40, m_41, m_42, m_43, m_44, m_45, m_46, m_47, m_48, m_49, m_50, m_51, m_52, m_53, m_54, m_55, m_56, m_57, m_58, m_59])), (t0, .inl (K 0, 400, .inl ft))] s.heap := hP
  have hl := lv_entry [.ref m0, .int x] (n := 2) (Nat.le_of_ble_eq_true rfl)
  rw [lg_entry_eq]
  generalize (lg_sl [.ref m0, .int x] ++ List.replicate (2 - (lg_sl [.ref m0, .int x]).length) Slot.unset).toArray = ls at hl ⊢
  have hl : lv_has ls 2 [(0, .ref m0), (1, .int x)] := hl
  have hw12 : ∀ w ∈ wsX120, w ∈ wsX12_must := fun w h => (List.mem_cons_of_mem _ (List.mem_append_right _ h))
  generalize hQ : MQ below _ _ s _ _ _ = Q
  refine lv_aload_n hx hb dX12_must_0 rfl (lv_at hl 0 rfl) ?_
  refine va_get (ci := 12) (v := .int bd) (C := RX12) (T := TX12) (N := 60) hx hb hts hw12 hown hK hP 0 rfl rfl 19 (by decide) (hts (.fieldLink RX12 239 "SmokeTuneModel" "bad" "Z") (List.mem_cons_of_mem _ (List.mem_append_left _ (List.mem_append_left _ (List.mem_of_getElem? (i := 0) rfl))))) (fun _ h9 => h9) rfl dX12_must_1 ?_
  refine lv_if_ne (tgt := 24) hx hb dX12_must_4 (by decide) (fun c_25 => ?_) (fun c_25 => ?_)
  · have c_25i := i_ne (x := bd.toInt) (y := 0) rfl rfl c_25
    refine lv_aload_n hx hb dX12_must_24 rfl (lv_at hl 0 rfl) ?_
    refine va_get (ci := 12) (v := .int bd) (C := RX12) (T := TX12) (N := 60) hx hb hts hw12 hown hK hP 0 rfl rfl 19 (by decide) (hts (.fieldLink RX12 239 "SmokeTuneModel" "bad" "Z") (List.mem_cons_of_mem _ (List.mem_append_left _ (List.mem_append_left _ (List.mem_of_getElem? (i := 0) rfl))))) (fun _ h9 => h9) rfl dX12_must_25 ?_
    refine lv_if_ne (tgt := 35) hx hb dX12_must_28 (by decide) (fun c_26 => ?_) (fun c_26 => ?_)
    · have c_26i := i_ne (x := bd.toInt) (y := 0) rfl rfl c_26
      subst hQ
      have hP9 := hP.sub (ws' := [(m0, .inr (12, [m_0, m_1, m_2, m_3, m_4, m_5, m_6, m_7, m_8, m_9, m_10, m_11, .ref t0, .int ta, .int fr, .int to, .int so, .long wo, .int fau, .int bd, m_20, m_21, m_22, m_23, m_24, m_25, m_26, m_27, m_28, m_29, m_30, m_31, m_32, m_33, m_34, m_35, m_36, m_37, m_38, m_39, m_40, m_41, m_42, m_43, m_44, m_45, m_46, m_47, m_48, m_49, m_50, m_51, m_52, m_53, m_54, m_55, m_56, m_57, m_58, m_59])), (t0, .inl (K 0, 400, .inl ft))]) [0, 1] rfl
      have hD9 := hD.sub (ws' := [(m0, .inr (12, [m_0, m_1, m_2, m_3, m_4, m_5, m_6, m_7, m_8, m_9, m_10, m_11, .ref t0, .int ta, .int fr, .int to, .int so, .long wo, .int fau, .int bd, m_20, m_21, m_22, m_23, m_24, m_25, m_26, m_27, m_28, m_29, m_30, m_31, m_32, m_33, m_34, m_35, m_36, m_37, m_38, m_39, m_40, m_41, m_42, m_43, m_44, m_45, m_46, m_47, m_48, m_49, m_50, m_51, m_52, m_53, m_54, m_55, m_56, m_57, m_58, m_59])), (t0, .inl (K 0, 400, .inl ft))]) [0, 1] (by decide) rfl
      exact W.vret hx hb hr (fun t ht hW => ⟨⟨((fun _ => 0, fun _ => fun _ => 0, fun _ => fun _ => 0, fun i => match i with | 0 => fr | 1 => to | 2 => so | 3 => fau | _ => bd, fun i => match i with | _ => wo, fun _ => fun _ => none) : Su), rfl, ⟨(show 0 ≤ (fr : Int32).toInt ∧ (fr : Int32).toInt ≤ 400 by omega), (show 0 ≤ (to : Int32).toInt ∧ (to : Int32).toInt ≤ 400 by omega), (show 0 ≤ (so : Int32).toInt ∧ (so : Int32).toInt ≤ 3 by omega), (show 0 ≤ (bd : Int32).toInt ∧ (bd : Int32).toInt ≤ 1 by omega), (show ((0 ≤ (fr : Int32).toInt ∧ (fr : Int32).toInt ≤ (to : Int32).toInt ∧ (to : Int32).toInt ≤ ta.toInt) ∧ ((so : Int32).toInt = 0 ∨ (fr : Int32).toInt < (to : Int32).toInt) ∧ ((so : Int32).toInt ≠ 1 ∨ (fr : Int32).toInt + 1 < (to : Int32).toInt ∨ (wo : Int64).toInt ≤ 26)) by omega), (show ((bd : Int32).toInt = 1 ∨ (bd.toInt = 0 ∧ x.toInt = 1 ∧ to.toInt ≤ (fr : Int32).toInt)) by omega), (show fr.toInt ≤ (fr : Int32).toInt by omega), trivial⟩, (⟨by rw [ht]; exact hP9, hD9⟩ : Wd D A _ t)⟩, hS.F ht⟩) hS.2.2 dX12_must_35
    · have c_26i := i_eq (x := bd.toInt) (y := 0) rfl rfl c_26
      exfalso; omega
  · have c_25i := i_eq (x := bd.toInt) (y := 0) rfl rfl c_25
    refine lv_iload_n hx hb dX12_must_7 rfl (lv_at hl 1 rfl) ?_
    refine lv_if_ne (tgt := 24) hx hb dX12_must_8 (by decide) (fun c_27 => ?_) (fun c_27 => ?_)
    · have c_27i := i_ne (x := x.toInt) (y := 0) rfl rfl c_27
      refine lv_aload_n hx hb dX12_must_24 rfl (lv_at hl 0 rfl) ?_
      refine va_get (ci := 12) (v := .int bd) (C := RX12) (T := TX12) (N := 60) hx hb hts hw12 hown hK hP 0 rfl rfl 19 (by decide) (hts (.fieldLink RX12 239 "SmokeTuneModel" "bad" "Z") (List.mem_cons_of_mem _ (List.mem_append_left _ (List.mem_append_left _ (List.mem_of_getElem? (i := 0) rfl))))) (fun _ h9 => h9) rfl dX12_must_25 ?_
      refine lv_if_ne (tgt := 35) hx hb dX12_must_28 (by decide) (fun c_28 => ?_) (fun c_28 => ?_)
      · have c_28i := i_ne (x := bd.toInt) (y := 0) rfl rfl c_28
        exfalso; omega
      · have c_28i := i_eq (x := bd.toInt) (y := 0) rfl rfl c_28
        refine lv_aload_n hx hb dX12_must_31 rfl (lv_at hl 0 rfl) ?_
        refine kcv (S := Su) (wr := []) (va_runV (As := []) (rest := []) ⟨hx, hb, hml, hown, hts⟩ (v_next l D K m0 m_0 m_1 m_2 m_3 m_4 m_5 m_6 m_7 m_8 m_9 m_10 m_11 t0 ta fr to so wo (.int fau) (.int bd) m_20 m_21 m_22 m_23 m_24 m_25 m_26 m_27 m_28 m_29 m_30 m_31 m_32 m_33 m_34 m_35 m_36 m_37 m_38 m_39 m_40 m_41 m_42 m_43 m_44 m_45 m_46 m_47 m_48 m_49 m_50 m_51 m_52 m_53 m_54 m_55 m_56 m_57 m_58 m_59 ft s.heap.size (by first | omega | decide)) (cwV 0 hts gX12_must_X12_next rfl rfl rfl (by decide +kernel) ⟨Nat.le_of_ble_eq_true rfl, Nat.le_of_ble_eq_true rfl⟩) (mkV hK hN (hP.sub [0, 1] rfl) (hD.sub [0, 1] (by decide) rfl) (ci := 12) (q0 := 0) rfl rfl) rfl rfl hl.1 rfl (lv_room (Nat.le_of_ble_eq_true rfl)) dX12_must_32 ⟨Nat.le_of_ble_eq_true rfl, Nat.le_of_ble_eq_true rfl⟩) hP hD hS hA [0, 1] [] rfl rfl (by decide) (by decide) (fun u_30 H locs hw hP hD hS => ?_)
        have hP : va_P D vwCl [(m0, .inr (12, [m_0, m_1, m_2, m_3, m_4, m_5, m_6, m_7, m_8, m_9, m_10, m_11, .ref t0, .int ta, .int (u_30.2.2.2.1 0), .int (u_30.2.2.2.1 1), .int (u_30.2.2.2.1 2), .long (u_30.2.2.2.2.1 0), .int fau, .int bd, m_20, m_21, m_22, m_23, m_24, m_25, m_26, m_27, m_28, m_29, m_30, m_31, m_32, m_33, m_34, m_35, m_36, m_37, m_38, m_39, m_40, m_41, m_42, m_43, m_44, m_45, m_46, m_47, m_48, m_49, m_50, m_51, m_52, m_53, m_54, m_55, m_56, m_57, m_58, m_59])), (t0, .inl (K 0, 400, .inl ft))] H := hP
        have hD : va_D A [(m0, .inr (12, [m_0, m_1, m_2, m_3, m_4, m_5, m_6, m_7, m_8, m_9, m_10, m_11, .ref t0, .int ta, .int (u_30.2.2.2.1 0), .int (u_30.2.2.2.1 1), .int (u_30.2.2.2.1 2), .long (u_30.2.2.2.2.1 0), .int fau, .int bd, m_20, m_21, m_22, m_23, m_24, m_25, m_26, m_27, m_28, m_29, m_30, m_31, m_32, m_33, m_34, m_35, m_36, m_37, m_38, m_39, m_40, m_41, m_42, m_43, m_44, m_45, m_46, m_47, m_48, m_49, m_50, m_51, m_52, m_53, m_54, m_55, m_56, m_57, m_58, m_59])), (t0, .inl (K 0, 400, .inl ft))] := hD
        obtain ⟨k_31, k_32, k_33, k_34, k_35, -⟩ := hw
        subst hQ
        have hP9 := hP.sub (ws' := [(m0, .inr (12, [m_0, m_1, m_2, m_3, m_4, m_5, m_6, m_7, m_8, m_9, m_10, m_11, .ref t0, .int ta, .int (u_30.2.2.2.1 0), .int (u_30.2.2.2.1 1), .int (u_30.2.2.2.1 2), .long (u_30.2.2.2.2.1 0), .int fau, .int bd, m_20, m_21, m_22, m_23, m_24, m_25, m_26, m_27, m_28, m_29, m_30, m_31, m_32, m_33, m_34, m_35, m_36, m_37, m_38, m_39, m_40, m_41, m_42, m_43, m_44, m_45, m_46, m_47, m_48, m_49, m_50, m_51, m_52, m_53, m_54, m_55, m_56, m_57, m_58, m_59])), (t0, .inl (K 0, 400, .inl ft))]) [0, 1] rfl
        have hD9 := hD.sub (ws' := [(m0, .inr (12, [m_0, m_1, m_2, m_3, m_4, m_5, m_6, m_7, m_8, m_9, m_10, m_11, .ref t0, .int ta, .int (u_30.2.2.2.1 0), .int (u_30.2.2.2.1 1), .int (u_30.2.2.2.1 2), .long (u_30.2.2.2.2.1 0), .int fau, .int bd, m_20, m_21, m_22, m_23, m_24, m_25, m_26, m_27, m_28, m_29, m_30, m_31, m_32, m_33, m_34, m_35, m_36, m_37, m_38, m_39, m_40, m_41, m_42, m_43, m_44, m_45, m_46, m_47, m_48, m_49, m_50, m_51, m_52, m_53, m_54, m_55, m_56, m_57, m_58, m_59])), (t0, .inl (K 0, 400, .inl ft))]) [0, 1] (by decide) rfl
        exact W.vret hx hb hr (fun t ht hW => ⟨⟨((fun _ => 0, fun _ => fun _ => 0, fun _ => fun _ => 0, fun i => match i with | 0 => (u_30.2.2.2.1 0) | 1 => (u_30.2.2.2.1 1) | 2 => (u_30.2.2.2.1 2) | 3 => fau | _ => bd, fun i => match i with | _ => (u_30.2.2.2.2.1 0), fun _ => fun _ => none) : Su), rfl, ⟨(show 0 ≤ ((u_30.2.2.2.1 0) : Int32).toInt ∧ ((u_30.2.2.2.1 0) : Int32).toInt ≤ 400 by omega), (show 0 ≤ ((u_30.2.2.2.1 1) : Int32).toInt ∧ ((u_30.2.2.2.1 1) : Int32).toInt ≤ 400 by omega), (show 0 ≤ ((u_30.2.2.2.1 2) : Int32).toInt ∧ ((u_30.2.2.2.1 2) : Int32).toInt ≤ 3 by omega), (show 0 ≤ (bd : Int32).toInt ∧ (bd : Int32).toInt ≤ 1 by omega), (show ((0 ≤ ((u_30.2.2.2.1 0) : Int32).toInt ∧ ((u_30.2.2.2.1 0) : Int32).toInt ≤ ((u_30.2.2.2.1 1) : Int32).toInt ∧ ((u_30.2.2.2.1 1) : Int32).toInt ≤ ta.toInt) ∧ (((u_30.2.2.2.1 2) : Int32).toInt = 0 ∨ ((u_30.2.2.2.1 0) : Int32).toInt < ((u_30.2.2.2.1 1) : Int32).toInt) ∧ (((u_30.2.2.2.1 2) : Int32).toInt ≠ 1 ∨ ((u_30.2.2.2.1 0) : Int32).toInt + 1 < ((u_30.2.2.2.1 1) : Int32).toInt ∨ ((u_30.2.2.2.2.1 0) : Int64).toInt ≤ 26)) by omega), (show ((bd : Int32).toInt = 1 ∨ (bd.toInt = 0 ∧ x.toInt = 1 ∧ to.toInt ≤ ((u_30.2.2.2.1 0) : Int32).toInt)) by omega), (show fr.toInt ≤ ((u_30.2.2.2.1 0) : Int32).toInt by omega), trivial⟩, (⟨by rw [ht]; exact hP9, hD9⟩ : Wd D A _ t)⟩, hS.F ht⟩) hS.2.2 dX12_must_35
    · have c_27i := i_eq (x := x.toInt) (y := 0) rfl rfl c_27
      refine lv_aload_n hx hb dX12_must_11 rfl (lv_at hl 0 rfl) ?_
      refine lv_iconst (v := 1) hx hb dX12_must_12 (by decide) ?_
      refine va_put (ci := 12) (v := .int 1) (ty := .boolean) (C := RX12) (T := TX12) (N := 60) hx hb hts hw12 tyX12 tyX12_ok nmX12 hown hK hP hD hS 0 rfl rfl 19 (by decide) (hts (.fieldLink RX12 239 "SmokeTuneModel" "bad" "Z") (List.mem_cons_of_mem _ (List.mem_append_left _ (List.mem_append_left _ (List.mem_of_getElem? (i := 0) rfl))))) (fun _ h9 => h9) rfl (by decide +kernel) (by first | rfl | decide) (by first | rfl | decide) (Nat.le_of_ble_eq_true rfl) dX12_must_13 (fun H locs hP hD hS => ?_)
      have hP : va_P D vwCl [(m0, .inr (12, [m_0, m_1, m_2, m_3, m_4, m_5, m_6, m_7, m_8, m_9, m_10, m_11, .ref t0, .int ta, .int fr, .int to, .int so, .long wo, .int fau, .int 1, m_20, m_21, m_22, m_23, m_24, m_25, m_26, m_27, m_28, m_29, m_30, m_31, m_32, m_33, m_34, m_35, m_36, m_37, m_38, m_39, m_40, m_41, m_42, m_43, m_44, m_45, m_46, m_47, m_48, m_49, m_50, m_51, m_52, m_53, m_54, m_55, m_56, m_57, m_58, m_59])), (t0, .inl (K 0, 400, .inl ft))] H := hP
      have hD : va_D A [(m0, .inr (12, [m_0, m_1, m_2, m_3, m_4, m_5, m_6, m_7, m_8, m_9, m_10, m_11, .ref t0, .int ta, .int fr, .int to, .int so, .long wo, .int fau, .int 1, m_20, m_21, m_22, m_23, m_24, m_25, m_26, m_27, m_28, m_29, m_30, m_31, m_32, m_33, m_34, m_35, m_36, m_37, m_38, m_39, m_40, m_41, m_42, m_43, m_44, m_45, m_46, m_47, m_48, m_49, m_50, m_51, m_52, m_53, m_54, m_55, m_56, m_57, m_58, m_59])), (t0, .inl (K 0, 400, .inl ft))] := hD
      refine lv_aload_n hx hb dX12_must_16 rfl (lv_at hl 0 rfl) ?_
      refine lv_aload_n hx hb dX12_must_17 rfl (lv_at hl 0 rfl) ?_
      refine va_get (ci := 12) (v := .int fr) (C := RX12) (T := TX12) (N := 60) hx hb hts hw12 hown hK hP 0 rfl rfl 14 (by decide) (hts (.fieldLink RX12 246 "SmokeTuneModel" "from" "I") (List.mem_cons_of_mem _ (List.mem_append_left _ (List.mem_append_left _ (List.mem_of_getElem? (i := 1) rfl))))) (fun _ h9 => h9) rfl dX12_must_18 ?_
      refine va_put (ci := 12) (v := .int fr) (ty := .int) (C := RX12) (T := TX12) (N := 60) hx hb hts hw12 tyX12 tyX12_ok nmX12 hown hK hP hD hS 0 rfl rfl 18 (by decide) (hts (.fieldLink RX12 38 "SmokeTuneModel" "fault" "I") (List.mem_cons_of_mem _ (List.mem_append_left _ (List.mem_append_left _ (List.mem_of_getElem? (i := 2) rfl))))) (fun _ h9 => h9) rfl (by decide +kernel) (by first | rfl | decide) (by first | rfl | decide) (Nat.le_of_ble_eq_true rfl) dX12_must_21 (fun H locs hP hD hS => ?_)
      have hP : va_P D vwCl [(m0, .inr (12, [m_0, m_1, m_2, m_3, m_4, m_5, m_6, m_7, m_8, m_9, m_10, m_11, .ref t0, .int ta, .int fr, .int to, .int so, .long wo, .int fr, .int 1, m_20, m_21, m_22, m_23, m_24, m_25, m_26, m_27, m_28, m_29, m_30, m_31, m_32, m_33, m_34, m_35, m_36, m_37, m_38, m_39, m_40, m_41, m_42, m_43, m_44, m_45, m_46, m_47, m_48, m_49, m_50, m_51, m_52, m_53, m_54, m_55, m_56, m_57, m_58, m_59])), (t0, .inl (K 0, 400, .inl ft))] H := hP
      have hD : va_D A [(m0, .inr (12, [m_0, m_1, m_2, m_3, m_4, m_5, m_6, m_7, m_8, m_9, m_10, m_11, .ref t0, .int ta, .int fr, .int to, .int so, .long wo, .int fr, .int 1, m_20, m_21, m_22, m_23, m_24, m_25, m_26, m_27, m_28, m_29, m_30, m_31, m_32, m_33, m_34, m_35, m_36, m_37, m_38, m_39, m_40, m_41, m_42, m_43, m_44, m_45, m_46, m_47, m_48, m_49, m_50, m_51, m_52, m_53, m_54, m_55, m_56, m_57, m_58, m_59])), (t0, .inl (K 0, 400, .inl ft))] := hD
      refine lv_aload_n hx hb dX12_must_24 rfl (lv_at hl 0 rfl) ?_
      refine va_get (ci := 12) (v := .int 1) (C := RX12) (T := TX12) (N := 60) hx hb hts hw12 hown hK hP 0 rfl rfl 19 (by decide) (hts (.fieldLink RX12 239 "SmokeTuneModel" "bad" "Z") (List.mem_cons_of_mem _ (List.mem_append_left _ (List.mem_append_left _ (List.mem_of_getElem? (i := 0) rfl))))) (fun _ h9 => h9) rfl dX12_must_25 ?_
      refine lv_if_ne (tgt := 35) hx hb dX12_must_28 (by decide) (fun c_36 => ?_) (fun c_36 => absurd c_36 (by decide))
      subst hQ
      have hP9 := hP.sub (ws' := [(m0, .inr (12, [m_0, m_1, m_2, m_3, m_4, m_5, m_6, m_7, m_8, m_9, m_10, m_11, .ref t0, .int ta, .int fr, .int to, .int so, .long wo, .int fr, .int 1, m_20, m_21, m_22, m_23, m_24, m_25, m_26, m_27, m_28, m_29, m_30, m_31, m_32, m_33, m_34, m_35, m_36, m_37, m_38, m_39, m_40, m_41, m_42, m_43, m_44, m_45, m_46, m_47, m_48, m_49, m_50, m_51, m_52, m_53, m_54, m_55, m_56, m_57, m_58, m_59])), (t0, .inl (K 0, 400, .inl ft))]) [0, 1] rfl
      have hD9 := hD.sub (ws' := [(m0, .inr (12, [m_0, m_1, m_2, m_3, m_4, m_5, m_6, m_7, m_8, m_9, m_10, m_11, .ref t0, .int ta, .int fr, .int to, .int so, .long wo, .int fr, .int 1, m_20, m_21, m_22, m_23, m_24, m_25, m_26, m_27, m_28, m_29, m_30, m_31, m_32, m_33, m_34, m_35, m_36, m_37, m_38, m_39, m_40, m_41, m_42, m_43, m_44, m_45, m_46, m_47, m_48, m_49, m_50, m_51, m_52, m_53, m_54, m_55, m_56, m_57, m_58, m_59])), (t0, .inl (K 0, 400, .inl ft))]) [0, 1] (by decide) rfl
      exact W.vret hx hb hr (fun t ht hW => ⟨⟨((fun _ => 0, fun _ => fun _ => 0, fun _ => fun _ => 0, fun i => match i with | 0 => fr | 1 => to | 2 => so | 3 => fr | _ => 1, fun i => match i with | _ => wo, fun _ => fun _ => none) : Su), rfl, ⟨(show 0 ≤ (fr : Int32).toInt ∧ (fr : Int32).toInt ≤ 400 by omega), (show 0 ≤ (to : Int32).toInt ∧ (to : Int32).toInt ≤ 400 by omega), (show 0 ≤ (so : Int32).toInt ∧ (so : Int32).toInt ≤ 3 by omega), (show 0 ≤ (1 : Int32).toInt ∧ (1 : Int32).toInt ≤ 1 by decide), (show ((0 ≤ (fr : Int32).toInt ∧ (fr : Int32).toInt ≤ (to : Int32).toInt ∧ (to : Int32).toInt ≤ ta.toInt) ∧ ((so : Int32).toInt = 0 ∨ (fr : Int32).toInt < (to : Int32).toInt) ∧ ((so : Int32).toInt ≠ 1 ∨ (fr : Int32).toInt + 1 < (to : Int32).toInt ∨ (wo : Int64).toInt ≤ 26)) by omega), (show (1 = 1 ∨ (bd.toInt = 0 ∧ x.toInt = 1 ∧ to.toInt ≤ (fr : Int32).toInt)) by omega), (show fr.toInt ≤ (fr : Int32).toInt by omega), trivial⟩, (⟨by rw [ht]; exact hP9, hD9⟩ : Wd D A _ t)⟩, hS.F ht⟩) hS.2.2 dX12_must_35
set_option maxHeartbeats 4000000 in
set_option maxRecDepth 100000 in
theorem v_number (l : Launch) (D : va_G) (K : Nat → ClassId) (m0 : Nat) (y : Int64) (z : Int64) (m_0 : Value) (m_1 : Value) (m_2 : Value) (m_3 : Value) (m_4 : Value) (m_5 : Value) (m_6 : Value) (m_7 : Value) (m_8 : Value) (m_9 : Value) (m_10 : Value) (m_11 : Value) (t0 : Nat) (ta : Int32) (fr : Int32) (to : Int32) (so : Int32) (wo : Int64) (fau : Int32) (bd : Int32) (m_20 : Value) (m_21 : Value) (m_22 : Value) (m_23 : Value) (m_24 : Value) (m_25 : Value) (m_26 : Value) (m_27 : Value) (m_28 : Value) (m_29 : Value) (m_30 : Value) (m_31 : Value) (m_32 : Value) (m_33 : Value) (m_34 : Value) (m_35 : Value) (m_36 : Value) (m_37 : Value) (m_38 : Value) (m_39 : Value) (m_40 : Value) (m_41 : Value) (m_42 : Value) (m_43 : Value) (m_44 : Value) (m_45 : Value) (m_46 : Value) (m_47 : Value) (m_48 : Value) (m_49 : Value) (m_50 : Value) (m_51 : Value) (m_52 : Value) (m_53 : Value) (m_54 : Value) (m_55 : Value) (m_56 : Value) (m_57 : Value) (m_58 : Value) (m_59 : Value) (ft : Nat → Int32) (sz : Nat) (ztk : 0 ≤ fr.toInt ∧ fr.toInt ≤ to.toInt ∧ to.toInt ≤ ta.toInt ∧ ta.toInt ≤ 400) (ztk2 : (so.toInt = 0 ∨ fr.toInt < to.toInt)) (ztk3 : (so.toInt ≠ 1 ∨ fr.toInt + 1 < to.toInt ∨ wo.toInt ≤ 26)) (zso : 0 ≤ so.toInt ∧ so.toInt ≤ 3) (zbd : 0 ≤ bd.toInt ∧ bd.toInt ≤ 1) : Met l yX12_number wsX12_number ({ frames := 3, cells := 0, slots := 0, locals := 61 }) (va_Pc [.ref m0, .long y, .long z] (Pre D K [(m0, .inr (12, [m_0, m_1, m_2, m_3, m_4, m_5, m_6, m_7, m_8, m_9, m_10, m_11, .ref t0, .int ta, .int fr, .int to, .int so, .long wo, .int fau, .int bd, m_20, m_21, m_22, m_23, m_24, m_25, m_26, m_27, m_28, m_29, m_30, m_31, m_32, m_33, m_34, m_35, m_36, m_37, m_38, m_39, m_40, m_41, m_42, m_43, m_44, m_45, m_46, m_47, m_48, m_49, m_50, m_51, m_52, m_53, m_54, m_55, m_56, m_57, m_58, m_59])), (t0, .inl (K 0, 400, .inl ft))] sz)) (va_Qi (S := Su) (fun (r : Int32) (u : Su) => (0 ≤ (u.2.2.2.1 0).toInt ∧ (u.2.2.2.1 0).toInt ≤ 400) ∧ (0 ≤ (u.2.2.2.1 1).toInt ∧ (u.2.2.2.1 1).toInt ≤ 400) ∧ (0 ≤ (u.2.2.2.1 2).toInt ∧ (u.2.2.2.1 2).toInt ≤ 3) ∧ (0 ≤ (u.2.2.2.1 4).toInt ∧ (u.2.2.2.1 4).toInt ≤ 1) ∧ (((0 ≤ (u.2.2.2.1 0).toInt ∧ (u.2.2.2.1 0).toInt ≤ (u.2.2.2.1 1).toInt ∧ (u.2.2.2.1 1).toInt ≤ ta.toInt) ∧ ((u.2.2.2.1 2).toInt = 0 ∨ (u.2.2.2.1 0).toInt < (u.2.2.2.1 1).toInt) ∧ ((u.2.2.2.1 2).toInt ≠ 1 ∨ (u.2.2.2.1 0).toInt + 1 < (u.2.2.2.1 1).toInt ∨ (u.2.2.2.2.1 0).toInt ≤ 26))) ∧ (((u.2.2.2.1 4).toInt = 1 ∨ (bd.toInt = 0 ∧ so.toInt = 2 ∧ to.toInt ≤ (u.2.2.2.1 0).toInt))) ∧ (fr.toInt ≤ (u.2.2.2.1 0).toInt) ∧ True) (fun u t => Wd D (va_A [(m0, .inr (12, [m_0, m_1, m_2, m_3, m_4, m_5, m_6, m_7, m_8, m_9, m_10, m_11, .ref t0, .int ta, .int fr, .int to, .int so, .long wo, .int fau, .int bd, m_20, m_21, m_22, m_23, m_24, m_25, m_26, m_27, m_28, m_29, m_30, m_31, m_32, m_33, m_34, m_35, m_36, m_37, m_38, m_39, m_40, m_41, m_42, m_43, m_44, m_45, m_46, m_47, m_48, m_49, m_50, m_51, m_52, m_53, m_54, m_55, m_56, m_57, m_58, m_59])), (t0, .inl (K 0, 400, .inl ft))] sz) ((fun u => [(m0, .inr (12, [m_0, m_1, m_2, m_3, m_4, m_5, m_6, m_7, m_8, m_9, m_10, m_11, .ref t0, .int ta, .int (u.2.2.2.1 0), .int (u.2.2.2.1 1), .int (u.2.2.2.1 2), .long (u.2.2.2.2.1 0), .int (u.2.2.2.1 3), .int (u.2.2.2.1 4), m_20, m_21, m_22, m_23, m_24, m_25, m_26, m_27, m_28, m_29, m_30, m_31, m_32, m_33, m_34, m_35, m_36, m_37, m_38, m_39, m_40, m_41, m_42, m_43, m_44, m_45, m_46, m_47, m_48, m_49, m_50, m_51, m_52, m_53, m_54, m_55, m_56, m_57, m_58, m_59])), (t0, .inl (K 0, 400, .inl ft))]) u) t) (va_A [(m0, .inr (12, [m_0, m_1, m_2, m_3, m_4, m_5, m_6, m_7, m_8, m_9, m_10, m_11, .ref t0, .int ta, .int fr, .int to, .int so, .long wo, .int fau, .int bd, m_20, m_21, m_22, m_23, m_24, m_25, m_26, m_27, m_28, m_29, m_30, m_31, m_32, m_33, m_34, m_35, m_36, m_37, m_38, m_39, m_40, m_41, m_42, m_43, m_44, m_45, m_46, m_47, m_48, m_49, m_50, m_51, m_52, m_53, m_54, m_55, m_56, m_57, m_58, m_59])), (t0, .inl (K 0, 400, .inl ft))] sz)) 0 0 (va_A [(m0, .inr (12, [m_0, m_1, m_2, m_3, m_4, m_5, m_6, m_7, m_8, m_9, m_10, m_11, .ref t0, .int ta, .int fr, .int to, .int so, .long wo, .int fau, .int bd, m_20, m_21, m_22, m_23, m_24, m_25, m_26, m_27, m_28, m_29, m_30, m_31, m_32, m_33, m_34, m_35, m_36, m_37, m_38, m_39, m_40, m_41, m_42, m_43, m_44, m_45, m_46, m_47, m_48, m_49, m_50, m_51, m_52, m_53, m_54, m_55, m_56, m_57, m_58, m_59])), (t0, .inl (K 0, 400, .inl ft))] sz) := by
  refine Met.ofW (cc := cX12_number) (maxL := 6) (ret := (some .int)) (by decide) rfl ?_
  intro p e s m args below meth c s₁ B hml hv
  obtain ⟨rfl, hsz, hP, hK, hD0, hN⟩ := hv
  have hx := B.exec
  have hb := B.bytes
  have hr := B.returns
  have hts := atoms_spec (ws := wsX12_number) B.pre
  have hown : s.vm.findClass RX12 = some m.cls := findClass_of_methodNamed B.named
  have hlocks := B.notSynchronized
  subst hsz
  have hD := hD0.self (sz := s.heap.size)
  generalize hAe : va_A [(m0, .inr (12, [m_0, m_1, m_2, m_3, m_4, m_5, m_6, m_7, m_8, m_9, m_10, m_11, .ref t0, .int ta, .int fr, .int to, .int so, .long wo, .int fau, .int bd, m_20, m_21, m_22, m_23, m_24, m_25, m_26, m_27, m_28, m_29, m_30, m_31, m_32, m_33, m_34, m_35, m_36, m_37, m_38, m_39, m_40, m_41, m_42, m_43, m_44, m_45, m_46, m_47, m_48, m_49, m_50, m_51, m_52, m_53, m_54, m_55, m_56, m_57, m_58, m_59])), (t0, .inl (K 0, 400, .inl ft))] s.heap.size = A at hD ⊢
  have hA : ∀ q : Nat, s.heap.size ≤ q → A q := fun q h => by rw [← hAe]; exact Or.inr h
  have hS : va_S A s.heap s.heap [] := va_S.rf
  have hP : va_P D vwCl [(m0, .inr (12, [m_0, m_1, m_2, m_3, m_4, m_5, m_6, m_7, m_8, m_9, m_10, m_11, .ref t0, .int ta, .int fr, .int to, .int so, .long wo, .int fau, .int bd, m_20, m_21, m_22, m_23, m_24, m_25, m_26, m_27, m_28, m_29, m_30, m_31, m_32, m_33, m_34, m_35, m_36, m_37, m_38, m_39, m_40, m_41, m_42, m_43, m_44, m_45, m_46, m_47, m_48, m_49, m_50, m_51, m_52, m_53, m_54, m_55, m_56, m_57, m_58, m_59])), (t0, .inl (K 0, 400, .inl ft))] s.heap := hP
  have hl := lv_entry [.ref m0, .long y, .long z] (n := 6) (Nat.le_of_ble_eq_true rfl)
  rw [lg_entry_eq]
  generalize (lg_sl [.ref m0, .long y, .long z] ++ List.replicate (6 - (lg_sl [.ref m0, .long y, .long z]).length) Slot.unset).toArray = ls at hl ⊢
  have hl : lv_has ls 6 [(0, .ref m0), (1, .long y), (3, .long z)] := hl
  have hw12 : ∀ w ∈ wsX120, w ∈ wsX12_number := fun w h => (List.mem_cons_of_mem _ (List.mem_append_right _ h))
  generalize hQ : MQ below _ _ s _ _ _ = Q
  refine lv_aload_n hx hb dX12_number_0 rfl (lv_at hl 0 rfl) ?_
  refine va_get (ci := 12) (v := .long wo) (C := RX12) (T := TX12) (N := 60) hx hb hts hw12 hown hK hP 0 rfl rfl 17 (by decide) (hts (.fieldLink RX12 249 "SmokeTuneModel" "worth" "J") (List.mem_cons_of_mem _ (List.mem_append_left _ (List.mem_append_left _ (List.mem_of_getElem? (i := 0) rfl))))) (fun _ h9 => h9) rfl dX12_number_1 ?_
  refine lv_l2i hx hb dX12_number_4 rfl ?_
  refine lv_topi (fun x_71 ex_71 => ?_)
  refine lv_istore (lv' := [(5, .int x_71), (0, .ref m0), (1, .long y), (3, .long z)]) hx hb dX12_number_5 hl (by decide) rfl (fun ls hl => ?_)
  refine lv_aload_n hx hb dX12_number_7 rfl (lv_at hl 1 rfl) ?_
  refine lv_aload_n hx hb dX12_number_8 rfl (lv_at hl 1 rfl) ?_
  refine va_get (ci := 12) (v := .int so) (C := RX12) (T := TX12) (N := 60) hx hb hts hw12 hown hK hP 0 rfl rfl 16 (by decide) (hts (.fieldLink RX12 259 "SmokeTuneModel" "sort" "I") (List.mem_cons_of_mem _ (List.mem_append_left _ (List.mem_append_left _ (List.mem_of_getElem? (i := 1) rfl))))) (fun _ h9 => h9) rfl dX12_number_9 ?_
  refine lv_iconst (v := 2) hx hb dX12_number_12 (by decide) ?_
  refine lv_icmp_ne (tgt := 32) hx hb dX12_number_13 (by decide) (fun c_72 => ?_) (fun c_72 => ?_)
  · have c_72i := i_ne (x := so.toInt) (y := 2) rfl rfl c_72
    refine lv_iconst (v := 0) hx hb dX12_number_32 (by decide) ?_
    refine kcv (S := Su) (wr := []) (va_runV (As := [.int 0]) (rest := []) ⟨hx, hb, hml, hown, hts⟩ (v_must l D K m0 0 m_0 m_1 m_2 m_3 m_4 m_5 m_6 m_7 m_8 m_9 m_10 m_11 t0 ta fr to so wo fau bd m_20 m_21 m_22 m_23 m_24 m_25 m_26 m_27 m_28 m_29 m_30 m_31 m_32 m_33 m_34 m_35 m_36 m_37 m_38 m_39 m_40 m_41 m_42 m_43 m_44 m_45 m_46 m_47 m_48 m_49 m_50 m_51 m_52 m_53 m_54 m_55 m_56 m_57 m_58 m_59 ft s.heap.size (by first | omega | decide) (by first | omega | decide) (by first | omega | decide) (by first | omega | decide) (by first | omega | decide) (by first | omega | decide)) (cwV 1 hts gX12_number_X12_must rfl rfl rfl (by decide +kernel) ⟨Nat.le_of_ble_eq_true rfl, Nat.le_of_ble_eq_true rfl⟩) (mkV hK hN (hP.sub [0, 1] rfl) (hD.sub [0, 1] (by decide) rfl) (ci := 12) (q0 := 0) rfl rfl) rfl rfl hl.1 rfl (lv_room (Nat.le_of_ble_eq_true rfl)) dX12_number_33 ⟨Nat.le_of_ble_eq_true rfl, Nat.le_of_ble_eq_true rfl⟩) hP hD hS hA [0, 1] [] rfl rfl (by decide) (by decide) (fun u_74 H locs hw hP hD hS => ?_)
    have hP : va_P D vwCl [(m0, .inr (12, [m_0, m_1, m_2, m_3, m_4, m_5, m_6, m_7, m_8, m_9, m_10, m_11, .ref t0, .int ta, .int (u_74.2.2.2.1 0), .int (u_74.2.2.2.1 1), .int (u_74.2.2.2.1 2), .long (u_74.2.2.2.2.1 0), .int (u_74.2.2.2.1 3), .int (u_74.2.2.2.1 4), m_20, m_21, m_22, m_23, m_24, m_25, m_26, m_27, m_28, m_29, m_30, m_31, m_32, m_33, m_34, m_35, m_36, m_37, m_38, m_39, m_40, m_41, m_42, m_43, m_44, m_45, m_46, m_47, m_48, m_49, m_50, m_51, m_52, m_53, m_54, m_55, m_56, m_57, m_58, m_59])), (t0, .inl (K 0, 400, .inl ft))] H := hP
    have hD : va_D A [(m0, .inr (12, [m_0, m_1, m_2, m_3, m_4, m_5, m_6, m_7, m_8, m_9, m_10, m_11, .ref t0, .int ta, .int (u_74.2.2.2.1 0), .int (u_74.2.2.2.1 1), .int (u_74.2.2.2.1 2), .long (u_74.2.2.2.2.1 0), .int (u_74.2.2.2.1 3), .int (u_74.2.2.2.1 4), m_20, m_21, m_22, m_23, m_24, m_25, m_26, m_27, m_28, m_29, m_30, m_31, m_32, m_33, m_34, m_35, m_36, m_37, m_38, m_39, m_40, m_41, m_42, m_43, m_44, m_45, m_46, m_47, m_48, m_49, m_50, m_51, m_52, m_53, m_54, m_55, m_56, m_57, m_58, m_59])), (t0, .inl (K 0, 400, .inl ft))] := hD
    obtain ⟨k_75, k_76, k_77, k_78, k_79, k_80, k_81, -⟩ := hw
    refine lv_iload hx hb dX12_number_36 (lv_at hl 0 rfl) ?_
    subst hQ
    have hP9 := hP.sub (ws' := [(m0, .inr (12, [m_0, m_1, m_2, m_3, m_4, m_5, m_6, m_7, m_8, m_9, m_10, m_11, .ref t0, .int ta, .int (u_74.2.2.2.1 0), .int (u_74.2.2.2.1 1), .int (u_74.2.2.2.1 2), .long (u_74.2.2.2.2.1 0), .int (u_74.2.2.2.1 3), .int (u_74.2.2.2.1 4), m_20, m_21, m_22, m_23, m_24, m_25, m_26, m_27, m_28, m_29, m_30, m_31, m_32, m_33, m_34, m_35, m_36, m_37, m_38, m_39, m_40, m_41, m_42, m_43, m_44, m_45, m_46, m_47, m_48, m_49, m_50, m_51, m_52, m_53, m_54, m_55, m_56, m_57, m_58, m_59])), (t0, .inl (K 0, 400, .inl ft))]) [0, 1] rfl
    have hD9 := hD.sub (ws' := [(m0, .inr (12, [m_0, m_1, m_2, m_3, m_4, m_5, m_6, m_7, m_8, m_9, m_10, m_11, .ref t0, .int ta, .int (u_74.2.2.2.1 0), .int (u_74.2.2.2.1 1), .int (u_74.2.2.2.1 2), .long (u_74.2.2.2.2.1 0), .int (u_74.2.2.2.1 3), .int (u_74.2.2.2.1 4), m_20, m_21, m_22, m_23, m_24, m_25, m_26, m_27, m_28, m_29, m_30, m_31, m_32, m_33, m_34, m_35, m_36, m_37, m_38, m_39, m_40, m_41, m_42, m_43, m_44, m_45, m_46, m_47, m_48, m_49, m_50, m_51, m_52, m_53, m_54, m_55, m_56, m_57, m_58, m_59])), (t0, .inl (K 0, 400, .inl ft))]) [0, 1] (by decide) rfl
    exact W.iret (v := x_71) hx hb hr (fun t ht hW => ⟨⟨x_71, ((fun _ => 0, fun _ => fun _ => 0, fun _ => fun _ => 0, fun i => match i with | 0 => (u_74.2.2.2.1 0) | 1 => (u_74.2.2.2.1 1) | 2 => (u_74.2.2.2.1 2) | 3 => (u_74.2.2.2.1 3) | _ => (u_74.2.2.2.1 4), fun i => match i with | _ => (u_74.2.2.2.2.1 0), fun _ => fun _ => none) : Su), rfl, ⟨(show 0 ≤ ((u_74.2.2.2.1 0) : Int32).toInt ∧ ((u_74.2.2.2.1 0) : Int32).toInt ≤ 400 by omega), (show 0 ≤ ((u_74.2.2.2.1 1) : Int32).toInt ∧ ((u_74.2.2.2.1 1) : Int32).toInt ≤ 400 by omega), (show 0 ≤ ((u_74.2.2.2.1 2) : Int32).toInt ∧ ((u_74.2.2.2.1 2) : Int32).toInt ≤ 3 by omega), (show 0 ≤ ((u_74.2.2.2.1 4) : Int32).toInt ∧ ((u_74.2.2.2.1 4) : Int32).toInt ≤ 1 by omega), (show ((0 ≤ ((u_74.2.2.2.1 0) : Int32).toInt ∧ ((u_74.2.2.2.1 0) : Int32).toInt ≤ ((u_74.2.2.2.1 1) : Int32).toInt ∧ ((u_74.2.2.2.1 1) : Int32).toInt ≤ ta.toInt) ∧ (((u_74.2.2.2.1 2) : Int32).toInt = 0 ∨ ((u_74.2.2.2.1 0) : Int32).toInt < ((u_74.2.2.2.1 1) : Int32).toInt) ∧ (((u_74.2.2.2.1 2) : Int32).toInt ≠ 1 ∨ ((u_74.2.2.2.1 0) : Int32).toInt + 1 < ((u_74.2.2.2.1 1) : Int32).toInt ∨ ((u_74.2.2.2.2.1 0) : Int64).toInt ≤ 26)) by omega), (show (((u_74.2.2.2.1 4) : Int32).toInt = 1 ∨ (bd.toInt = 0 ∧ so.toInt = 2 ∧ to.toInt ≤ ((u_74.2.2.2.1 0) : Int32).toInt)) by omega), (show fr.toInt ≤ ((u_74.2.2.2.1 0) : Int32).toInt by omega), trivial⟩, (⟨by rw [ht]; exact hP9, hD9⟩ : Wd D A _ t)⟩, hS.F ht⟩) hS.2.2 dX12_number_38
  · have c_72i := i_eq (x := so.toInt) (y := 2) rfl rfl c_72
    refine lv_aload_n hx hb dX12_number_16 rfl (lv_at hl 1 rfl) ?_
    refine va_get (ci := 12) (v := .long wo) (C := RX12) (T := TX12) (N := 60) hx hb hts hw12 hown hK hP 0 rfl rfl 17 (by decide) (hts (.fieldLink RX12 249 "SmokeTuneModel" "worth" "J") (List.mem_cons_of_mem _ (List.mem_append_left _ (List.mem_append_left _ (List.mem_of_getElem? (i := 0) rfl))))) (fun _ h9 => h9) rfl dX12_number_17 ?_
    refine lv_lload_n hx hb dX12_number_20 rfl (lv_at hl 2 rfl) ?_
    refine lv_lload_n hx hb dX12_number_21 rfl (lv_at hl 3 rfl) ?_
    refine pci (va_runS (As := [.long wo, .long y, .long z]) (rest := [.ref m0]) ⟨hx, hb, hml, hown, hts⟩ (v_in l D K wo.toInt y.toInt z.toInt wo y z s.heap.size rfl rfl rfl) (va_cwS 3 hts gX12_number_X12_in rfl rfl rfl (by decide +kernel) ⟨Nat.le_of_ble_eq_true rfl, Nat.le_of_ble_eq_true rfl⟩) (mkS hK hN (va_P.nil) (va_D.nil (A := fun _ => True))) rfl rfl hl.1 rfl (lv_room (Nat.le_of_ble_eq_true rfl)) dX12_number_22 ⟨Nat.le_of_ble_eq_true rfl, Nat.le_of_ble_eq_true rfl⟩) (fun r_82 hw => ?_)
    obtain ⟨hw, -⟩ := hw
    rcases hw with ⟨rfl, h_83, h_84⟩ | ⟨rfl, h_85⟩
    · refine lv_if_eq (tgt := 32) hx hb dX12_number_25 (by decide) (fun c_86 => absurd c_86 (by decide)) (fun c_86 => ?_)
      refine lv_iconst (v := 1) hx hb dX12_number_28 (by decide) ?_
      refine lv_goto (tgt := 33) hx hb dX12_number_29 (by decide) ?_
      refine kcv (S := Su) (wr := []) (va_runV (As := [.int 1]) (rest := []) ⟨hx, hb, hml, hown, hts⟩ (v_must l D K m0 1 m_0 m_1 m_2 m_3 m_4 m_5 m_6 m_7 m_8 m_9 m_10 m_11 t0 ta fr to so wo fau bd m_20 m_21 m_22 m_23 m_24 m_25 m_26 m_27 m_28 m_29 m_30 m_31 m_32 m_33 m_34 m_35 m_36 m_37 m_38 m_39 m_40 m_41 m_42 m_43 m_44 m_45 m_46 m_47 m_48 m_49 m_50 m_51 m_52 m_53 m_54 m_55 m_56 m_57 m_58 m_59 ft s.heap.size (by first | omega | decide) (by first | omega | decide) (by first | omega | decide) (by first | omega | decide) (by first | omega | decide) (by first | omega | decide)) (cwV 1 hts gX12_number_X12_must rfl rfl rfl (by decide +kernel) ⟨Nat.le_of_ble_eq_true rfl, Nat.le_of_ble_eq_true rfl⟩) (mkV hK hN (hP.sub [0, 1] rfl) (hD.sub [0, 1] (by decide) rfl) (ci := 12) (q0 := 0) rfl rfl) rfl rfl hl.1 rfl (lv_room (Nat.le_of_ble_eq_true rfl)) dX12_number_33 ⟨Nat.le_of_ble_eq_true rfl, Nat.le_of_ble_eq_true rfl⟩) hP hD hS hA [0, 1] [] rfl rfl (by decide) (by decide) (fun u_88 H locs hw hP hD hS => ?_)
      have hP : va_P D vwCl [(m0, .inr (12, [m_0, m_1, m_2, m_3, m_4, m_5, m_6, m_7, m_8, m_9, m_10, m_11, .ref t0, .int ta, .int (u_88.2.2.2.1 0), .int (u_88.2.2.2.1 1), .int (u_88.2.2.2.1 2), .long (u_88.2.2.2.2.1 0), .int (u_88.2.2.2.1 3), .int (u_88.2.2.2.1 4), m_20, m_21, m_22, m_23, m_24, m_25, m_26, m_27, m_28, m_29, m_30, m_31, m_32, m_33, m_34, m_35, m_36, m_37, m_38, m_39, m_40, m_41, m_42, m_43, m_44, m_45, m_46, m_47, m_48, m_49, m_50, m_51, m_52, m_53, m_54, m_55, m_56, m_57, m_58, m_59])), (t0, .inl (K 0, 400, .inl ft))] H := hP
      have hD : va_D A [(m0, .inr (12, [m_0, m_1, m_2, m_3, m_4, m_5, m_6, m_7, m_8, m_9, m_10, m_11, .ref t0, .int ta, .int (u_88.2.2.2.1 0), .int (u_88.2.2.2.1 1), .int (u_88.2.2.2.1 2), .long (u_88.2.2.2.2.1 0), .int (u_88.2.2.2.1 3), .int (u_88.2.2.2.1 4), m_20, m_21, m_22, m_23, m_24, m_25, m_26, m_27, m_28, m_29, m_30, m_31, m_32, m_33, m_34, m_35, m_36, m_37, m_38, m_39, m_40, m_41, m_42, m_43, m_44, m_45, m_46, m_47, m_48, m_49, m_50, m_51, m_52, m_53, m_54, m_55, m_56, m_57, m_58, m_59])), (t0, .inl (K 0, 400, .inl ft))] := hD
      obtain ⟨k_89, k_90, k_91, k_92, k_93, k_94, k_95, -⟩ := hw
      refine lv_iload hx hb dX12_number_36 (lv_at hl 0 rfl) ?_
      subst hQ
      have hP9 := hP.sub (ws' := [(m0, .inr (12, [m_0, m_1, m_2, m_3, m_4, m_5, m_6, m_7, m_8, m_9, m_10, m_11, .ref t0, .int ta, .int (u_88.2.2.2.1 0), .int (u_88.2.2.2.1 1), .int (u_88.2.2.2.1 2), .long (u_88.2.2.2.2.1 0), .int (u_88.2.2.2.1 3), .int (u_88.2.2.2.1 4), m_20, m_21, m_22, m_23, m_24, m_25, m_26, m_27, m_28, m_29, m_30, m_31, m_32, m_33, m_34, m_35, m_36, m_37, m_38, m_39, m_40, m_41, m_42, m_43, m_44, m_45, m_46, m_47, m_48, m_49, m_50, m_51, m_52, m_53, m_54, m_55, m_56, m_57, m_58, m_59])), (t0, .inl (K 0, 400, .inl ft))]) [0, 1] rfl
      have hD9 := hD.sub (ws' := [(m0, .inr (12, [m_0, m_1, m_2, m_3, m_4, m_5, m_6, m_7, m_8, m_9, m_10, m_11, .ref t0, .int ta, .int (u_88.2.2.2.1 0), .int (u_88.2.2.2.1 1), .int (u_88.2.2.2.1 2), .long (u_88.2.2.2.2.1 0), .int (u_88.2.2.2.1 3), .int (u_88.2.2.2.1 4), m_20, m_21, m_22, m_23, m_24, m_25, m_26, m_27, m_28, m_29, m_30, m_31, m_32, m_33, m_34, m_35, m_36, m_37, m_38, m_39, m_40, m_41, m_42, m_43, m_44, m_45, m_46, m_47, m_48, m_49, m_50, m_51, m_52, m_53, m_54, m_55, m_56, m_57, m_58, m_59])), (t0, .inl (K 0, 400, .inl ft))]) [0, 1] (by decide) rfl
      exact W.iret (v := x_71) hx hb hr (fun t ht hW => ⟨⟨x_71, ((fun _ => 0, fun _ => fun _ => 0, fun _ => fun _ => 0, fun i => match i with | 0 => (u_88.2.2.2.1 0) | 1 => (u_88.2.2.2.1 1) | 2 => (u_88.2.2.2.1 2) | 3 => (u_88.2.2.2.1 3) | _ => (u_88.2.2.2.1 4), fun i => match i with | _ => (u_88.2.2.2.2.1 0), fun _ => fun _ => none) : Su), rfl, ⟨(show 0 ≤ ((u_88.2.2.2.1 0) : Int32).toInt ∧ ((u_88.2.2.2.1 0) : Int32).toInt ≤ 400 by omega), (show 0 ≤ ((u_88.2.2.2.1 1) : Int32).toInt ∧ ((u_88.2.2.2.1 1) : Int32).toInt ≤ 400 by omega), (show 0 ≤ ((u_88.2.2.2.1 2) : Int32).toInt ∧ ((u_88.2.2.2.1 2) : Int32).toInt ≤ 3 by omega), (show 0 ≤ ((u_88.2.2.2.1 4) : Int32).toInt ∧ ((u_88.2.2.2.1 4) : Int32).toInt ≤ 1 by omega), (show ((0 ≤ ((u_88.2.2.2.1 0) : Int32).toInt ∧ ((u_88.2.2.2.1 0) : Int32).toInt ≤ ((u_88.2.2.2.1 1) : Int32).toInt ∧ ((u_88.2.2.2.1 1) : Int32).toInt ≤ ta.toInt) ∧ (((u_88.2.2.2.1 2) : Int32).toInt = 0 ∨ ((u_88.2.2.2.1 0) : Int32).toInt < ((u_88.2.2.2.1 1) : Int32).toInt) ∧ (((u_88.2.2.2.1 2) : Int32).toInt ≠ 1 ∨ ((u_88.2.2.2.1 0) : Int32).toInt + 1 < ((u_88.2.2.2.1 1) : Int32).toInt ∨ ((u_88.2.2.2.2.1 0) : Int64).toInt ≤ 26)) by omega), (show (((u_88.2.2.2.1 4) : Int32).toInt = 1 ∨ (bd.toInt = 0 ∧ so.toInt = 2 ∧ to.toInt ≤ ((u_88.2.2.2.1 0) : Int32).toInt)) by omega), (show fr.toInt ≤ ((u_88.2.2.2.1 0) : Int32).toInt by omega), trivial⟩, (⟨by rw [ht]; exact hP9, hD9⟩ : Wd D A _ t)⟩, hS.F ht⟩) hS.2.2 dX12_number_38
    · refine lv_if_eq (tgt := 32) hx hb dX12_number_25 (by decide) (fun c_96 => ?_) (fun c_96 => absurd (by decide) c_96)
      refine lv_iconst (v := 0) hx hb dX12_number_32 (by decide) ?_
      refine kcv (S := Su) (wr := []) (va_runV (As := [.int 0]) (rest := []) ⟨hx, hb, hml, hown, hts⟩ (v_must l D K m0 0 m_0 m_1 m_2 m_3 m_4 m_5 m_6 m_7 m_8 m_9 m_10 m_11 t0 ta fr to so wo fau bd m_20 m_21 m_22 m_23 m_24 m_25 m_26 m_27 m_28 m_29 m_30 m_31 m_32 m_33 m_34 m_35 m_36 m_37 m_38 m_39 m_40 m_41 m_42 m_43 m_44 m_45 m_46 m_47 m_48 m_49 m_50 m_51 m_52 m_53 m_54 m_55 m_56 m_57 m_58 m_59 ft s.heap.size (by first | omega | decide) (by first | omega | decide) (by first | omega | decide) (by first | omega | decide) (by first | omega | decide) (by first | omega | decide)) (cwV 1 hts gX12_number_X12_must rfl rfl rfl (by decide +kernel) ⟨Nat.le_of_ble_eq_true rfl, Nat.le_of_ble_eq_true rfl⟩) (mkV hK hN (hP.sub [0, 1] rfl) (hD.sub [0, 1] (by decide) rfl) (ci := 12) (q0 := 0) rfl rfl) rfl rfl hl.1 rfl (lv_room (Nat.le_of_ble_eq_true rfl)) dX12_number_33 ⟨Nat.le_of_ble_eq_true rfl, Nat.le_of_ble_eq_true rfl⟩) hP hD hS hA [0, 1] [] rfl rfl (by decide) (by decide) (fun u_98 H locs hw hP hD hS => ?_)
      have hP : va_P D vwCl [(m0, .inr (12, [m_0, m_1, m_2, m_3, m_4, m_5, m_6, m_7, m_8, m_9, m_10, m_11, .ref t0, .int ta, .int (u_98.2.2.2.1 0), .int (u_98.2.2.2.1 1), .int (u_98.2.2.2.1 2), .long (u_98.2.2.2.2.1 0), .int (u_98.2.2.2.1 3), .int (u_98.2.2.2.1 4), m_20, m_21, m_22, m_23, m_24, m_25, m_26, m_27, m_28, m_29, m_30, m_31, m_32, m_33, m_34, m_35, m_36, m_37, m_38, m_39, m_40, m_41, m_42, m_43, m_44, m_45, m_46, m_47, m_48, m_49, m_50, m_51, m_52, m_53, m_54, m_55, m_56, m_57, m_58, m_59])), (t0, .inl (K 0, 400, .inl ft))] H := hP
      have hD : va_D A [(m0, .inr (12, [m_0, m_1, m_2, m_3, m_4, m_5, m_6, m_7, m_8, m_9, m_10, m_11, .ref t0, .int ta, .int (u_98.2.2.2.1 0), .int (u_98.2.2.2.1 1), .int (u_98.2.2.2.1 2), .long (u_98.2.2.2.2.1 0), .int (u_98.2.2.2.1 3), .int (u_98.2.2.2.1 4), m_20, m_21, m_22, m_23, m_24, m_25, m_26, m_27, m_28, m_29, m_30, m_31, m_32, m_33, m_34, m_35, m_36, m_37, m_38, m_39, m_40, m_41, m_42, m_43, m_44, m_45, m_46, m_47, m_48, m_49, m_50, m_51, m_52, m_53, m_54, m_55, m_56, m_57, m_58, m_59])), (t0, .inl (K 0, 400, .inl ft))] := hD
      obtain ⟨k_99, k_100, k_101, k_102, k_103, k_104, k_105, -⟩ := hw
      refine lv_iload hx hb dX12_number_36 (lv_at hl 0 rfl) ?_
      subst hQ
      have hP9 := hP.sub (ws' := [(m0, .inr (12, [m_0, m_1, m_2, m_3, m_4, m_5, m_6, m_7, m_8, m_9, m_10, m_11, .ref t0, .int ta, .int (u_98.2.2.2.1 0), .int (u_98.2.2.2.1 1), .int (u_98.2.2.2.1 2), .long (u_98.2.2.2.2.1 0), .int (u_98.2.2.2.1 3), .int (u_98.2.2.2.1 4), m_20, m_21, m_22, m_23, m_24, m_25, m_26, m_27, m_28, m_29, m_30, m_31, m_32, m_33, m_34, m_35, m_36, m_37, m_38, m_39, m_40, m_41, m_42, m_43, m_44, m_45, m_46, m_47, m_48, m_49, m_50, m_51, m_52, m_53, m_54, m_55, m_56, m_57, m_58, m_59])), (t0, .inl (K 0, 400, .inl ft))]) [0, 1] rfl
      have hD9 := hD.sub (ws' := [(m0, .inr (12, [m_0, m_1, m_2, m_3, m_4, m_5, m_6, m_7, m_8, m_9, m_10, m_11, .ref t0, .int ta, .int (u_98.2.2.2.1 0), .int (u_98.2.2.2.1 1), .int (u_98.2.2.2.1 2), .long (u_98.2.2.2.2.1 0), .int (u_98.2.2.2.1 3), .int (u_98.2.2.2.1 4), m_20, m_21, m_22, m_23, m_24, m_25, m_26, m_27, m_28, m_29, m_30, m_31, m_32, m_33, m_34, m_35, m_36, m_37, m_38, m_39, m_40, m_41, m_42, m_43, m_44, m_45, m_46, m_47, m_48, m_49, m_50, m_51, m_52, m_53, m_54, m_55, m_56, m_57, m_58, m_59])), (t0, .inl (K 0, 400, .inl ft))]) [0, 1] (by decide) rfl
      exact W.iret (v := x_71) hx hb hr (fun t ht hW => ⟨⟨x_71, ((fun _ => 0, fun _ => fun _ => 0, fun _ => fun _ => 0, fun i => match i with | 0 => (u_98.2.2.2.1 0) | 1 => (u_98.2.2.2.1 1) | 2 => (u_98.2.2.2.1 2) | 3 => (u_98.2.2.2.1 3) | _ => (u_98.2.2.2.1 4), fun i => match i with | _ => (u_98.2.2.2.2.1 0), fun _ => fun _ => none) : Su), rfl, ⟨(show 0 ≤ ((u_98.2.2.2.1 0) : Int32).toInt ∧ ((u_98.2.2.2.1 0) : Int32).toInt ≤ 400 by omega), (show 0 ≤ ((u_98.2.2.2.1 1) : Int32).toInt ∧ ((u_98.2.2.2.1 1) : Int32).toInt ≤ 400 by omega), (show 0 ≤ ((u_98.2.2.2.1 2) : Int32).toInt ∧ ((u_98.2.2.2.1 2) : Int32).toInt ≤ 3 by omega), (show 0 ≤ ((u_98.2.2.2.1 4) : Int32).toInt ∧ ((u_98.2.2.2.1 4) : Int32).toInt ≤ 1 by omega), (show ((0 ≤ ((u_98.2.2.2.1 0) : Int32).toInt ∧ ((u_98.2.2.2.1 0) : Int32).toInt ≤ ((u_98.2.2.2.1 1) : Int32).toInt ∧ ((u_98.2.2.2.1 1) : Int32).toInt ≤ ta.toInt) ∧ (((u_98.2.2.2.1 2) : Int32).toInt = 0 ∨ ((u_98.2.2.2.1 0) : Int32).toInt < ((u_98.2.2.2.1 1) : Int32).toInt) ∧ (((u_98.2.2.2.1 2) : Int32).toInt ≠ 1 ∨ ((u_98.2.2.2.1 0) : Int32).toInt + 1 < ((u_98.2.2.2.1 1) : Int32).toInt ∨ ((u_98.2.2.2.2.1 0) : Int64).toInt ≤ 26)) by omega), (show (((u_98.2.2.2.1 4) : Int32).toInt = 1 ∨ (bd.toInt = 0 ∧ so.toInt = 2 ∧ to.toInt ≤ ((u_98.2.2.2.1 0) : Int32).toInt)) by omega), (show fr.toInt ≤ ((u_98.2.2.2.1 0) : Int32).toInt by omega), trivial⟩, (⟨by rw [ht]; exact hP9, hD9⟩ : Wd D A _ t)⟩, hS.F ht⟩) hS.2.2 dX12_number_38
set_option maxHeartbeats 4000000 in
set_option maxRecDepth 100000 in
theorem v_partAt (l : Launch) (D : va_G) (K : Nat → ClassId) (m0 : Nat) (m_0 : Value) (m_1 : Value) (m_2 : Value) (m_3 : Value) (m_4 : Value) (m_5 : Value) (m_6 : Value) (m_7 : Value) (m_8 : Value) (m_9 : Value) (m_10 : Value) (m_11 : Value) (m_12 : Value) (m_13 : Value) (m_14 : Value) (m_15 : Value) (so : Int32) (wo : Int64) (m_18 : Value) (m_19 : Value) (m_20 : Value) (m_21 : Value) (m_22 : Value) (m_23 : Value) (m_24 : Value) (m_25 : Value) (m_26 : Value) (m_27 : Value) (m_28 : Value) (m_29 : Value) (m_30 : Value) (wd : Nat) (m_32 : Value) (m_33 : Value) (m_34 : Value) (m_35 : Value) (m_36 : Value) (m_37 : Value) (m_38 : Value) (m_39 : Value) (m_40 : Value) (m_41 : Value) (m_42 : Value) (m_43 : Value) (m_44 : Value) (m_45 : Value) (m_46 : Value) (m_47 : Value) (m_48 : Value) (m_49 : Value) (m_50 : Value) (m_51 : Value) (m_52 : Value) (m_53 : Value) (m_54 : Value) (m_55 : Value) (m_56 : Value) (m_57 : Value) (m_58 : Value) (m_59 : Value) (fwd : Nat → Int64) (sz : Nat) : Met l yX12_partAt wsX12_partAt ({ frames := 1, cells := 0, slots := 0, locals := 22 }) (va_Pc [.ref m0] (Pre D K [(m0, .inr (12, [m_0, m_1, m_2, m_3, m_4, m_5, m_6, m_7, m_8, m_9, m_10, m_11, m_12, m_13, m_14, m_15, .int so, .long wo, m_18, m_19, m_20, m_21, m_22, m_23, m_24, m_25, m_26, m_27, m_28, m_29, m_30, .ref wd, m_32, m_33, m_34, m_35, m_36, m_37, m_38, m_39, m_40, m_41, m_42, m_43, m_44, m_45, m_46, m_47, m_48, m_49, m_50, m_51, m_52, m_53, m_54, m_55, m_56, m_57, m_58, m_59])), (wd, .inl (K 2, 9, .inr (.inl fwd)))] sz)) (vp_Si (fun r : Int32 => (r.toInt = -1 ∨ (so.toInt = 1 ∧ 1 ≤ r.toInt ∧ r.toInt ≤ 9)) ∧ True)) 0 0 (fun _ => False) := by
  refine Met.ofW (cc := cX12_partAt) (maxL := 3) (ret := (some .int)) (by decide) rfl ?_
  intro p e s m args below meth c s₁ B hml hv
  obtain ⟨rfl, hsz, hP, hK, hD0, hN⟩ := hv
  have hx := B.exec
  have hb := B.bytes
  have hr := B.returns
  have hts := atoms_spec (ws := wsX12_partAt) B.pre
  have hown : s.vm.findClass RX12 = some m.cls := findClass_of_methodNamed B.named
  have hlocks := B.notSynchronized
  subst hsz
  have hD := hD0
  have hP : va_P D vwCl [(m0, .inr (12, [m_0, m_1, m_2, m_3, m_4, m_5, m_6, m_7, m_8, m_9, m_10, m_11, m_12, m_13, m_14, m_15, .int so, .long wo, m_18, m_19, m_20, m_21, m_22, m_23, m_24, m_25, m_26, m_27, m_28, m_29, m_30, .ref wd, m_32, m_33, m_34, m_35, m_36, m_37, m_38, m_39, m_40, m_41, m_42, m_43, m_44, m_45, m_46, m_47, m_48, m_49, m_50, m_51, m_52, m_53, m_54, m_55, m_56, m_57, m_58, m_59])), (wd, .inl (K 2, 9, .inr (.inl fwd)))] s.heap := hP
  have hl := lv_entry [.ref m0] (n := 3) (Nat.le_of_ble_eq_true rfl)
  rw [lg_entry_eq]
  generalize (lg_sl [.ref m0] ++ List.replicate (3 - (lg_sl [.ref m0]).length) Slot.unset).toArray = ls at hl ⊢
  have hl : lv_has ls 3 [(0, .ref m0)] := hl
  have hw12 : ∀ w ∈ wsX120, w ∈ wsX12_partAt := fun w h => (List.mem_cons_of_mem _ (List.mem_append_right _ h))
  generalize hQ : MQ below _ _ s _ _ _ = Q
  refine lv_iconst (v := (-1)) hx hb dX12_partAt_0 (by decide) ?_
  refine lv_istore_n (lv' := [(1, .int (-1)), (0, .ref m0)]) hx hb dX12_partAt_1 rfl hl (by decide) rfl (fun ls hl => ?_)
  refine lv_iconst (v := 0) hx hb dX12_partAt_2 (by decide) ?_
  refine lv_istore_n (lv' := [(2, .int 0), (1, .int (-1)), (0, .ref m0)]) hx hb dX12_partAt_3 rfl hl (by decide) rfl (fun ls hl => ?_)
  have lp_233 : ∀ (nn_ : Nat) (v_209 : Int32) (v_210 : Int32) (hv_209 : 0 ≤ v_209.toInt ∧ v_209.toInt ≤ 9) (hv_210 : (-1) ≤ v_210.toInt ∧ v_210.toInt ≤ 9) (hr0_lp_233 : (v_210.toInt = -1 ∨ (so.toInt = 1 ∧ 1 ≤ v_210.toInt ∧ v_210.toInt ≤ v_209.toInt))) (hn : (10 - v_209.toInt : Int).toNat < nn_) (ls : Array Slot) (hl : lv_has ls 3 [(2, .int v_209), (1, .int v_210), (0, .ref m0)]), W p l e ({ frames := 1, cells := 0, slots := 0, locals := 22 }) s m (([.ref m0] : List Value).toArray) below meth c s.heap [] 0 0 Q (F0 m 4 ls []) := by
    intro nn_
    induction nn_ with
    | zero =>
      intro v_209 v_210 hv_209 hv_210 hr0_lp_233 hn ls hl
      exact absurd hn (Nat.not_lt_zero _)
    | succ nn_ ih_234 =>
      intro v_209 v_210 hv_209 hv_210 hr0_lp_233 hn ls hl
      refine lv_iload_n hx hb dX12_partAt_4 rfl (lv_at hl 0 rfl) ?_
      refine lv_bipush (v := 9) hx hb dX12_partAt_5 (by decide) ?_
      refine lv_icmp_ge (tgt := 37) hx hb dX12_partAt_7 (by decide) (fun c_235 => ?_) (fun c_235 => ?_)
      · have c_235i := i_le (x := 9) (y := v_209.toInt) rfl rfl c_235
        refine lv_iload_n hx hb dX12_partAt_37 rfl (lv_at hl 1 rfl) ?_
        subst hQ
        exact W.iret (v := v_210) hx hb hr (fun t ht hW => ⟨_, rfl, ⟨by omega, trivial⟩, ht⟩) (fun q hq => by cases hq) dX12_partAt_38
      · have c_235i := i_nle (x := 9) (y := v_209.toInt) rfl rfl c_235
        refine lv_aload_n hx hb dX12_partAt_10 rfl (lv_at hl 2 rfl) ?_
        refine lv_aload_n hx hb dX12_partAt_11 rfl (lv_at hl 2 rfl) ?_
        refine va_get (ci := 12) (v := .ref wd) (C := RX12) (T := TX12) (N := 60) hx hb hts hw12 hown hK hP 0 rfl rfl 31 (by decide) (hts (.fieldLink RX12 75 "SmokeTuneModel" "words" "[J") (List.mem_cons_of_mem _ (List.mem_append_left _ (List.mem_of_getElem? (i := 0) rfl)))) (fun _ h9 => h9) rfl dX12_partAt_12 ?_
        refine lv_iload_n hx hb dX12_partAt_15 rfl (lv_at hl 0 rfl) ?_
        refine va_lald hx hb hK hP 1 2 rfl rfl (i_in rfl (by omega)) dX12_partAt_16 ?_
        refine lv_topl (fun x_236 ex_236 => ?_)
        refine pci (va_runV (As := [.long x_236]) (rest := []) ⟨hx, hb, hml, hown, hts⟩ (v_isWord l D K m0 x_236 m_0 m_1 m_2 m_3 m_4 m_5 m_6 m_7 m_8 m_9 m_10 m_11 m_12 m_13 m_14 m_15 so wo m_18 m_19 m_20 m_21 m_22 m_23 m_24 m_25 m_26 m_27 m_28 m_29 m_30 (.ref wd) m_32 m_33 m_34 m_35 m_36 m_37 m_38 m_39 m_40 m_41 m_42 m_43 m_44 m_45 m_46 m_47 m_48 m_49 m_50 m_51 m_52 m_53 m_54 m_55 m_56 m_57 m_58 m_59 s.heap.size) (cwV 1 hts gX12_partAt_X12_isWord rfl rfl rfl (by decide +kernel) ⟨Nat.le_of_ble_eq_true rfl, Nat.le_of_ble_eq_true rfl⟩) (mkV hK hN (hP.sub [0] rfl) (hD.sub [0] (by decide) rfl) (ci := 12) (q0 := 0) rfl rfl) rfl rfl hl.1 rfl (lv_room (Nat.le_of_ble_eq_true rfl)) dX12_partAt_17 ⟨Nat.le_of_ble_eq_true rfl, Nat.le_of_ble_eq_true rfl⟩) (fun r_237 hw => ?_)
        obtain ⟨hw, -⟩ := hw
        rcases hw with ⟨rfl, h_238, h_239⟩ | rfl
        · refine lv_if_eq (tgt := 29) hx hb dX12_partAt_20 (by decide) (fun c_240 => absurd c_240 (by decide)) (fun c_240 => ?_)
          refine lv_iload_n hx hb dX12_partAt_23 rfl (lv_at hl 0 rfl) ?_
          refine lv_iconst (v := 1) hx hb dX12_partAt_24 (by decide) ?_
          refine lv_iadd hx hb dX12_partAt_25 ?_
          refine lv_topi (fun x_241 ex_241 => ?_)
          have hx_241 : x_241.toInt = (v_209.toInt + 1) := by rw [ex_241]; exact i_add rfl (show (1 : Int32).toInt = 1 from rfl) (by omega)
          refine lv_goto (tgt := 30) hx hb dX12_partAt_26 (by decide) ?_
          refine lv_istore_n (lv' := [(1, .int x_241), (2, .int v_209), (0, .ref m0)]) hx hb dX12_partAt_30 rfl hl (by decide) rfl (fun ls hl => ?_)
          obtain ⟨x_242, ex_242⟩ : ∃ y : Int32, y = v_209 + Int32.ofInt 1 := ⟨_, rfl⟩
          have hx_242 : x_242.toInt = (v_209.toInt + 1) := by rw [ex_242]; exact i_add rfl (show (Int32.ofInt 1).toInt = 1 from rfl) (by omega)
          refine lv_iinc (v := x_242) (lv' := [(2, .int x_242), (1, .int x_241), (0, .ref m0)]) hx hb dX12_partAt_31 hl (k := 1) rfl (by rw [ex_242]) (by decide) rfl (fun ls hl => ?_)
          refine lv_goto (tgt := 4) hx hb dX12_partAt_34 (by decide) ?_
          exact ih_234 x_242 x_241 (by rw [hx_242]; omega) (by rw [hx_241]; omega) (show ((x_241 : Int32).toInt = -1 ∨ (so.toInt = 1 ∧ 1 ≤ (x_241 : Int32).toInt ∧ (x_241 : Int32).toInt ≤ (x_242 : Int32).toInt)) by omega) (by omega) ls (lv_sub hl [0, 1, 2] rfl)
        · refine lv_if_eq (tgt := 29) hx hb dX12_partAt_20 (by decide) (fun c_243 => ?_) (fun c_243 => absurd (by decide) c_243)
          refine lv_iload_n hx hb dX12_partAt_29 rfl (lv_at hl 1 rfl) ?_
          refine lv_istore_n (lv' := [(1, .int v_210), (2, .int v_209), (0, .ref m0)]) hx hb dX12_partAt_30 rfl hl (by decide) rfl (fun ls hl => ?_)
          obtain ⟨x_244, ex_244⟩ : ∃ y : Int32, y = v_209 + Int32.ofInt 1 := ⟨_, rfl⟩
          have hx_244 : x_244.toInt = (v_209.toInt + 1) := by rw [ex_244]; exact i_add rfl (show (Int32.ofInt 1).toInt = 1 from rfl) (by omega)
          refine lv_iinc (v := x_244) (lv' := [(2, .int x_244), (1, .int v_210), (0, .ref m0)]) hx hb dX12_partAt_31 hl (k := 1) rfl (by rw [ex_244]) (by decide) rfl (fun ls hl => ?_)
          refine lv_goto (tgt := 4) hx hb dX12_partAt_34 (by decide) ?_
          exact ih_234 x_244 v_210 (by rw [hx_244]; omega) (by omega) (show ((v_210 : Int32).toInt = -1 ∨ (so.toInt = 1 ∧ 1 ≤ (v_210 : Int32).toInt ∧ (v_210 : Int32).toInt ≤ (x_244 : Int32).toInt)) by omega) (by omega) ls (lv_sub hl [0, 1, 2] rfl)
  have hz_245 : (0 : Int32).toInt = 0 := rfl
  have hz_246 : ((-1) : Int32).toInt = (-1) := rfl
  exact lp_233 ((10 - (0 : Int32).toInt : Int).toNat + 1) 0 (-1) (by decide) (by decide) (show (((-1) : Int32).toInt = -1 ∨ (so.toInt = 1 ∧ 1 ≤ ((-1) : Int32).toInt ∧ ((-1) : Int32).toInt ≤ (0 : Int32).toInt)) by omega) (Nat.lt_succ_self _) ls (lv_sub hl [0, 1, 2] rfl)
set_option maxHeartbeats 4000000 in
set_option maxRecDepth 100000 in
theorem v_orderPartAt (l : Launch) (D : va_G) (K : Nat → ClassId) (m0 : Nat) (m_0 : Value) (m_1 : Value) (m_2 : Value) (m_3 : Value) (m_4 : Value) (m_5 : Value) (m_6 : Value) (m_7 : Value) (m_8 : Value) (m_9 : Value) (m_10 : Value) (m_11 : Value) (m_12 : Value) (m_13 : Value) (m_14 : Value) (m_15 : Value) (so : Int32) (wo : Int64) (m_18 : Value) (m_19 : Value) (m_20 : Value) (m_21 : Value) (m_22 : Value) (m_23 : Value) (m_24 : Value) (m_25 : Value) (m_26 : Value) (m_27 : Value) (m_28 : Value) (m_29 : Value) (m_30 : Value) (m_31 : Value) (wd : Nat) (m_33 : Value) (m_34 : Value) (m_35 : Value) (m_36 : Value) (m_37 : Value) (m_38 : Value) (m_39 : Value) (m_40 : Value) (m_41 : Value) (m_42 : Value) (m_43 : Value) (m_44 : Value) (m_45 : Value) (m_46 : Value) (m_47 : Value) (m_48 : Value) (m_49 : Value) (m_50 : Value) (m_51 : Value) (m_52 : Value) (m_53 : Value) (m_54 : Value) (m_55 : Value) (m_56 : Value) (m_57 : Value) (m_58 : Value) (m_59 : Value) (fwd : Nat → Int64) (sz : Nat) : Met l yX12_orderPartAt wsX12_orderPartAt ({ frames := 1, cells := 0, slots := 0, locals := 22 }) (va_Pc [.ref m0] (Pre D K [(m0, .inr (12, [m_0, m_1, m_2, m_3, m_4, m_5, m_6, m_7, m_8, m_9, m_10, m_11, m_12, m_13, m_14, m_15, .int so, .long wo, m_18, m_19, m_20, m_21, m_22, m_23, m_24, m_25, m_26, m_27, m_28, m_29, m_30, m_31, .ref wd, m_33, m_34, m_35, m_36, m_37, m_38, m_39, m_40, m_41, m_42, m_43, m_44, m_45, m_46, m_47, m_48, m_49, m_50, m_51, m_52, m_53, m_54, m_55, m_56, m_57, m_58, m_59])), (wd, .inl (K 2, 8, .inr (.inl fwd)))] sz)) (vp_Si (fun r : Int32 => (r.toInt = -1 ∨ (so.toInt = 1 ∧ 1 ≤ r.toInt ∧ r.toInt ≤ 8)) ∧ True)) 0 0 (fun _ => False) := by
  refine Met.ofW (cc := cX12_orderPartAt) (maxL := 3) (ret := (some .int)) (by decide) rfl ?_
  intro p e s m args below meth c s₁ B hml hv
  obtain ⟨rfl, hsz, hP, hK, hD0, hN⟩ := hv
  have hx := B.exec
  have hb := B.bytes
  have hr := B.returns
  have hts := atoms_spec (ws := wsX12_orderPartAt) B.pre
  have hown : s.vm.findClass RX12 = some m.cls := findClass_of_methodNamed B.named
  have hlocks := B.notSynchronized
  subst hsz
  have hD := hD0
  have hP : va_P D vwCl [(m0, .inr (12, [m_0, m_1, m_2, m_3, m_4, m_5, m_6, m_7, m_8, m_9, m_10, m_11, m_12, m_13, m_14, m_15, .int so, .long wo, m_18, m_19, m_20, m_21, m_22, m_23, m_24, m_25, m_26, m_27, m_28, m_29, m_30, m_31, .ref wd, m_33, m_34, m_35, m_36, m_37, m_38, m_39, m_40, m_41, m_42, m_43, m_44, m_45, m_46, m_47, m_48, m_49, m_50, m_51, m_52, m_53, m_54, m_55, m_56, m_57, m_58, m_59])), (wd, .inl (K 2, 8, .inr (.inl fwd)))] s.heap := hP
  have hl := lv_entry [.ref m0] (n := 3) (Nat.le_of_ble_eq_true rfl)
  rw [lg_entry_eq]
  generalize (lg_sl [.ref m0] ++ List.replicate (3 - (lg_sl [.ref m0]).length) Slot.unset).toArray = ls at hl ⊢
  have hl : lv_has ls 3 [(0, .ref m0)] := hl
  have hw12 : ∀ w ∈ wsX120, w ∈ wsX12_orderPartAt := fun w h => (List.mem_cons_of_mem _ (List.mem_append_right _ h))
  generalize hQ : MQ below _ _ s _ _ _ = Q
  refine lv_iconst (v := (-1)) hx hb dX12_orderPartAt_0 (by decide) ?_
  refine lv_istore_n (lv' := [(1, .int (-1)), (0, .ref m0)]) hx hb dX12_orderPartAt_1 rfl hl (by decide) rfl (fun ls hl => ?_)
  refine lv_iconst (v := 0) hx hb dX12_orderPartAt_2 (by decide) ?_
  refine lv_istore_n (lv' := [(2, .int 0), (1, .int (-1)), (0, .ref m0)]) hx hb dX12_orderPartAt_3 rfl hl (by decide) rfl (fun ls hl => ?_)
  have lp_233 : ∀ (nn_ : Nat) (v_209 : Int32) (v_210 : Int32) (hv_209 : 0 ≤ v_209.toInt ∧ v_209.toInt ≤ 8) (hv_210 : (-1) ≤ v_210.toInt ∧ v_210.toInt ≤ 9) (hr0_lp_233 : (v_210.toInt = -1 ∨ (so.toInt = 1 ∧ 1 ≤ v_210.toInt ∧ v_210.toInt ≤ v_209.toInt))) (hn : (9 - v_209.toInt : Int).toNat < nn_) (ls : Array Slot) (hl : lv_has ls 3 [(2, .int v_209), (1, .int v_210), (0, .ref m0)]), W p l e ({ frames := 1, cells := 0, slots := 0, locals := 22 }) s m (([.ref m0] : List Value).toArray) below meth c s.heap [] 0 0 Q (F0 m 4 ls []) := by
    intro nn_
    induction nn_ with
    | zero =>
      intro v_209 v_210 hv_209 hv_210 hr0_lp_233 hn ls hl
      exact absurd hn (Nat.not_lt_zero _)
    | succ nn_ ih_234 =>
      intro v_209 v_210 hv_209 hv_210 hr0_lp_233 hn ls hl
      refine lv_iload_n hx hb dX12_orderPartAt_4 rfl (lv_at hl 0 rfl) ?_
      refine lv_bipush (v := 8) hx hb dX12_orderPartAt_5 (by decide) ?_
      refine lv_icmp_ge (tgt := 37) hx hb dX12_orderPartAt_7 (by decide) (fun c_235 => ?_) (fun c_235 => ?_)
      · have c_235i := i_le (x := 8) (y := v_209.toInt) rfl rfl c_235
        refine lv_iload_n hx hb dX12_orderPartAt_37 rfl (lv_at hl 1 rfl) ?_
        subst hQ
        exact W.iret (v := v_210) hx hb hr (fun t ht hW => ⟨_, rfl, ⟨by omega, trivial⟩, ht⟩) (fun q hq => by cases hq) dX12_orderPartAt_38
      · have c_235i := i_nle (x := 8) (y := v_209.toInt) rfl rfl c_235
        refine lv_aload_n hx hb dX12_orderPartAt_10 rfl (lv_at hl 2 rfl) ?_
        refine lv_aload_n hx hb dX12_orderPartAt_11 rfl (lv_at hl 2 rfl) ?_
        refine va_get (ci := 12) (v := .ref wd) (C := RX12) (T := TX12) (N := 60) hx hb hts hw12 hown hK hP 0 rfl rfl 32 (by decide) (hts (.fieldLink RX12 87 "SmokeTuneModel" "orderWords" "[J") (List.mem_cons_of_mem _ (List.mem_append_left _ (List.mem_of_getElem? (i := 0) rfl)))) (fun _ h9 => h9) rfl dX12_orderPartAt_12 ?_
        refine lv_iload_n hx hb dX12_orderPartAt_15 rfl (lv_at hl 0 rfl) ?_
        refine va_lald hx hb hK hP 1 2 rfl rfl (i_in rfl (by omega)) dX12_orderPartAt_16 ?_
        refine lv_topl (fun x_236 ex_236 => ?_)
        refine pci (va_runV (As := [.long x_236]) (rest := []) ⟨hx, hb, hml, hown, hts⟩ (v_isWord l D K m0 x_236 m_0 m_1 m_2 m_3 m_4 m_5 m_6 m_7 m_8 m_9 m_10 m_11 m_12 m_13 m_14 m_15 so wo m_18 m_19 m_20 m_21 m_22 m_23 m_24 m_25 m_26 m_27 m_28 m_29 m_30 m_31 (.ref wd) m_33 m_34 m_35 m_36 m_37 m_38 m_39 m_40 m_41 m_42 m_43 m_44 m_45 m_46 m_47 m_48 m_49 m_50 m_51 m_52 m_53 m_54 m_55 m_56 m_57 m_58 m_59 s.heap.size) (cwV 1 hts gX12_orderPartAt_X12_isWord rfl rfl rfl (by decide +kernel) ⟨Nat.le_of_ble_eq_true rfl, Nat.le_of_ble_eq_true rfl⟩) (mkV hK hN (hP.sub [0] rfl) (hD.sub [0] (by decide) rfl) (ci := 12) (q0 := 0) rfl rfl) rfl rfl hl.1 rfl (lv_room (Nat.le_of_ble_eq_true rfl)) dX12_orderPartAt_17 ⟨Nat.le_of_ble_eq_true rfl, Nat.le_of_ble_eq_true rfl⟩) (fun r_237 hw => ?_)
        obtain ⟨hw, -⟩ := hw
        rcases hw with ⟨rfl, h_238, h_239⟩ | rfl
        · refine lv_if_eq (tgt := 29) hx hb dX12_orderPartAt_20 (by decide) (fun c_240 => absurd c_240 (by decide)) (fun c_240 => ?_)
          refine lv_iload_n hx hb dX12_orderPartAt_23 rfl (lv_at hl 0 rfl) ?_
          refine lv_iconst (v := 1) hx hb dX12_orderPartAt_24 (by decide) ?_
          refine lv_iadd hx hb dX12_orderPartAt_25 ?_
          refine lv_topi (fun x_241 ex_241 => ?_)
          have hx_241 : x_241.toInt = (v_209.toInt + 1) := by rw [ex_241]; exact i_add rfl (show (1 : Int32).toInt = 1 from rfl) (by omega)
          refine lv_goto (tgt := 30) hx hb dX12_orderPartAt_26 (by decide) ?_
          refine lv_istore_n (lv' := [(1, .int x_241), (2, .int v_209), (0, .ref m0)]) hx hb dX12_orderPartAt_30 rfl hl (by decide) rfl (fun ls hl => ?_)
          obtain ⟨x_242, ex_242⟩ : ∃ y : Int32, y = v_209 + Int32.ofInt 1 := ⟨_, rfl⟩
          have hx_242 : x_242.toInt = (v_209.toInt + 1) := by rw [ex_242]; exact i_add rfl (show (Int32.ofInt 1).toInt = 1 from rfl) (by omega)
          refine lv_iinc (v := x_242) (lv' := [(2, .int x_242), (1, .int x_241), (0, .ref m0)]) hx hb dX12_orderPartAt_31 hl (k := 1) rfl (by rw [ex_242]) (by decide) rfl (fun ls hl => ?_)
          refine lv_goto (tgt := 4) hx hb dX12_orderPartAt_34 (by decide) ?_
          exact ih_234 x_242 x_241 (by rw [hx_242]; omega) (by rw [hx_241]; omega) (show ((x_241 : Int32).toInt = -1 ∨ (so.toInt = 1 ∧ 1 ≤ (x_241 : Int32).toInt ∧ (x_241 : Int32).toInt ≤ (x_242 : Int32).toInt)) by omega) (by omega) ls (lv_sub hl [0, 1, 2] rfl)
        · refine lv_if_eq (tgt := 29) hx hb dX12_orderPartAt_20 (by decide) (fun c_243 => ?_) (fun c_243 => absurd (by decide) c_243)
          refine lv_iload_n hx hb dX12_orderPartAt_29 rfl (lv_at hl 1 rfl) ?_
          refine lv_istore_n (lv' := [(1, .int v_210), (2, .int v_209), (0, .ref m0)]) hx hb dX12_orderPartAt_30 rfl hl (by decide) rfl (fun ls hl => ?_)
          obtain ⟨x_244, ex_244⟩ : ∃ y : Int32, y = v_209 + Int32.ofInt 1 := ⟨_, rfl⟩
          have hx_244 : x_244.toInt = (v_209.toInt + 1) := by rw [ex_244]; exact i_add rfl (show (Int32.ofInt 1).toInt = 1 from rfl) (by omega)
          refine lv_iinc (v := x_244) (lv' := [(2, .int x_244), (1, .int v_210), (0, .ref m0)]) hx hb dX12_orderPartAt_31 hl (k := 1) rfl (by rw [ex_244]) (by decide) rfl (fun ls hl => ?_)
          refine lv_goto (tgt := 4) hx hb dX12_orderPartAt_34 (by decide) ?_
          exact ih_234 x_244 v_210 (by rw [hx_244]; omega) (by omega) (show ((v_210 : Int32).toInt = -1 ∨ (so.toInt = 1 ∧ 1 ≤ (v_210 : Int32).toInt ∧ (v_210 : Int32).toInt ≤ (x_244 : Int32).toInt)) by omega) (by omega) ls (lv_sub hl [0, 1, 2] rfl)
  have hz_245 : (0 : Int32).toInt = 0 := rfl
  have hz_246 : ((-1) : Int32).toInt = (-1) := rfl
  exact lp_233 ((9 - (0 : Int32).toInt : Int).toNat + 1) 0 (-1) (by decide) (by decide) (show (((-1) : Int32).toInt = -1 ∨ (so.toInt = 1 ∧ 1 ≤ ((-1) : Int32).toInt ∧ ((-1) : Int32).toInt ≤ (0 : Int32).toInt)) by omega) (Nat.lt_succ_self _) ls (lv_sub hl [0, 1, 2] rfl)
