theorem dX12_reckon_0 : decode cX12_reckon 0 = .ok (.iload_n 1, 1) := by decide +kernel
theorem dX12_reckon_1 : decode cX12_reckon 1 = .ok (.tableswitch 148 20 26 #[43, 48, 53, 58, 90, 122, 135], 43) := by decide +kernel
theorem dX12_reckon_44 : decode cX12_reckon 44 = .ok (.lload_n 2, 1) := by decide +kernel
theorem dX12_reckon_45 : decode cX12_reckon 45 = .ok (.lload 4, 2) := by decide +kernel
theorem dX12_reckon_47 : decode cX12_reckon 47 = .ok (.ladd, 1) := by decide +kernel
theorem dX12_reckon_48 : decode cX12_reckon 48 = .ok (.lreturn, 1) := by decide +kernel
theorem dX12_reckon_49 : decode cX12_reckon 49 = .ok (.lload_n 2, 1) := by decide +kernel
theorem dX12_reckon_50 : decode cX12_reckon 50 = .ok (.lload 4, 2) := by decide +kernel
theorem dX12_reckon_52 : decode cX12_reckon 52 = .ok (.lsub, 1) := by decide +kernel
theorem dX12_reckon_53 : decode cX12_reckon 53 = .ok (.lreturn, 1) := by decide +kernel
theorem dX12_reckon_54 : decode cX12_reckon 54 = .ok (.lload_n 2, 1) := by decide +kernel
theorem dX12_reckon_55 : decode cX12_reckon 55 = .ok (.lload 4, 2) := by decide +kernel
theorem dX12_reckon_57 : decode cX12_reckon 57 = .ok (.lmul, 1) := by decide +kernel
theorem dX12_reckon_58 : decode cX12_reckon 58 = .ok (.lreturn, 1) := by decide +kernel
theorem dX12_reckon_59 : decode cX12_reckon 59 = .ok (.aload_n 0, 1) := by decide +kernel
theorem dX12_reckon_60 : decode cX12_reckon 60 = .ok (.lload 4, 2) := by decide +kernel
theorem dX12_reckon_62 : decode cX12_reckon 62 = .ok (.lconst 0, 1) := by decide +kernel
theorem dX12_reckon_63 : decode cX12_reckon 63 = .ok (.lcmp, 1) := by decide +kernel
theorem dX12_reckon_64 : decode cX12_reckon 64 = .ok (.ifCond .ne 7, 3) := by decide +kernel
theorem dX12_reckon_71 : decode cX12_reckon 71 = .ok (.iconst 0, 1) := by decide +kernel
theorem dX12_reckon_72 : decode cX12_reckon 72 = .ok (.putfield 386, 3) := by decide +kernel
theorem dX12_reckon_75 : decode cX12_reckon 75 = .ok (.aload_n 0, 1) := by decide +kernel
theorem dX12_reckon_76 : decode cX12_reckon 76 = .ok (.getfield 386, 3) := by decide +kernel
theorem dX12_reckon_79 : decode cX12_reckon 79 = .ok (.ifCond .eq 7, 3) := by decide +kernel
theorem dX12_reckon_86 : decode cX12_reckon 86 = .ok (.lload_n 2, 1) := by decide +kernel
theorem dX12_reckon_87 : decode cX12_reckon 87 = .ok (.lload 4, 2) := by decide +kernel
theorem dX12_reckon_89 : decode cX12_reckon 89 = .ok (.ldiv, 1) := by decide +kernel
theorem dX12_reckon_90 : decode cX12_reckon 90 = .ok (.lreturn, 1) := by decide +kernel
theorem dX12_reckon_67 : decode cX12_reckon 67 = .ok (.iconst 1, 1) := by decide +kernel
theorem dX12_reckon_68 : decode cX12_reckon 68 = .ok (.goto 4, 3) := by decide +kernel
theorem dX12_reckon_82 : decode cX12_reckon 82 = .ok (.lconst 0, 1) := by decide +kernel
theorem dX12_reckon_83 : decode cX12_reckon 83 = .ok (.goto 7, 3) := by decide +kernel
theorem dX12_reckon_91 : decode cX12_reckon 91 = .ok (.aload_n 0, 1) := by decide +kernel
theorem dX12_reckon_92 : decode cX12_reckon 92 = .ok (.lload 4, 2) := by decide +kernel
theorem dX12_reckon_94 : decode cX12_reckon 94 = .ok (.lconst 0, 1) := by decide +kernel
theorem dX12_reckon_95 : decode cX12_reckon 95 = .ok (.lcmp, 1) := by decide +kernel
theorem dX12_reckon_96 : decode cX12_reckon 96 = .ok (.ifCond .ne 7, 3) := by decide +kernel
theorem dX12_reckon_103 : decode cX12_reckon 103 = .ok (.iconst 0, 1) := by decide +kernel
theorem dX12_reckon_104 : decode cX12_reckon 104 = .ok (.putfield 386, 3) := by decide +kernel
theorem dX12_reckon_107 : decode cX12_reckon 107 = .ok (.aload_n 0, 1) := by decide +kernel
theorem dX12_reckon_108 : decode cX12_reckon 108 = .ok (.getfield 386, 3) := by decide +kernel
theorem dX12_reckon_111 : decode cX12_reckon 111 = .ok (.ifCond .eq 7, 3) := by decide +kernel
theorem dX12_reckon_118 : decode cX12_reckon 118 = .ok (.lload_n 2, 1) := by decide +kernel
theorem dX12_reckon_119 : decode cX12_reckon 119 = .ok (.lload 4, 2) := by decide +kernel
theorem dX12_reckon_121 : decode cX12_reckon 121 = .ok (.lrem, 1) := by decide +kernel
theorem dX12_reckon_122 : decode cX12_reckon 122 = .ok (.lreturn, 1) := by decide +kernel
theorem dX12_reckon_99 : decode cX12_reckon 99 = .ok (.iconst 1, 1) := by decide +kernel
theorem dX12_reckon_100 : decode cX12_reckon 100 = .ok (.goto 4, 3) := by decide +kernel
theorem dX12_reckon_114 : decode cX12_reckon 114 = .ok (.lconst 0, 1) := by decide +kernel
theorem dX12_reckon_115 : decode cX12_reckon 115 = .ok (.goto 7, 3) := by decide +kernel
theorem dX12_reckon_123 : decode cX12_reckon 123 = .ok (.lload_n 2, 1) := by decide +kernel
theorem dX12_reckon_124 : decode cX12_reckon 124 = .ok (.lload 4, 2) := by decide +kernel
theorem dX12_reckon_126 : decode cX12_reckon 126 = .ok (.lcmp, 1) := by decide +kernel
theorem dX12_reckon_127 : decode cX12_reckon 127 = .ok (.ifCond .ge 7, 3) := by decide +kernel
theorem dX12_reckon_134 : decode cX12_reckon 134 = .ok (.lconst 0, 1) := by decide +kernel
theorem dX12_reckon_135 : decode cX12_reckon 135 = .ok (.lreturn, 1) := by decide +kernel
theorem dX12_reckon_130 : decode cX12_reckon 130 = .ok (.lconst 1, 1) := by decide +kernel
theorem dX12_reckon_131 : decode cX12_reckon 131 = .ok (.goto 4, 3) := by decide +kernel
theorem dX12_reckon_136 : decode cX12_reckon 136 = .ok (.lload_n 2, 1) := by decide +kernel
theorem dX12_reckon_137 : decode cX12_reckon 137 = .ok (.lload 4, 2) := by decide +kernel
theorem dX12_reckon_139 : decode cX12_reckon 139 = .ok (.lcmp, 1) := by decide +kernel
theorem dX12_reckon_140 : decode cX12_reckon 140 = .ok (.ifCond .le 7, 3) := by decide +kernel
theorem dX12_reckon_147 : decode cX12_reckon 147 = .ok (.lconst 0, 1) := by decide +kernel
theorem dX12_reckon_148 : decode cX12_reckon 148 = .ok (.lreturn, 1) := by decide +kernel
theorem dX12_reckon_143 : decode cX12_reckon 143 = .ok (.lconst 1, 1) := by decide +kernel
theorem dX12_reckon_144 : decode cX12_reckon 144 = .ok (.goto 4, 3) := by decide +kernel
theorem dX12_reckon_149 : decode cX12_reckon 149 = .ok (.lload_n 2, 1) := by decide +kernel
theorem dX12_reckon_150 : decode cX12_reckon 150 = .ok (.lload 4, 2) := by decide +kernel
theorem dX12_reckon_152 : decode cX12_reckon 152 = .ok (.lcmp, 1) := by decide +kernel
theorem dX12_reckon_153 : decode cX12_reckon 153 = .ok (.ifCond .ne 7, 3) := by decide +kernel
theorem dX12_reckon_160 : decode cX12_reckon 160 = .ok (.lconst 0, 1) := by decide +kernel
theorem dX12_reckon_161 : decode cX12_reckon 161 = .ok (.lreturn, 1) := by decide +kernel
theorem dX12_reckon_156 : decode cX12_reckon 156 = .ok (.lconst 1, 1) := by decide +kernel
theorem dX12_reckon_157 : decode cX12_reckon 157 = .ok (.goto 4, 3) := by decide +kernel
theorem dX12_reckonAll_0 : decode cX12_reckonAll 0 = .ok (.aload_n 0, 1) := by decide +kernel
theorem dX12_reckonAll_1 : decode cX12_reckonAll 1 = .ok (.iconst 0, 1) := by decide +kernel
theorem dX12_reckonAll_2 : decode cX12_reckonAll 2 = .ok (.putfield 386, 3) := by decide +kernel
theorem dX12_reckonAll_5 : decode cX12_reckonAll 5 = .ok (.iconst 0, 1) := by decide +kernel
theorem dX12_reckonAll_6 : decode cX12_reckonAll 6 = .ok (.istore_n 3, 1) := by decide +kernel
theorem dX12_reckonAll_7 : decode cX12_reckonAll 7 = .ok (.iload_n 1, 1) := by decide +kernel
theorem dX12_reckonAll_8 : decode cX12_reckonAll 8 = .ok (.istore 4, 2) := by decide +kernel
theorem dX12_reckonAll_10 : decode cX12_reckonAll 10 = .ok (.iload 4, 2) := by decide +kernel
theorem dX12_reckonAll_12 : decode cX12_reckonAll 12 = .ok (.iload_n 2, 1) := by decide +kernel
theorem dX12_reckonAll_13 : decode cX12_reckonAll 13 = .ok (.if_icmp .ge 357, 3) := by decide +kernel
theorem dX12_reckonAll_16 : decode cX12_reckonAll 16 = .ok (.aload_n 0, 1) := by decide +kernel
theorem dX12_reckonAll_17 : decode cX12_reckonAll 17 = .ok (.getfield 386, 3) := by decide +kernel
theorem dX12_reckonAll_20 : decode cX12_reckonAll 20 = .ok (.ifCond .ne 350, 3) := by decide +kernel
theorem dX12_reckonAll_23 : decode cX12_reckonAll 23 = .ok (.aload_n 0, 1) := by decide +kernel
theorem dX12_reckonAll_24 : decode cX12_reckonAll 24 = .ok (.getfield 314, 3) := by decide +kernel
theorem dX12_reckonAll_27 : decode cX12_reckonAll 27 = .ok (.ifCond .eq 13, 3) := by decide +kernel
theorem dX12_reckonAll_40 : decode cX12_reckonAll 40 = .ok (.aload_n 0, 1) := by decide +kernel
theorem dX12_reckonAll_41 : decode cX12_reckonAll 41 = .ok (.getfield 13, 3) := by decide +kernel
theorem dX12_reckonAll_44 : decode cX12_reckonAll 44 = .ok (.aload_n 0, 1) := by decide +kernel
theorem dX12_reckonAll_45 : decode cX12_reckonAll 45 = .ok (.getfield 389, 3) := by decide +kernel
theorem dX12_reckonAll_48 : decode cX12_reckonAll 48 = .ok (.bipush 98, 2) := by decide +kernel
theorem dX12_reckonAll_50 : decode cX12_reckonAll 50 = .ok (.iadd, 1) := by decide +kernel
theorem dX12_reckonAll_51 : decode cX12_reckonAll 51 = .ok (.iconst 2, 1) := by decide +kernel
theorem dX12_reckonAll_52 : decode cX12_reckonAll 52 = .ok (.iload 4, 2) := by decide +kernel
theorem dX12_reckonAll_54 : decode cX12_reckonAll 54 = .ok (.imul, 1) := by decide +kernel
theorem dX12_reckonAll_55 : decode cX12_reckonAll 55 = .ok (.iadd, 1) := by decide +kernel
theorem dX12_reckonAll_56 : decode cX12_reckonAll 56 = .ok (.iaload, 1) := by decide +kernel
theorem dX12_reckonAll_57 : decode cX12_reckonAll 57 = .ok (.istore 5, 2) := by decide +kernel
theorem dX12_reckonAll_59 : decode cX12_reckonAll 59 = .ok (.aload_n 0, 1) := by decide +kernel
theorem dX12_reckonAll_60 : decode cX12_reckonAll 60 = .ok (.getfield 314, 3) := by decide +kernel
theorem dX12_reckonAll_63 : decode cX12_reckonAll 63 = .ok (.ifCond .eq 13, 3) := by decide +kernel
theorem dX12_reckonAll_76 : decode cX12_reckonAll 76 = .ok (.aload_n 0, 1) := by decide +kernel
theorem dX12_reckonAll_77 : decode cX12_reckonAll 77 = .ok (.getfield 13, 3) := by decide +kernel
theorem dX12_reckonAll_80 : decode cX12_reckonAll 80 = .ok (.aload_n 0, 1) := by decide +kernel
theorem dX12_reckonAll_81 : decode cX12_reckonAll 81 = .ok (.getfield 389, 3) := by decide +kernel
theorem dX12_reckonAll_84 : decode cX12_reckonAll 84 = .ok (.bipush 98, 2) := by decide +kernel
theorem dX12_reckonAll_86 : decode cX12_reckonAll 86 = .ok (.iadd, 1) := by decide +kernel
theorem dX12_reckonAll_87 : decode cX12_reckonAll 87 = .ok (.iconst 2, 1) := by decide +kernel
theorem dX12_reckonAll_88 : decode cX12_reckonAll 88 = .ok (.iload 4, 2) := by decide +kernel
theorem dX12_reckonAll_90 : decode cX12_reckonAll 90 = .ok (.imul, 1) := by decide +kernel
theorem dX12_reckonAll_91 : decode cX12_reckonAll 91 = .ok (.iadd, 1) := by decide +kernel
theorem dX12_reckonAll_92 : decode cX12_reckonAll 92 = .ok (.iconst 1, 1) := by decide +kernel
theorem dX12_reckonAll_93 : decode cX12_reckonAll 93 = .ok (.iadd, 1) := by decide +kernel
theorem dX12_reckonAll_94 : decode cX12_reckonAll 94 = .ok (.iaload, 1) := by decide +kernel
theorem dX12_reckonAll_95 : decode cX12_reckonAll 95 = .ok (.istore 6, 2) := by decide +kernel
theorem dX12_reckonAll_97 : decode cX12_reckonAll 97 = .ok (.iinc 4 1, 3) := by decide +kernel
theorem dX12_reckonAll_100 : decode cX12_reckonAll 100 = .ok (.iload 5, 2) := by decide +kernel
theorem dX12_reckonAll_102 : decode cX12_reckonAll 102 = .ok (.bipush 20, 2) := by decide +kernel
theorem dX12_reckonAll_104 : decode cX12_reckonAll 104 = .ok (.if_icmp .ge 124, 3) := by decide +kernel
theorem dX12_reckonAll_228 : decode cX12_reckonAll 228 = .ok (.iload 5, 2) := by decide +kernel
theorem dX12_reckonAll_230 : decode cX12_reckonAll 230 = .ok (.bipush 28, 2) := by decide +kernel
theorem dX12_reckonAll_232 : decode cX12_reckonAll 232 = .ok (.if_icmp .ge 73, 3) := by decide +kernel
theorem dX12_reckonAll_305 : decode cX12_reckonAll 305 = .ok (.iload 5, 2) := by decide +kernel
theorem dX12_reckonAll_307 : decode cX12_reckonAll 307 = .ok (.bipush 28, 2) := by decide +kernel
theorem dX12_reckonAll_309 : decode cX12_reckonAll 309 = .ok (.if_icmp .ne 24, 3) := by decide +kernel
theorem dX12_reckonAll_333 : decode cX12_reckonAll 333 = .ok (.aload_n 0, 1) := by decide +kernel
theorem dX12_reckonAll_334 : decode cX12_reckonAll 334 = .ok (.getfield 105, 3) := by decide +kernel
theorem dX12_reckonAll_337 : decode cX12_reckonAll 337 = .ok (.iload_n 3, 1) := by decide +kernel
theorem dX12_reckonAll_338 : decode cX12_reckonAll 338 = .ok (.iconst 1, 1) := by decide +kernel
theorem dX12_reckonAll_339 : decode cX12_reckonAll 339 = .ok (.isub, 1) := by decide +kernel
theorem dX12_reckonAll_340 : decode cX12_reckonAll 340 = .ok (.laload, 1) := by decide +kernel
theorem dX12_reckonAll_341 : decode cX12_reckonAll 341 = .ok (.iload 5, 2) := by decide +kernel
theorem dX12_reckonAll_343 : decode cX12_reckonAll 343 = .ok (.bipush 29, 2) := by decide +kernel
theorem dX12_reckonAll_345 : decode cX12_reckonAll 345 = .ok (.if_icmp .ne 7, 3) := by decide +kernel
theorem dX12_reckonAll_352 : decode cX12_reckonAll 352 = .ok (.lconst 1, 1) := by decide +kernel
theorem dX12_reckonAll_353 : decode cX12_reckonAll 353 = .ok (.lcmp, 1) := by decide +kernel
theorem dX12_reckonAll_354 : decode cX12_reckonAll 354 = .ok (.ifCond .ne 10, 3) := by decide +kernel
theorem dX12_reckonAll_364 : decode cX12_reckonAll 364 = .ok (.iinc 3 (-1), 3) := by decide +kernel
theorem dX12_reckonAll_367 : decode cX12_reckonAll 367 = .ok (.goto (-357), 3) := by decide +kernel
theorem dX12_reckonAll_357 : decode cX12_reckonAll 357 = .ok (.iload 6, 2) := by decide +kernel
theorem dX12_reckonAll_359 : decode cX12_reckonAll 359 = .ok (.istore 4, 2) := by decide +kernel
theorem dX12_reckonAll_361 : decode cX12_reckonAll 361 = .ok (.goto 6, 3) := by decide +kernel
theorem dX12_reckonAll_348 : decode cX12_reckonAll 348 = .ok (.lconst 0, 1) := by decide +kernel
theorem dX12_reckonAll_349 : decode cX12_reckonAll 349 = .ok (.goto 4, 3) := by decide +kernel
theorem dX12_reckonAll_312 : decode cX12_reckonAll 312 = .ok (.aload_n 0, 1) := by decide +kernel
theorem dX12_reckonAll_313 : decode cX12_reckonAll 313 = .ok (.getfield 105, 3) := by decide +kernel
theorem dX12_reckonAll_316 : decode cX12_reckonAll 316 = .ok (.iload_n 3, 1) := by decide +kernel
theorem dX12_reckonAll_317 : decode cX12_reckonAll 317 = .ok (.iconst 1, 1) := by decide +kernel
theorem dX12_reckonAll_318 : decode cX12_reckonAll 318 = .ok (.isub, 1) := by decide +kernel
theorem dX12_reckonAll_319 : decode cX12_reckonAll 319 = .ok (.lconst 1, 1) := by decide +kernel
theorem dX12_reckonAll_320 : decode cX12_reckonAll 320 = .ok (.aload_n 0, 1) := by decide +kernel
theorem dX12_reckonAll_321 : decode cX12_reckonAll 321 = .ok (.getfield 105, 3) := by decide +kernel
theorem dX12_reckonAll_324 : decode cX12_reckonAll 324 = .ok (.iload_n 3, 1) := by decide +kernel
theorem dX12_reckonAll_325 : decode cX12_reckonAll 325 = .ok (.iconst 1, 1) := by decide +kernel
theorem dX12_reckonAll_326 : decode cX12_reckonAll 326 = .ok (.isub, 1) := by decide +kernel
theorem dX12_reckonAll_327 : decode cX12_reckonAll 327 = .ok (.laload, 1) := by decide +kernel
theorem dX12_reckonAll_328 : decode cX12_reckonAll 328 = .ok (.lsub, 1) := by decide +kernel
theorem dX12_reckonAll_329 : decode cX12_reckonAll 329 = .ok (.lastore, 1) := by decide +kernel
theorem dX12_reckonAll_330 : decode cX12_reckonAll 330 = .ok (.goto 37, 3) := by decide +kernel
theorem dX12_reckonAll_235 : decode cX12_reckonAll 235 = .ok (.iinc 3 (-1), 3) := by decide +kernel
theorem dX12_reckonAll_238 : decode cX12_reckonAll 238 = .ok (.aload_n 0, 1) := by decide +kernel
theorem dX12_reckonAll_239 : decode cX12_reckonAll 239 = .ok (.getfield 105, 3) := by decide +kernel
theorem dX12_reckonAll_242 : decode cX12_reckonAll 242 = .ok (.iload_n 3, 1) := by decide +kernel
theorem dX12_reckonAll_243 : decode cX12_reckonAll 243 = .ok (.iconst 1, 1) := by decide +kernel
theorem dX12_reckonAll_244 : decode cX12_reckonAll 244 = .ok (.isub, 1) := by decide +kernel
theorem dX12_reckonAll_245 : decode cX12_reckonAll 245 = .ok (.aload_n 0, 1) := by decide +kernel
theorem dX12_reckonAll_246 : decode cX12_reckonAll 246 = .ok (.iload 5, 2) := by decide +kernel
theorem dX12_reckonAll_248 : decode cX12_reckonAll 248 = .ok (.aload_n 0, 1) := by decide +kernel
theorem dX12_reckonAll_249 : decode cX12_reckonAll 249 = .ok (.getfield 105, 3) := by decide +kernel
theorem dX12_reckonAll_252 : decode cX12_reckonAll 252 = .ok (.iload_n 3, 1) := by decide +kernel
theorem dX12_reckonAll_253 : decode cX12_reckonAll 253 = .ok (.iconst 1, 1) := by decide +kernel
theorem dX12_reckonAll_254 : decode cX12_reckonAll 254 = .ok (.isub, 1) := by decide +kernel
theorem dX12_reckonAll_255 : decode cX12_reckonAll 255 = .ok (.laload, 1) := by decide +kernel
theorem dX12_reckonAll_256 : decode cX12_reckonAll 256 = .ok (.aload_n 0, 1) := by decide +kernel
theorem dX12_reckonAll_257 : decode cX12_reckonAll 257 = .ok (.getfield 105, 3) := by decide +kernel
theorem dX12_reckonAll_260 : decode cX12_reckonAll 260 = .ok (.iload_n 3, 1) := by decide +kernel
theorem dX12_reckonAll_261 : decode cX12_reckonAll 261 = .ok (.laload, 1) := by decide +kernel
theorem dX12_reckonAll_262 : decode cX12_reckonAll 262 = .ok (.invokevirtual 395, 3) := by decide +kernel
theorem dX12_reckonAll_265 : decode cX12_reckonAll 265 = .ok (.lastore, 1) := by decide +kernel
theorem dX12_reckonAll_266 : decode cX12_reckonAll 266 = .ok (.aload_n 0, 1) := by decide +kernel
theorem dX12_reckonAll_267 : decode cX12_reckonAll 267 = .ok (.aload_n 0, 1) := by decide +kernel
theorem dX12_reckonAll_268 : decode cX12_reckonAll 268 = .ok (.getfield 386, 3) := by decide +kernel
theorem dX12_reckonAll_271 : decode cX12_reckonAll 271 = .ok (.ifCond .ne 23, 3) := by decide +kernel
theorem dX12_reckonAll_294 : decode cX12_reckonAll 294 = .ok (.iconst 1, 1) := by decide +kernel
theorem dX12_reckonAll_295 : decode cX12_reckonAll 295 = .ok (.goto 4, 3) := by decide +kernel
theorem dX12_reckonAll_299 : decode cX12_reckonAll 299 = .ok (.putfield 386, 3) := by decide +kernel
theorem dX12_reckonAll_302 : decode cX12_reckonAll 302 = .ok (.goto 65, 3) := by decide +kernel
theorem dX12_reckonAll_274 : decode cX12_reckonAll 274 = .ok (.aload_n 0, 1) := by decide +kernel
theorem dX12_reckonAll_275 : decode cX12_reckonAll 275 = .ok (.getfield 105, 3) := by decide +kernel
theorem dX12_reckonAll_278 : decode cX12_reckonAll 278 = .ok (.iload_n 3, 1) := by decide +kernel
theorem dX12_reckonAll_279 : decode cX12_reckonAll 279 = .ok (.iconst 1, 1) := by decide +kernel
theorem dX12_reckonAll_280 : decode cX12_reckonAll 280 = .ok (.isub, 1) := by decide +kernel
theorem dX12_reckonAll_281 : decode cX12_reckonAll 281 = .ok (.laload, 1) := by decide +kernel
theorem dX12_reckonAll_282 : decode cX12_reckonAll 282 = .ok (.ldc2_w 399, 3) := by decide +kernel
theorem dX12_reckonAll_285 : decode cX12_reckonAll 285 = .ok (.ldc2_w 401, 3) := by decide +kernel
theorem dX12_reckonAll_288 : decode cX12_reckonAll 288 = .ok (.invokestatic 178, 3) := by decide +kernel
theorem dX12_reckonAll_291 : decode cX12_reckonAll 291 = .ok (.ifCond .ne 7, 3) := by decide +kernel
theorem dX12_reckonAll_298 : decode cX12_reckonAll 298 = .ok (.iconst 0, 1) := by decide +kernel
theorem dX12_reckonAll_107 : decode cX12_reckonAll 107 = .ok (.aload_n 0, 1) := by decide +kernel
theorem dX12_reckonAll_108 : decode cX12_reckonAll 108 = .ok (.getfield 105, 3) := by decide +kernel
theorem dX12_reckonAll_111 : decode cX12_reckonAll 111 = .ok (.iload_n 3, 1) := by decide +kernel
theorem dX12_reckonAll_112 : decode cX12_reckonAll 112 = .ok (.iload 5, 2) := by decide +kernel
theorem dX12_reckonAll_114 : decode cX12_reckonAll 114 = .ok (.ifCond .ne 9, 3) := by decide +kernel
theorem dX12_reckonAll_123 : decode cX12_reckonAll 123 = .ok (.aload_n 0, 1) := by decide +kernel
theorem dX12_reckonAll_124 : decode cX12_reckonAll 124 = .ok (.getfield 314, 3) := by decide +kernel
theorem dX12_reckonAll_127 : decode cX12_reckonAll 127 = .ok (.ifCond .ne 13, 3) := by decide +kernel
theorem dX12_reckonAll_130 : decode cX12_reckonAll 130 = .ok (.aload_n 0, 1) := by decide +kernel
theorem dX12_reckonAll_131 : decode cX12_reckonAll 131 = .ok (.getfield 99, 3) := by decide +kernel
theorem dX12_reckonAll_134 : decode cX12_reckonAll 134 = .ok (.iload 5, 2) := by decide +kernel
theorem dX12_reckonAll_136 : decode cX12_reckonAll 136 = .ok (.laload, 1) := by decide +kernel
theorem dX12_reckonAll_137 : decode cX12_reckonAll 137 = .ok (.goto 84, 3) := by decide +kernel
theorem dX12_reckonAll_221 : decode cX12_reckonAll 221 = .ok (.lastore, 1) := by decide +kernel
theorem dX12_reckonAll_222 : decode cX12_reckonAll 222 = .ok (.iinc 3 1, 3) := by decide +kernel
theorem dX12_reckonAll_225 : decode cX12_reckonAll 225 = .ok (.goto 142, 3) := by decide +kernel
theorem dX12_reckonAll_117 : decode cX12_reckonAll 117 = .ok (.iload 6, 2) := by decide +kernel
theorem dX12_reckonAll_119 : decode cX12_reckonAll 119 = .ok (.i2l, 1) := by decide +kernel
theorem dX12_reckonAll_120 : decode cX12_reckonAll 120 = .ok (.goto 101, 3) := by decide +kernel
theorem dX12_reckonAll_370 : decode cX12_reckonAll 370 = .ok (.aload_n 0, 1) := by decide +kernel
theorem dX12_reckonAll_371 : decode cX12_reckonAll 371 = .ok (.iload_n 3, 1) := by decide +kernel
theorem dX12_reckonAll_372 : decode cX12_reckonAll 372 = .ok (.ifCond .le 12, 3) := by decide +kernel
theorem dX12_reckonAll_384 : decode cX12_reckonAll 384 = .ok (.lconst 0, 1) := by decide +kernel
theorem dX12_reckonAll_385 : decode cX12_reckonAll 385 = .ok (.putfield 403, 3) := by decide +kernel
theorem dX12_reckonAll_388 : decode cX12_reckonAll 388 = .ok (.return_, 1) := by decide +kernel
theorem dX12_reckonAll_375 : decode cX12_reckonAll 375 = .ok (.aload_n 0, 1) := by decide +kernel
theorem dX12_reckonAll_376 : decode cX12_reckonAll 376 = .ok (.getfield 105, 3) := by decide +kernel
theorem dX12_reckonAll_379 : decode cX12_reckonAll 379 = .ok (.iconst 0, 1) := by decide +kernel
theorem dX12_reckonAll_380 : decode cX12_reckonAll 380 = .ok (.laload, 1) := by decide +kernel
theorem dX12_reckonAll_381 : decode cX12_reckonAll 381 = .ok (.goto 4, 3) := by decide +kernel
theorem dX12_isSo_0 : decode cX12_isSo 0 = .ok (.aload_n 0, 1) := by decide +kernel
theorem dX12_isSo_1 : decode cX12_isSo 1 = .ok (.getfield 13, 3) := by decide +kernel
theorem dX12_isSo_4 : decode cX12_isSo 4 = .ok (.iload_n 1, 1) := by decide +kernel
theorem dX12_isSo_5 : decode cX12_isSo 5 = .ok (.iconst 5, 1) := by decide +kernel
theorem dX12_isSo_6 : decode cX12_isSo 6 = .ok (.iadd, 1) := by decide +kernel
theorem dX12_isSo_7 : decode cX12_isSo 7 = .ok (.iaload, 1) := by decide +kernel
theorem dX12_isSo_8 : decode cX12_isSo 8 = .ok (.aload_n 0, 1) := by decide +kernel
theorem dX12_isSo_9 : decode cX12_isSo 9 = .ok (.getfield 13, 3) := by decide +kernel
theorem dX12_isSo_12 : decode cX12_isSo 12 = .ok (.iload_n 1, 1) := by decide +kernel
theorem dX12_isSo_13 : decode cX12_isSo 13 = .ok (.bipush 6, 2) := by decide +kernel
theorem dX12_isSo_15 : decode cX12_isSo 15 = .ok (.iadd, 1) := by decide +kernel
theorem dX12_isSo_16 : decode cX12_isSo 16 = .ok (.iaload, 1) := by decide +kernel
theorem dX12_isSo_17 : decode cX12_isSo 17 = .ok (.if_icmp .ge 42, 3) := by decide +kernel
theorem dX12_isSo_20 : decode cX12_isSo 20 = .ok (.aload_n 0, 1) := by decide +kernel
theorem dX12_isSo_21 : decode cX12_isSo 21 = .ok (.aload_n 0, 1) := by decide +kernel
theorem dX12_isSo_22 : decode cX12_isSo 22 = .ok (.getfield 13, 3) := by decide +kernel
theorem dX12_isSo_25 : decode cX12_isSo 25 = .ok (.iload_n 1, 1) := by decide +kernel
theorem dX12_isSo_26 : decode cX12_isSo 26 = .ok (.iconst 5, 1) := by decide +kernel
theorem dX12_isSo_27 : decode cX12_isSo 27 = .ok (.iadd, 1) := by decide +kernel
theorem dX12_isSo_28 : decode cX12_isSo 28 = .ok (.iaload, 1) := by decide +kernel
theorem dX12_isSo_29 : decode cX12_isSo 29 = .ok (.aload_n 0, 1) := by decide +kernel
theorem dX12_isSo_30 : decode cX12_isSo 30 = .ok (.getfield 13, 3) := by decide +kernel
theorem dX12_isSo_33 : decode cX12_isSo 33 = .ok (.iload_n 1, 1) := by decide +kernel
theorem dX12_isSo_34 : decode cX12_isSo 34 = .ok (.bipush 6, 2) := by decide +kernel
theorem dX12_isSo_36 : decode cX12_isSo 36 = .ok (.iadd, 1) := by decide +kernel
theorem dX12_isSo_37 : decode cX12_isSo 37 = .ok (.iaload, 1) := by decide +kernel
theorem dX12_isSo_38 : decode cX12_isSo 38 = .ok (.invokevirtual 406, 3) := by decide +kernel
theorem dX12_isSo_41 : decode cX12_isSo 41 = .ok (.aload_n 0, 1) := by decide +kernel
theorem dX12_isSo_42 : decode cX12_isSo 42 = .ok (.getfield 386, 3) := by decide +kernel
theorem dX12_isSo_45 : decode cX12_isSo 45 = .ok (.ifCond .ne 12, 3) := by decide +kernel
theorem dX12_isSo_48 : decode cX12_isSo 48 = .ok (.aload_n 0, 1) := by decide +kernel
theorem dX12_isSo_49 : decode cX12_isSo 49 = .ok (.getfield 403, 3) := by decide +kernel
theorem dX12_isSo_52 : decode cX12_isSo 52 = .ok (.lconst 0, 1) := by decide +kernel
theorem dX12_isSo_53 : decode cX12_isSo 53 = .ok (.lcmp, 1) := by decide +kernel
theorem dX12_isSo_54 : decode cX12_isSo 54 = .ok (.ifCond .ne 5, 3) := by decide +kernel
theorem dX12_isSo_57 : decode cX12_isSo 57 = .ok (.iconst 0, 1) := by decide +kernel
theorem dX12_isSo_58 : decode cX12_isSo 58 = .ok (.ireturn, 1) := by decide +kernel
theorem dX12_isSo_59 : decode cX12_isSo 59 = .ok (.aload_n 0, 1) := by decide +kernel
theorem dX12_isSo_60 : decode cX12_isSo 60 = .ok (.getfield 13, 3) := by decide +kernel
theorem dX12_isSo_63 : decode cX12_isSo 63 = .ok (.iload_n 1, 1) := by decide +kernel
theorem dX12_isSo_64 : decode cX12_isSo 64 = .ok (.iaload, 1) := by decide +kernel
theorem dX12_isSo_65 : decode cX12_isSo 65 = .ok (.iconst 3, 1) := by decide +kernel
theorem dX12_isSo_66 : decode cX12_isSo 66 = .ok (.if_icmp .eq 44, 3) := by decide +kernel
theorem dX12_isSo_110 : decode cX12_isSo 110 = .ok (.iconst 1, 1) := by decide +kernel
theorem dX12_isSo_111 : decode cX12_isSo 111 = .ok (.ireturn, 1) := by decide +kernel
theorem dX12_isSo_69 : decode cX12_isSo 69 = .ok (.aload_n 0, 1) := by decide +kernel
theorem dX12_isSo_70 : decode cX12_isSo 70 = .ok (.aload_n 0, 1) := by decide +kernel
theorem dX12_isSo_71 : decode cX12_isSo 71 = .ok (.getfield 13, 3) := by decide +kernel
theorem dX12_isSo_74 : decode cX12_isSo 74 = .ok (.iload_n 1, 1) := by decide +kernel
theorem dX12_isSo_75 : decode cX12_isSo 75 = .ok (.iconst 3, 1) := by decide +kernel
theorem dX12_isSo_76 : decode cX12_isSo 76 = .ok (.iadd, 1) := by decide +kernel
theorem dX12_isSo_77 : decode cX12_isSo 77 = .ok (.iaload, 1) := by decide +kernel
theorem dX12_isSo_78 : decode cX12_isSo 78 = .ok (.aload_n 0, 1) := by decide +kernel
theorem dX12_isSo_79 : decode cX12_isSo 79 = .ok (.getfield 13, 3) := by decide +kernel
theorem dX12_isSo_82 : decode cX12_isSo 82 = .ok (.iload_n 1, 1) := by decide +kernel
theorem dX12_isSo_83 : decode cX12_isSo 83 = .ok (.iconst 4, 1) := by decide +kernel
theorem dX12_isSo_84 : decode cX12_isSo 84 = .ok (.iadd, 1) := by decide +kernel
theorem dX12_isSo_85 : decode cX12_isSo 85 = .ok (.iaload, 1) := by decide +kernel
theorem dX12_isSo_86 : decode cX12_isSo 86 = .ok (.invokevirtual 406, 3) := by decide +kernel
theorem dX12_isSo_89 : decode cX12_isSo 89 = .ok (.aload_n 0, 1) := by decide +kernel
theorem dX12_isSo_90 : decode cX12_isSo 90 = .ok (.aload_n 0, 1) := by decide +kernel
theorem dX12_isSo_91 : decode cX12_isSo 91 = .ok (.getfield 403, 3) := by decide +kernel
theorem dX12_isSo_94 : decode cX12_isSo 94 = .ok (.putfield 409, 3) := by decide +kernel
theorem dX12_isSo_97 : decode cX12_isSo 97 = .ok (.aload_n 0, 1) := by decide +kernel
theorem dX12_isSo_98 : decode cX12_isSo 98 = .ok (.getfield 386, 3) := by decide +kernel
theorem dX12_isSo_101 : decode cX12_isSo 101 = .ok (.ifCond .ne 7, 3) := by decide +kernel
theorem dX12_isSo_108 : decode cX12_isSo 108 = .ok (.iconst 0, 1) := by decide +kernel
theorem dX12_isSo_109 : decode cX12_isSo 109 = .ok (.ireturn, 1) := by decide +kernel
theorem dX12_isSo_104 : decode cX12_isSo 104 = .ok (.iconst 1, 1) := by decide +kernel
theorem dX12_isSo_105 : decode cX12_isSo 105 = .ok (.goto 4, 3) := by decide +kernel
theorem dX12_tells_0 : decode cX12_tells 0 = .ok (.iload_n 1, 1) := by decide +kernel
theorem dX12_tells_1 : decode cX12_tells 1 = .ok (.iconst (-1), 1) := by decide +kernel
theorem dX12_tells_2 : decode cX12_tells 2 = .ok (.if_icmp .ne 6, 3) := by decide +kernel
theorem dX12_tells_8 : decode cX12_tells 8 = .ok (.aload_n 0, 1) := by decide +kernel
theorem dX12_tells_9 : decode cX12_tells 9 = .ok (.bipush 100, 2) := by decide +kernel
theorem dX12_tells_11 : decode cX12_tells 11 = .ok (.sipush 900, 3) := by decide +kernel
theorem dX12_tells_14 : decode cX12_tells 14 = .ok (.iload_n 1, 1) := by decide +kernel
theorem dX12_tells_15 : decode cX12_tells 15 = .ok (.imul, 1) := by decide +kernel
theorem dX12_tells_16 : decode cX12_tells 16 = .ok (.iadd, 1) := by decide +kernel
theorem dX12_tells_17 : decode cX12_tells 17 = .ok (.putfield 389, 3) := by decide +kernel
theorem dX12_tells_20 : decode cX12_tells 20 = .ok (.aload_n 0, 1) := by decide +kernel
theorem dX12_tells_21 : decode cX12_tells 21 = .ok (.getfield 99, 3) := by decide +kernel
theorem dX12_tells_24 : decode cX12_tells 24 = .ok (.iconst 1, 1) := by decide +kernel
theorem dX12_tells_25 : decode cX12_tells 25 = .ok (.iload_n 3, 1) := by decide +kernel
theorem dX12_tells_26 : decode cX12_tells 26 = .ok (.i2l, 1) := by decide +kernel
theorem dX12_tells_27 : decode cX12_tells 27 = .ok (.lastore, 1) := by decide +kernel
theorem dX12_tells_28 : decode cX12_tells 28 = .ok (.aload_n 0, 1) := by decide +kernel
theorem dX12_tells_29 : decode cX12_tells 29 = .ok (.getfield 99, 3) := by decide +kernel
theorem dX12_tells_32 : decode cX12_tells 32 = .ok (.iconst 2, 1) := by decide +kernel
theorem dX12_tells_33 : decode cX12_tells 33 = .ok (.aload_n 0, 1) := by decide +kernel
theorem dX12_tells_34 : decode cX12_tells 34 = .ok (.getfield 13, 3) := by decide +kernel
theorem dX12_tells_37 : decode cX12_tells 37 = .ok (.bipush 35, 2) := by decide +kernel
theorem dX12_tells_39 : decode cX12_tells 39 = .ok (.iload_n 3, 1) := by decide +kernel
theorem dX12_tells_40 : decode cX12_tells 40 = .ok (.iadd, 1) := by decide +kernel
theorem dX12_tells_41 : decode cX12_tells 41 = .ok (.iaload, 1) := by decide +kernel
theorem dX12_tells_42 : decode cX12_tells 42 = .ok (.i2l, 1) := by decide +kernel
theorem dX12_tells_43 : decode cX12_tells 43 = .ok (.lastore, 1) := by decide +kernel
theorem dX12_tells_44 : decode cX12_tells 44 = .ok (.aload_n 0, 1) := by decide +kernel
theorem dX12_tells_45 : decode cX12_tells 45 = .ok (.getfield 99, 3) := by decide +kernel
theorem dX12_tells_48 : decode cX12_tells 48 = .ok (.iconst 3, 1) := by decide +kernel
theorem dX12_tells_49 : decode cX12_tells 49 = .ok (.aload_n 0, 1) := by decide +kernel
theorem dX12_tells_50 : decode cX12_tells 50 = .ok (.getfield 13, 3) := by decide +kernel
theorem dX12_tells_53 : decode cX12_tells 53 = .ok (.bipush 43, 2) := by decide +kernel
theorem dX12_tells_55 : decode cX12_tells 55 = .ok (.iload_n 3, 1) := by decide +kernel
theorem dX12_tells_56 : decode cX12_tells 56 = .ok (.iadd, 1) := by decide +kernel
theorem dX12_tells_57 : decode cX12_tells 57 = .ok (.iaload, 1) := by decide +kernel
theorem dX12_tells_58 : decode cX12_tells 58 = .ok (.i2l, 1) := by decide +kernel
theorem dX12_tells_59 : decode cX12_tells 59 = .ok (.lastore, 1) := by decide +kernel
theorem dX12_tells_60 : decode cX12_tells 60 = .ok (.aload_n 0, 1) := by decide +kernel
theorem dX12_tells_61 : decode cX12_tells 61 = .ok (.getfield 99, 3) := by decide +kernel
theorem dX12_tells_64 : decode cX12_tells 64 = .ok (.iconst 4, 1) := by decide +kernel
theorem dX12_tells_65 : decode cX12_tells 65 = .ok (.aload_n 0, 1) := by decide +kernel
theorem dX12_tells_66 : decode cX12_tells 66 = .ok (.getfield 13, 3) := by decide +kernel
theorem dX12_tells_69 : decode cX12_tells 69 = .ok (.bipush 11, 2) := by decide +kernel
theorem dX12_tells_71 : decode cX12_tells 71 = .ok (.iload_n 3, 1) := by decide +kernel
theorem dX12_tells_72 : decode cX12_tells 72 = .ok (.iadd, 1) := by decide +kernel
theorem dX12_tells_73 : decode cX12_tells 73 = .ok (.iaload, 1) := by decide +kernel
theorem dX12_tells_74 : decode cX12_tells 74 = .ok (.i2l, 1) := by decide +kernel
theorem dX12_tells_75 : decode cX12_tells 75 = .ok (.lastore, 1) := by decide +kernel
theorem dX12_tells_76 : decode cX12_tells 76 = .ok (.aload_n 0, 1) := by decide +kernel
theorem dX12_tells_77 : decode cX12_tells 77 = .ok (.getfield 99, 3) := by decide +kernel
theorem dX12_tells_80 : decode cX12_tells 80 = .ok (.iconst 5, 1) := by decide +kernel
theorem dX12_tells_81 : decode cX12_tells 81 = .ok (.aload_n 0, 1) := by decide +kernel
theorem dX12_tells_82 : decode cX12_tells 82 = .ok (.getfield 13, 3) := by decide +kernel
theorem dX12_tells_85 : decode cX12_tells 85 = .ok (.bipush 19, 2) := by decide +kernel
theorem dX12_tells_87 : decode cX12_tells 87 = .ok (.iload_n 3, 1) := by decide +kernel
theorem dX12_tells_88 : decode cX12_tells 88 = .ok (.iadd, 1) := by decide +kernel
theorem dX12_tells_89 : decode cX12_tells 89 = .ok (.iaload, 1) := by decide +kernel
theorem dX12_tells_90 : decode cX12_tells 90 = .ok (.i2l, 1) := by decide +kernel
theorem dX12_tells_91 : decode cX12_tells 91 = .ok (.lastore, 1) := by decide +kernel
theorem dX12_tells_92 : decode cX12_tells 92 = .ok (.aload_n 0, 1) := by decide +kernel
theorem dX12_tells_93 : decode cX12_tells 93 = .ok (.getfield 99, 3) := by decide +kernel
theorem dX12_tells_96 : decode cX12_tells 96 = .ok (.bipush 6, 2) := by decide +kernel
theorem dX12_tells_98 : decode cX12_tells 98 = .ok (.aload_n 0, 1) := by decide +kernel
theorem dX12_tells_99 : decode cX12_tells 99 = .ok (.iconst 0, 1) := by decide +kernel
theorem dX12_tells_100 : decode cX12_tells 100 = .ok (.invokevirtual 182, 3) := by decide +kernel
theorem dX12_tells_103 : decode cX12_tells 103 = .ok (.i2l, 1) := by decide +kernel
theorem dX12_tells_104 : decode cX12_tells 104 = .ok (.lastore, 1) := by decide +kernel
theorem dX12_tells_105 : decode cX12_tells 105 = .ok (.aload_n 0, 1) := by decide +kernel
theorem dX12_tells_106 : decode cX12_tells 106 = .ok (.getfield 99, 3) := by decide +kernel
theorem dX12_tells_109 : decode cX12_tells 109 = .ok (.bipush 7, 2) := by decide +kernel
theorem dX12_tells_111 : decode cX12_tells 111 = .ok (.aload_n 0, 1) := by decide +kernel
theorem dX12_tells_112 : decode cX12_tells 112 = .ok (.iconst 1, 1) := by decide +kernel
theorem dX12_tells_113 : decode cX12_tells 113 = .ok (.invokevirtual 182, 3) := by decide +kernel
theorem dX12_tells_116 : decode cX12_tells 116 = .ok (.i2l, 1) := by decide +kernel
theorem dX12_tells_117 : decode cX12_tells 117 = .ok (.lastore, 1) := by decide +kernel
theorem dX12_tells_118 : decode cX12_tells 118 = .ok (.aload_n 0, 1) := by decide +kernel
theorem dX12_tells_119 : decode cX12_tells 119 = .ok (.getfield 99, 3) := by decide +kernel
theorem dX12_tells_122 : decode cX12_tells 122 = .ok (.bipush 8, 2) := by decide +kernel
theorem dX12_tells_124 : decode cX12_tells 124 = .ok (.aload_n 0, 1) := by decide +kernel
theorem dX12_tells_125 : decode cX12_tells 125 = .ok (.iconst 5, 1) := by decide +kernel
theorem dX12_tells_126 : decode cX12_tells 126 = .ok (.invokevirtual 182, 3) := by decide +kernel
theorem dX12_tells_129 : decode cX12_tells 129 = .ok (.i2l, 1) := by decide +kernel
theorem dX12_tells_130 : decode cX12_tells 130 = .ok (.lastore, 1) := by decide +kernel
theorem dX12_tells_131 : decode cX12_tells 131 = .ok (.aload_n 0, 1) := by decide +kernel
theorem dX12_tells_132 : decode cX12_tells 132 = .ok (.getfield 99, 3) := by decide +kernel
theorem dX12_tells_135 : decode cX12_tells 135 = .ok (.bipush 9, 2) := by decide +kernel
theorem dX12_tells_137 : decode cX12_tells 137 = .ok (.iload 4, 2) := by decide +kernel
theorem dX12_tells_139 : decode cX12_tells 139 = .ok (.i2l, 1) := by decide +kernel
theorem dX12_tells_140 : decode cX12_tells 140 = .ok (.lastore, 1) := by decide +kernel
theorem dX12_tells_141 : decode cX12_tells 141 = .ok (.lload 5, 2) := by decide +kernel
theorem dX12_tells_143 : decode cX12_tells 143 = .ok (.lstore 7, 2) := by decide +kernel
theorem dX12_tells_145 : decode cX12_tells 145 = .ok (.iconst 0, 1) := by decide +kernel
theorem dX12_tells_146 : decode cX12_tells 146 = .ok (.istore 9, 2) := by decide +kernel
theorem dX12_tells_148 : decode cX12_tells 148 = .ok (.iload 9, 2) := by decide +kernel
theorem dX12_tells_150 : decode cX12_tells 150 = .ok (.aload_n 0, 1) := by decide +kernel
theorem dX12_tells_151 : decode cX12_tells 151 = .ok (.getfield 13, 3) := by decide +kernel
theorem dX12_tells_154 : decode cX12_tells 154 = .ok (.aload_n 0, 1) := by decide +kernel
theorem dX12_tells_155 : decode cX12_tells 155 = .ok (.getfield 389, 3) := by decide +kernel
theorem dX12_tells_158 : decode cX12_tells 158 = .ok (.iconst 1, 1) := by decide +kernel
theorem dX12_tells_159 : decode cX12_tells 159 = .ok (.iadd, 1) := by decide +kernel
theorem dX12_tells_160 : decode cX12_tells 160 = .ok (.iaload, 1) := by decide +kernel
theorem dX12_tells_161 : decode cX12_tells 161 = .ok (.if_icmp .ge 58, 3) := by decide +kernel
theorem dX12_tells_164 : decode cX12_tells 164 = .ok (.aload_n 0, 1) := by decide +kernel
theorem dX12_tells_165 : decode cX12_tells 165 = .ok (.getfield 389, 3) := by decide +kernel
theorem dX12_tells_168 : decode cX12_tells 168 = .ok (.iconst 2, 1) := by decide +kernel
theorem dX12_tells_169 : decode cX12_tells 169 = .ok (.iadd, 1) := by decide +kernel
theorem dX12_tells_170 : decode cX12_tells 170 = .ok (.bipush 8, 2) := by decide +kernel
theorem dX12_tells_172 : decode cX12_tells 172 = .ok (.iload 9, 2) := by decide +kernel
theorem dX12_tells_174 : decode cX12_tells 174 = .ok (.imul, 1) := by decide +kernel
theorem dX12_tells_175 : decode cX12_tells 175 = .ok (.iadd, 1) := by decide +kernel
theorem dX12_tells_176 : decode cX12_tells 176 = .ok (.istore 10, 2) := by decide +kernel
theorem dX12_tells_178 : decode cX12_tells 178 = .ok (.aload_n 0, 1) := by decide +kernel
theorem dX12_tells_179 : decode cX12_tells 179 = .ok (.getfield 13, 3) := by decide +kernel
theorem dX12_tells_182 : decode cX12_tells 182 = .ok (.iload 10, 2) := by decide +kernel
theorem dX12_tells_184 : decode cX12_tells 184 = .ok (.iaload, 1) := by decide +kernel
theorem dX12_tells_185 : decode cX12_tells 185 = .ok (.iload_n 2, 1) := by decide +kernel
theorem dX12_tells_186 : decode cX12_tells 186 = .ok (.if_icmp .ne 27, 3) := by decide +kernel
theorem dX12_tells_189 : decode cX12_tells 189 = .ok (.aload_n 0, 1) := by decide +kernel
theorem dX12_tells_190 : decode cX12_tells 190 = .ok (.iload 10, 2) := by decide +kernel
theorem dX12_tells_192 : decode cX12_tells 192 = .ok (.invokevirtual 412, 3) := by decide +kernel
theorem dX12_tells_195 : decode cX12_tells 195 = .ok (.ifCond .eq 18, 3) := by decide +kernel
theorem dX12_tells_198 : decode cX12_tells 198 = .ok (.iload_n 2, 1) := by decide +kernel
theorem dX12_tells_199 : decode cX12_tells 199 = .ok (.iconst 3, 1) := by decide +kernel
theorem dX12_tells_200 : decode cX12_tells 200 = .ok (.if_icmp .ne 7, 3) := by decide +kernel
theorem dX12_tells_207 : decode cX12_tells 207 = .ok (.aload_n 0, 1) := by decide +kernel
theorem dX12_tells_208 : decode cX12_tells 208 = .ok (.getfield 409, 3) := by decide +kernel
theorem dX12_tells_211 : decode cX12_tells 211 = .ok (.lstore 7, 2) := by decide +kernel
theorem dX12_tells_203 : decode cX12_tells 203 = .ok (.lconst 1, 1) := by decide +kernel
theorem dX12_tells_204 : decode cX12_tells 204 = .ok (.goto 7, 3) := by decide +kernel
theorem dX12_tells_213 : decode cX12_tells 213 = .ok (.iinc 9 1, 3) := by decide +kernel
theorem dX12_tells_216 : decode cX12_tells 216 = .ok (.goto (-68), 3) := by decide +kernel
theorem dX12_tells_219 : decode cX12_tells 219 = .ok (.lload 7, 2) := by decide +kernel
theorem dX12_tells_221 : decode cX12_tells 221 = .ok (.lreturn, 1) := by decide +kernel
theorem dX12_tells_5 : decode cX12_tells 5 = .ok (.lload 5, 2) := by decide +kernel
theorem dX12_tells_7 : decode cX12_tells 7 = .ok (.lreturn, 1) := by decide +kernel
set_option maxRecDepth 100000 in
set_option maxHeartbeats 4000000 in
theorem ggX12_reckonAll_X12_reckon : GoodIn wsX12_reckonAll wsX12_reckon := goodIn_q _ [37] [1, 38, 39, 40, 41, 42, 43, 44, 45, 46, 47, 48, 49, 50, 51, 52, 53, 54, 55, 56, 57, 58, 59, 60, 61, 62, 63, 64, 65, 66, 67, 68, 69, 70, 71, 72, 73, 74, 75, 76, 77, 78, 79, 80, 81, 82, 83, 84, 85, 86, 87, 88, 89, 90, 91, 92, 93, 94, 95, 96, 97] rfl (by decide +kernel) (by decide +kernel)
set_option maxRecDepth 20000 in
theorem gX12_reckonAll_X12_reckon : GoodIn wsX12_reckonAll (wsV RX12 395 RX12 yX12_reckon wsX12_reckon) := goodIn_app (goodIn_of _ (by decide +kernel)) ggX12_reckonAll_X12_reckon
set_option maxRecDepth 20000 in
theorem ggX12_reckonAll_X12_in : GoodIn wsX12_reckonAll wsX12_in := goodIn_r _ [29] (by decide +kernel) (by decide +kernel)
set_option maxRecDepth 20000 in
theorem gX12_reckonAll_X12_in : GoodIn wsX12_reckonAll (va_wsS RX12 178 yX12_in wsX12_in) := goodIn_app (goodIn_of _ (by decide +kernel)) ggX12_reckonAll_X12_in
set_option maxRecDepth 100000 in
set_option maxHeartbeats 4000000 in
theorem ggX12_isSo_X12_reckonAll : GoodIn wsX12_isSo wsX12_reckonAll := goodIn_q _ [9, 23, 27, 31, 34, 38, 42] [2, 10, 11, 1, 12, 13, 14, 15, 16, 17, 18, 19, 3, 20, 21, 22, 8, 24, 25, 26, 28, 29, 30, 32, 33, 35, 36, 37, 39, 40, 41, 43, 44, 45, 46, 47, 48, 49, 50, 51, 52, 53, 54, 55, 56, 57, 58, 59, 60, 61, 62, 63, 64, 65, 66, 67, 68, 69, 70, 71, 72, 73, 74, 75, 76, 77, 78, 79, 80, 81, 82, 83, 84, 85, 86, 87, 88, 89, 90, 91, 92, 93, 94, 95, 96, 97, 98, 99, 100, 101, 102] rfl (by decide +kernel) (by decide +kernel)
set_option maxRecDepth 20000 in
theorem gX12_isSo_X12_reckonAll : GoodIn wsX12_isSo (wsV RX12 406 RX12 yX12_reckonAll wsX12_reckonAll) := goodIn_app (goodIn_of _ (by decide +kernel)) ggX12_isSo_X12_reckonAll
set_option maxRecDepth 100000 in
set_option maxHeartbeats 4000000 in
theorem ggX12_tells_X12_term : GoodIn wsX12_tells wsX12_term := goodIn_q _ [9] [3, 47, 48, 49, 50, 51, 52, 53, 54, 55, 56, 57, 58, 59, 60, 61, 62, 63, 64, 65, 66, 67, 68, 69, 70, 71, 72, 73, 74, 75, 76, 77, 78, 79, 80, 81, 82, 83, 84, 85, 86, 87, 88, 89, 90, 91, 92, 93, 94, 95, 96, 97, 98, 99, 100, 101, 102, 103, 104, 105, 106] rfl (by decide +kernel) (by decide +kernel)
set_option maxRecDepth 20000 in
theorem gX12_tells_X12_term : GoodIn wsX12_tells (wsV RX12 182 RX12 yX12_term wsX12_term) := goodIn_app (goodIn_of _ (by decide +kernel)) ggX12_tells_X12_term
set_option maxRecDepth 100000 in
set_option maxHeartbeats 4000000 in
theorem ggX12_tells_X12_isSo : GoodIn wsX12_tells wsX12_isSo := goodIn_q _ [13, 19, 31, 35, 9, 38, 42, 46] [3, 14, 15, 4, 16, 17, 18, 8, 20, 21, 1, 22, 23, 2, 24, 25, 26, 27, 28, 29, 30, 32, 33, 34, 5, 6, 7, 36, 37, 39, 40, 41, 43, 44, 45, 47, 48, 49, 50, 51, 52, 53, 54, 55, 56, 57, 58, 59, 60, 61, 62, 63, 64, 65, 66, 67, 68, 69, 70, 71, 72, 73, 74, 75, 76, 77, 78, 79, 80, 81, 82, 83, 84, 85, 86, 87, 88, 89, 90, 91, 92, 93, 94, 95, 96, 97, 98, 99, 100, 101, 102, 103, 104, 105, 106] rfl (by decide +kernel) (by decide +kernel)
set_option maxRecDepth 20000 in
theorem gX12_tells_X12_isSo : GoodIn wsX12_tells (wsV RX12 412 RX12 yX12_isSo wsX12_isSo) := goodIn_app (goodIn_of _ (by decide +kernel)) ggX12_tells_X12_isSo
set_option maxHeartbeats 4000000 in
set_option maxRecDepth 100000 in
theorem v_reckon (l : Launch) (D : va_G) (K : Nat → ClassId) (m0 : Nat) (x : Int32) (y : Int64) (z : Int64) (m_0 : Value) (m_1 : Value) (m_2 : Value) (m_3 : Value) (m_4 : Value) (m_5 : Value) (m_6 : Value) (m_7 : Value) (m_8 : Value) (m_9 : Value) (m_10 : Value) (m_11 : Value) (m_12 : Value) (m_13 : Value) (m_14 : Value) (m_15 : Value) (m_16 : Value) (m_17 : Value) (m_18 : Value) (m_19 : Value) (m_20 : Value) (m_21 : Value) (m_22 : Value) (m_23 : Value) (m_24 : Value) (m_25 : Value) (m_26 : Value) (m_27 : Value) (m_28 : Value) (m_29 : Value) (m_30 : Value) (m_31 : Value) (m_32 : Value) (m_33 : Value) (m_34 : Value) (m_35 : Value) (m_36 : Value) (m_37 : Value) (bro : Int32) (m_39 : Value) (m_40 : Value) (m_41 : Value) (m_42 : Value) (m_43 : Value) (m_44 : Value) (m_45 : Value) (m_46 : Value) (m_47 : Value) (m_48 : Value) (m_49 : Value) (m_50 : Value) (m_51 : Value) (m_52 : Value) (m_53 : Value) (m_54 : Value) (m_55 : Value) (m_56 : Value) (m_57 : Value) (m_58 : Value) (m_59 : Value) (sz : Nat) (zbro : 0 ≤ bro.toInt ∧ bro.toInt ≤ 1) : Met l yX12_reckon wsX12_reckon ({ frames := 0, cells := 0, slots := 0, locals := 0 }) (va_Pc [.ref m0, .int x, .long y, .long z] (Pre D K [(m0, .inr (12, [m_0, m_1, m_2, m_3, m_4, m_5, m_6, m_7, m_8, m_9, m_10, m_11, m_12, m_13, m_14, m_15, m_16, m_17, m_18, m_19, m_20, m_21, m_22, m_23, m_24, m_25, m_26, m_27, m_28, m_29, m_30, m_31, m_32, m_33, m_34, m_35, m_36, m_37, .int bro, m_39, m_40, m_41, m_42, m_43, m_44, m_45, m_46, m_47, m_48, m_49, m_50, m_51, m_52, m_53, m_54, m_55, m_56, m_57, m_58, m_59]))] sz)) (va_Ql (S := Su) (fun (r : Int64) (u : Su) => (0 ≤ (u.2.2.2.1 0).toInt ∧ (u.2.2.2.1 0).toInt ≤ 1) ∧ True) (fun u t => Wd D (va_A [(m0, .inr (12, [m_0, m_1, m_2, m_3, m_4, m_5, m_6, m_7, m_8, m_9, m_10, m_11, m_12, m_13, m_14, m_15, m_16, m_17, m_18, m_19, m_20, m_21, m_22, m_23, m_24, m_25, m_26, m_27, m_28, m_29, m_30, m_31, m_32, m_33, m_34, m_35, m_36, m_37, .int bro, m_39, m_40, m_41, m_42, m_43, m_44, m_45, m_46, m_47, m_48, m_49, m_50, m_51, m_52, m_53, m_54, m_55, m_56, m_57, m_58, m_59]))] sz) ((fun u => [(m0, .inr (12, [m_0, m_1, m_2, m_3, m_4, m_5, m_6, m_7, m_8, m_9, m_10, m_11, m_12, m_13, m_14, m_15, m_16, m_17, m_18, m_19, m_20, m_21, m_22, m_23, m_24, m_25, m_26, m_27, m_28, m_29, m_30, m_31, m_32, m_33, m_34, m_35, m_36, m_37, .int (u.2.2.2.1 0), m_39, m_40, m_41, m_42, m_43, m_44, m_45, m_46, m_47, m_48, m_49, m_50, m_51, m_52, m_53, m_54, m_55, m_56, m_57, m_58, m_59]))]) u) t) (va_A [(m0, .inr (12, [m_0, m_1, m_2, m_3, m_4, m_5, m_6, m_7, m_8, m_9, m_10, m_11, m_12, m_13, m_14, m_15, m_16, m_17, m_18, m_19, m_20, m_21, m_22, m_23, m_24, m_25, m_26, m_27, m_28, m_29, m_30, m_31, m_32, m_33, m_34, m_35, m_36, m_37, .int bro, m_39, m_40, m_41, m_42, m_43, m_44, m_45, m_46, m_47, m_48, m_49, m_50, m_51, m_52, m_53, m_54, m_55, m_56, m_57, m_58, m_59]))] sz)) 0 0 (va_A [(m0, .inr (12, [m_0, m_1, m_2, m_3, m_4, m_5, m_6, m_7, m_8, m_9, m_10, m_11, m_12, m_13, m_14, m_15, m_16, m_17, m_18, m_19, m_20, m_21, m_22, m_23, m_24, m_25, m_26, m_27, m_28, m_29, m_30, m_31, m_32, m_33, m_34, m_35, m_36, m_37, .int bro, m_39, m_40, m_41, m_42, m_43, m_44, m_45, m_46, m_47, m_48, m_49, m_50, m_51, m_52, m_53, m_54, m_55, m_56, m_57, m_58, m_59]))] sz) := by
  refine Met.ofW (cc := cX12_reckon) (maxL := 6) (ret := (some .long)) (by decide) rfl ?_
  intro p e s m args below meth c s₁ B hml hv
  obtain ⟨rfl, hsz, hP, hK, hD0, hN⟩ := hv
  have hx := B.exec
  have hb := B.bytes
  have hr := B.returns
  have hts := atoms_spec (ws := wsX12_reckon) B.pre
  have hown : s.vm.findClass RX12 = some m.cls := findClass_of_methodNamed B.named
  have hlocks := B.notSynchronized
  subst hsz
  have hD := hD0.self (sz := s.heap.size)
  generalize hAe : va_A [(m0, .inr (12, [m_0, m_1, m_2, m_3, m_4, m_5, m_6, m_7, m_8, m_9, m_10, m_11, m_12, m_13, m_14, m_15, m_16, m_17, m_18, m_19, m_20, m_21, m_22, m_23, m_24, m_25, m_26, m_27, m_28, m_29, m_30, m_31, m_32, m_33, m_34, m_35, m_36, m_37, .int bro, m_39, m_40, m_41, m_42, m_43, m_44, m_45, m_46, m_47, m_48, m_49, m_50, m_51, m_52, m_53, m_54, m_55, m_56, m_57, m_58, m_59]))] s.heap.size = A at hD ⊢
  have hA : ∀ q : Nat, s.heap.size ≤ q → A q := fun q h => by rw [← hAe]; exact Or.inr h
  have hS : va_S A s.heap s.heap [] := va_S.rf
  have hP : va_P D vwCl [(m0, .inr (12, [m_0, m_1, m_2, m_3, m_4, m_5, m_6, m_7, m_8, m_9, m_10, m_11, m_12, m_13, m_14, m_15, m_16, m_17, m_18, m_19, m_20, m_21, m_22, m_23, m_24, m_25, m_26, m_27, m_28, m_29, m_30, m_31, m_32, m_33, m_34, m_35, m_36, m_37, .int bro, m_39, m_40, m_41, m_42, m_43, m_44, m_45, m_46, m_47, m_48, m_49, m_50, m_51, m_52, m_53, m_54, m_55, m_56, m_57, m_58, m_59]))] s.heap := hP
  have hl := lv_entry [.ref m0, .int x, .long y, .long z] (n := 6) (Nat.le_of_ble_eq_true rfl)
  rw [lg_entry_eq]
  generalize (lg_sl [.ref m0, .int x, .long y, .long z] ++ List.replicate (6 - (lg_sl [.ref m0, .int x, .long y, .long z]).length) Slot.unset).toArray = ls at hl ⊢
  have hl : lv_has ls 6 [(0, .ref m0), (1, .int x), (2, .long y), (4, .long z)] := hl
  have hw12 : ∀ w ∈ wsX120, w ∈ wsX12_reckon := fun w h => (List.mem_cons_of_mem _ (List.mem_append_right _ h))
  generalize hQ : MQ below _ _ s _ _ _ = Q
  refine lv_iload_n hx hb dX12_reckon_0 rfl (lv_at hl 1 rfl) ?_
  have w_91 : x.toInt = 20 ∨ x.toInt = 21 ∨ x.toInt = 22 ∨ x.toInt = 23 ∨ x.toInt = 24 ∨ x.toInt = 25 ∨ x.toInt = 26 ∨ (x.toInt < 20 ∨ 26 < x.toInt) := by omega
  rcases w_91 with w_91 | w_91 | w_91 | w_91 | w_91 | w_91 | w_91 | w_91
  · refine lv_tableIn (tgt := 44) hx hb dX12_reckon_1 (by omega) (by omega) (by rw [w_91]; rfl) (by decide) ?_
    refine lv_lload_n hx hb dX12_reckon_44 rfl (lv_at hl 2 rfl) ?_
    refine lv_lload hx hb dX12_reckon_45 (lv_at hl 3 rfl) ?_
    refine lv_ladd hx hb dX12_reckon_47 ?_
    refine lv_topl (fun x_92 ex_92 => ?_)
    rw [← hQ]
    have hP9 := hP.sub (ws' := [(m0, .inr (12, [m_0, m_1, m_2, m_3, m_4, m_5, m_6, m_7, m_8, m_9, m_10, m_11, m_12, m_13, m_14, m_15, m_16, m_17, m_18, m_19, m_20, m_21, m_22, m_23, m_24, m_25, m_26, m_27, m_28, m_29, m_30, m_31, m_32, m_33, m_34, m_35, m_36, m_37, .int bro, m_39, m_40, m_41, m_42, m_43, m_44, m_45, m_46, m_47, m_48, m_49, m_50, m_51, m_52, m_53, m_54, m_55, m_56, m_57, m_58, m_59]))]) [0] rfl
    have hD9 := hD.sub (ws' := [(m0, .inr (12, [m_0, m_1, m_2, m_3, m_4, m_5, m_6, m_7, m_8, m_9, m_10, m_11, m_12, m_13, m_14, m_15, m_16, m_17, m_18, m_19, m_20, m_21, m_22, m_23, m_24, m_25, m_26, m_27, m_28, m_29, m_30, m_31, m_32, m_33, m_34, m_35, m_36, m_37, .int bro, m_39, m_40, m_41, m_42, m_43, m_44, m_45, m_46, m_47, m_48, m_49, m_50, m_51, m_52, m_53, m_54, m_55, m_56, m_57, m_58, m_59]))]) [0] (by decide) rfl
    exact W.lret (v := x_92) hx hb hr (fun t ht hW => ⟨⟨x_92, ((fun _ => 0, fun _ => fun _ => 0, fun _ => fun _ => 0, fun i => match i with | _ => bro, fun _ => 0, fun _ => fun _ => none) : Su), rfl, ⟨(show 0 ≤ (bro : Int32).toInt ∧ (bro : Int32).toInt ≤ 1 by omega), trivial⟩, (⟨by rw [ht]; exact hP9, hD9⟩ : Wd D A _ t)⟩, hS.F ht⟩) hS.2.2 dX12_reckon_48
  · refine lv_tableIn (tgt := 49) hx hb dX12_reckon_1 (by omega) (by omega) (by rw [w_91]; rfl) (by decide) ?_
    refine lv_lload_n hx hb dX12_reckon_49 rfl (lv_at hl 2 rfl) ?_
    refine lv_lload hx hb dX12_reckon_50 (lv_at hl 3 rfl) ?_
    refine lv_lsub hx hb dX12_reckon_52 ?_
    refine lv_topl (fun x_93 ex_93 => ?_)
    rw [← hQ]
    have hP9 := hP.sub (ws' := [(m0, .inr (12, [m_0, m_1, m_2, m_3, m_4, m_5, m_6, m_7, m_8, m_9, m_10, m_11, m_12, m_13, m_14, m_15, m_16, m_17, m_18, m_19, m_20, m_21, m_22, m_23, m_24, m_25, m_26, m_27, m_28, m_29, m_30, m_31, m_32, m_33, m_34, m_35, m_36, m_37, .int bro, m_39, m_40, m_41, m_42, m_43, m_44, m_45, m_46, m_47, m_48, m_49, m_50, m_51, m_52, m_53, m_54, m_55, m_56, m_57, m_58, m_59]))]) [0] rfl
    have hD9 := hD.sub (ws' := [(m0, .inr (12, [m_0, m_1, m_2, m_3, m_4, m_5, m_6, m_7, m_8, m_9, m_10, m_11, m_12, m_13, m_14, m_15, m_16, m_17, m_18, m_19, m_20, m_21, m_22, m_23, m_24, m_25, m_26, m_27, m_28, m_29, m_30, m_31, m_32, m_33, m_34, m_35, m_36, m_37, .int bro, m_39, m_40, m_41, m_42, m_43, m_44, m_45, m_46, m_47, m_48, m_49, m_50, m_51, m_52, m_53, m_54, m_55, m_56, m_57, m_58, m_59]))]) [0] (by decide) rfl
    exact W.lret (v := x_93) hx hb hr (fun t ht hW => ⟨⟨x_93, ((fun _ => 0, fun _ => fun _ => 0, fun _ => fun _ => 0, fun i => match i with | _ => bro, fun _ => 0, fun _ => fun _ => none) : Su), rfl, ⟨(show 0 ≤ (bro : Int32).toInt ∧ (bro : Int32).toInt ≤ 1 by omega), trivial⟩, (⟨by rw [ht]; exact hP9, hD9⟩ : Wd D A _ t)⟩, hS.F ht⟩) hS.2.2 dX12_reckon_53
  · refine lv_tableIn (tgt := 54) hx hb dX12_reckon_1 (by omega) (by omega) (by rw [w_91]; rfl) (by decide) ?_
    refine lv_lload_n hx hb dX12_reckon_54 rfl (lv_at hl 2 rfl) ?_
    refine lv_lload hx hb dX12_reckon_55 (lv_at hl 3 rfl) ?_
    refine lv_lmul hx hb dX12_reckon_57 ?_
    refine lv_topl (fun x_94 ex_94 => ?_)
    rw [← hQ]
    have hP9 := hP.sub (ws' := [(m0, .inr (12, [m_0, m_1, m_2, m_3, m_4, m_5, m_6, m_7, m_8, m_9, m_10, m_11, m_12, m_13, m_14, m_15, m_16, m_17, m_18, m_19, m_20, m_21, m_22, m_23, m_24, m_25, m_26, m_27, m_28, m_29, m_30, m_31, m_32, m_33, m_34, m_35, m_36, m_37, .int bro, m_39, m_40, m_41, m_42, m_43, m_44, m_45, m_46, m_47, m_48, m_49, m_50, m_51, m_52, m_53, m_54, m_55, m_56, m_57, m_58, m_59]))]) [0] rfl
    have hD9 := hD.sub (ws' := [(m0, .inr (12, [m_0, m_1, m_2, m_3, m_4, m_5, m_6, m_7, m_8, m_9, m_10, m_11, m_12, m_13, m_14, m_15, m_16, m_17, m_18, m_19, m_20, m_21, m_22, m_23, m_24, m_25, m_26, m_27, m_28, m_29, m_30, m_31, m_32, m_33, m_34, m_35, m_36, m_37, .int bro, m_39, m_40, m_41, m_42, m_43, m_44, m_45, m_46, m_47, m_48, m_49, m_50, m_51, m_52, m_53, m_54, m_55, m_56, m_57, m_58, m_59]))]) [0] (by decide) rfl
    exact W.lret (v := x_94) hx hb hr (fun t ht hW => ⟨⟨x_94, ((fun _ => 0, fun _ => fun _ => 0, fun _ => fun _ => 0, fun i => match i with | _ => bro, fun _ => 0, fun _ => fun _ => none) : Su), rfl, ⟨(show 0 ≤ (bro : Int32).toInt ∧ (bro : Int32).toInt ≤ 1 by omega), trivial⟩, (⟨by rw [ht]; exact hP9, hD9⟩ : Wd D A _ t)⟩, hS.F ht⟩) hS.2.2 dX12_reckon_58
  · refine lv_tableIn (tgt := 59) hx hb dX12_reckon_1 (by omega) (by omega) (by rw [w_91]; rfl) (by decide) ?_
    refine lv_aload_n hx hb dX12_reckon_59 rfl (lv_at hl 0 rfl) ?_
    refine lv_lload hx hb dX12_reckon_60 (lv_at hl 3 rfl) ?_
    refine lv_lconst (v := 0) hx hb dX12_reckon_62 (by decide) ?_
    refine W.lcmp hx hb dX12_reckon_63 ?_
    refine lv_if_ne (tgt := 71) hx hb dX12_reckon_64 (by decide) (fun c_95 => ?_) (fun c_95 => ?_)
    · have c_95i := l_ne (x := z.toInt) (y := 0) rfl rfl (fun q => c_95 ((lg_cmp_eq z 0).mpr q))
      refine lv_iconst (v := 0) hx hb dX12_reckon_71 (by decide) ?_
      refine va_put (ci := 12) (v := .int 0) (ty := .boolean) (C := RX12) (T := TX12) (N := 60) hx hb hts hw12 tyX12 tyX12_ok nmX12 hown hK hP hD hS 0 rfl rfl 38 (by decide) (hts (.fieldLink RX12 386 "SmokeTuneModel" "broken" "Z") (List.mem_cons_of_mem _ (List.mem_append_left _ (List.mem_of_getElem? (i := 0) rfl)))) (fun _ h9 => h9) rfl (by decide +kernel) (by first | rfl | decide) (by first | rfl | decide) (Nat.le_of_ble_eq_true rfl) dX12_reckon_72 (fun H locs hP hD hS => ?_)
      have hP : va_P D vwCl [(m0, .inr (12, [m_0, m_1, m_2, m_3, m_4, m_5, m_6, m_7, m_8, m_9, m_10, m_11, m_12, m_13, m_14, m_15, m_16, m_17, m_18, m_19, m_20, m_21, m_22, m_23, m_24, m_25, m_26, m_27, m_28, m_29, m_30, m_31, m_32, m_33, m_34, m_35, m_36, m_37, .int 0, m_39, m_40, m_41, m_42, m_43, m_44, m_45, m_46, m_47, m_48, m_49, m_50, m_51, m_52, m_53, m_54, m_55, m_56, m_57, m_58, m_59]))] H := hP
      have hD : va_D A [(m0, .inr (12, [m_0, m_1, m_2, m_3, m_4, m_5, m_6, m_7, m_8, m_9, m_10, m_11, m_12, m_13, m_14, m_15, m_16, m_17, m_18, m_19, m_20, m_21, m_22, m_23, m_24, m_25, m_26, m_27, m_28, m_29, m_30, m_31, m_32, m_33, m_34, m_35, m_36, m_37, .int 0, m_39, m_40, m_41, m_42, m_43, m_44, m_45, m_46, m_47, m_48, m_49, m_50, m_51, m_52, m_53, m_54, m_55, m_56, m_57, m_58, m_59]))] := hD
      refine lv_aload_n hx hb dX12_reckon_75 rfl (lv_at hl 0 rfl) ?_
      refine va_get (ci := 12) (v := .int 0) (C := RX12) (T := TX12) (N := 60) hx hb hts hw12 hown hK hP 0 rfl rfl 38 (by decide) (hts (.fieldLink RX12 386 "SmokeTuneModel" "broken" "Z") (List.mem_cons_of_mem _ (List.mem_append_left _ (List.mem_of_getElem? (i := 0) rfl)))) (fun _ h9 => h9) rfl dX12_reckon_76 ?_
      refine lv_if_eq (tgt := 86) hx hb dX12_reckon_79 (by decide) (fun c_96 => ?_) (fun c_96 => absurd (by decide) c_96)
      refine lv_lload_n hx hb dX12_reckon_86 rfl (lv_at hl 2 rfl) ?_
      refine lv_lload hx hb dX12_reckon_87 (lv_at hl 3 rfl) ?_
      refine lv_ldiv hx hb dX12_reckon_89 (fun h9 => by have h8 := l_eq (x := z.toInt) (y := 0) rfl rfl h9; omega) ?_
      refine lv_topl (fun x_97 ex_97 => ?_)
      rw [← hQ]
      have hP9 := hP.sub (ws' := [(m0, .inr (12, [m_0, m_1, m_2, m_3, m_4, m_5, m_6, m_7, m_8, m_9, m_10, m_11, m_12, m_13, m_14, m_15, m_16, m_17, m_18, m_19, m_20, m_21, m_22, m_23, m_24, m_25, m_26, m_27, m_28, m_29, m_30, m_31, m_32, m_33, m_34, m_35, m_36, m_37, .int 0, m_39, m_40, m_41, m_42, m_43, m_44, m_45, m_46, m_47, m_48, m_49, m_50, m_51, m_52, m_53, m_54, m_55, m_56, m_57, m_58, m_59]))]) [0] rfl
      have hD9 := hD.sub (ws' := [(m0, .inr (12, [m_0, m_1, m_2, m_3, m_4, m_5, m_6, m_7, m_8, m_9, m_10, m_11, m_12, m_13, m_14, m_15, m_16, m_17, m_18, m_19, m_20, m_21, m_22, m_23, m_24, m_25, m_26, m_27, m_28, m_29, m_30, m_31, m_32, m_33, m_34, m_35, m_36, m_37, .int 0, m_39, m_40, m_41, m_42, m_43, m_44, m_45, m_46, m_47, m_48, m_49, m_50, m_51, m_52, m_53, m_54, m_55, m_56, m_57, m_58, m_59]))]) [0] (by decide) rfl
      exact W.lret (v := x_97) hx hb hr (fun t ht hW => ⟨⟨x_97, ((fun _ => 0, fun _ => fun _ => 0, fun _ => fun _ => 0, fun i => match i with | _ => 0, fun _ => 0, fun _ => fun _ => none) : Su), rfl, ⟨(show 0 ≤ (0 : Int32).toInt ∧ (0 : Int32).toInt ≤ 1 by decide), trivial⟩, (⟨by rw [ht]; exact hP9, hD9⟩ : Wd D A _ t)⟩, hS.F ht⟩) hS.2.2 dX12_reckon_90
    · have c_95i := l_eq (x := z.toInt) (y := 0) rfl rfl ((lg_cmp_eq z 0).mp c_95)
      refine lv_iconst (v := 1) hx hb dX12_reckon_67 (by decide) ?_
      refine lv_goto (tgt := 72) hx hb dX12_reckon_68 (by decide) ?_
      refine va_put (ci := 12) (v := .int 1) (ty := .boolean) (C := RX12) (T := TX12) (N := 60) hx hb hts hw12 tyX12 tyX12_ok nmX12 hown hK hP hD hS 0 rfl rfl 38 (by decide) (hts (.fieldLink RX12 386 "SmokeTuneModel" "broken" "Z") (List.mem_cons_of_mem _ (List.mem_append_left _ (List.mem_of_getElem? (i := 0) rfl)))) (fun _ h9 => h9) rfl (by decide +kernel) (by first | rfl | decide) (by first | rfl | decide) (Nat.le_of_ble_eq_true rfl) dX12_reckon_72 (fun H locs hP hD hS => ?_)
      have hP : va_P D vwCl [(m0, .inr (12, [m_0, m_1, m_2, m_3, m_4, m_5, m_6, m_7, m_8, m_9, m_10, m_11, m_12, m_13, m_14, m_15, m_16, m_17, m_18, m_19, m_20, m_21, m_22, m_23, m_24, m_25, m_26, m_27, m_28, m_29, m_30, m_31, m_32, m_33, m_34, m_35, m_36, m_37, .int 1, m_39, m_40, m_41, m_42, m_43, m_44, m_45, m_46, m_47, m_48, m_49, m_50, m_51, m_52, m_53, m_54, m_55, m_56, m_57, m_58, m_59]))] H := hP
      have hD : va_D A [(m0, .inr (12, [m_0, m_1, m_2, m_3, m_4, m_5, m_6, m_7, m_8, m_9, m_10, m_11, m_12, m_13, m_14, m_15, m_16, m_17, m_18, m_19, m_20, m_21, m_22, m_23, m_24, m_25, m_26, m_27, m_28, m_29, m_30, m_31, m_32, m_33, m_34, m_35, m_36, m_37, .int 1, m_39, m_40, m_41, m_42, m_43, m_44, m_45, m_46, m_47, m_48, m_49, m_50, m_51, m_52, m_53, m_54, m_55, m_56, m_57, m_58, m_59]))] := hD
      refine lv_aload_n hx hb dX12_reckon_75 rfl (lv_at hl 0 rfl) ?_
      refine va_get (ci := 12) (v := .int 1) (C := RX12) (T := TX12) (N := 60) hx hb hts hw12 hown hK hP 0 rfl rfl 38 (by decide) (hts (.fieldLink RX12 386 "SmokeTuneModel" "broken" "Z") (List.mem_cons_of_mem _ (List.mem_append_left _ (List.mem_of_getElem? (i := 0) rfl)))) (fun _ h9 => h9) rfl dX12_reckon_76 ?_
      refine lv_if_eq (tgt := 86) hx hb dX12_reckon_79 (by decide) (fun c_98 => absurd c_98 (by decide)) (fun c_98 => ?_)
      refine lv_lconst (v := 0) hx hb dX12_reckon_82 (by decide) ?_
      refine lv_goto (tgt := 90) hx hb dX12_reckon_83 (by decide) ?_
      rw [← hQ]
      have hP9 := hP.sub (ws' := [(m0, .inr (12, [m_0, m_1, m_2, m_3, m_4, m_5, m_6, m_7, m_8, m_9, m_10, m_11, m_12, m_13, m_14, m_15, m_16, m_17, m_18, m_19, m_20, m_21, m_22, m_23, m_24, m_25, m_26, m_27, m_28, m_29, m_30, m_31, m_32, m_33, m_34, m_35, m_36, m_37, .int 1, m_39, m_40, m_41, m_42, m_43, m_44, m_45, m_46, m_47, m_48, m_49, m_50, m_51, m_52, m_53, m_54, m_55, m_56, m_57, m_58, m_59]))]) [0] rfl
      have hD9 := hD.sub (ws' := [(m0, .inr (12, [m_0, m_1, m_2, m_3, m_4, m_5, m_6, m_7, m_8, m_9, m_10, m_11, m_12, m_13, m_14, m_15, m_16, m_17, m_18, m_19, m_20, m_21, m_22, m_23, m_24, m_25, m_26, m_27, m_28, m_29, m_30, m_31, m_32, m_33, m_34, m_35, m_36, m_37, .int 1, m_39, m_40, m_41, m_42, m_43, m_44, m_45, m_46, m_47, m_48, m_49, m_50, m_51, m_52, m_53, m_54, m_55, m_56, m_57, m_58, m_59]))]) [0] (by decide) rfl
      exact W.lret (v := 0) hx hb hr (fun t ht hW => ⟨⟨0, ((fun _ => 0, fun _ => fun _ => 0, fun _ => fun _ => 0, fun i => match i with | _ => 1, fun _ => 0, fun _ => fun _ => none) : Su), rfl, ⟨(show 0 ≤ (1 : Int32).toInt ∧ (1 : Int32).toInt ≤ 1 by decide), trivial⟩, (⟨by rw [ht]; exact hP9, hD9⟩ : Wd D A _ t)⟩, hS.F ht⟩) hS.2.2 dX12_reckon_90
  · refine lv_tableIn (tgt := 91) hx hb dX12_reckon_1 (by omega) (by omega) (by rw [w_91]; rfl) (by decide) ?_
    refine lv_aload_n hx hb dX12_reckon_91 rfl (lv_at hl 0 rfl) ?_
    refine lv_lload hx hb dX12_reckon_92 (lv_at hl 3 rfl) ?_
    refine lv_lconst (v := 0) hx hb dX12_reckon_94 (by decide) ?_
    refine W.lcmp hx hb dX12_reckon_95 ?_
    refine lv_if_ne (tgt := 103) hx hb dX12_reckon_96 (by decide) (fun c_99 => ?_) (fun c_99 => ?_)
    · have c_99i := l_ne (x := z.toInt) (y := 0) rfl rfl (fun q => c_99 ((lg_cmp_eq z 0).mpr q))
      refine lv_iconst (v := 0) hx hb dX12_reckon_103 (by decide) ?_
      refine va_put (ci := 12) (v := .int 0) (ty := .boolean) (C := RX12) (T := TX12) (N := 60) hx hb hts hw12 tyX12 tyX12_ok nmX12 hown hK hP hD hS 0 rfl rfl 38 (by decide) (hts (.fieldLink RX12 386 "SmokeTuneModel" "broken" "Z") (List.mem_cons_of_mem _ (List.mem_append_left _ (List.mem_of_getElem? (i := 0) rfl)))) (fun _ h9 => h9) rfl (by decide +kernel) (by first | rfl | decide) (by first | rfl | decide) (Nat.le_of_ble_eq_true rfl) dX12_reckon_104 (fun H locs hP hD hS => ?_)
      have hP : va_P D vwCl [(m0, .inr (12, [m_0, m_1, m_2, m_3, m_4, m_5, m_6, m_7, m_8, m_9, m_10, m_11, m_12, m_13, m_14, m_15, m_16, m_17, m_18, m_19, m_20, m_21, m_22, m_23, m_24, m_25, m_26, m_27, m_28, m_29, m_30, m_31, m_32, m_33, m_34, m_35, m_36, m_37, .int 0, m_39, m_40, m_41, m_42, m_43, m_44, m_45, m_46, m_47, m_48, m_49, m_50, m_51, m_52, m_53, m_54, m_55, m_56, m_57, m_58, m_59]))] H := hP
      have hD : va_D A [(m0, .inr (12, [m_0, m_1, m_2, m_3, m_4, m_5, m_6, m_7, m_8, m_9, m_10, m_11, m_12, m_13, m_14, m_15, m_16, m_17, m_18, m_19, m_20, m_21, m_22, m_23, m_24, m_25, m_26, m_27, m_28, m_29, m_30, m_31, m_32, m_33, m_34, m_35, m_36, m_37, .int 0, m_39, m_40, m_41, m_42, m_43, m_44, m_45, m_46, m_47, m_48, m_49, m_50, m_51, m_52, m_53, m_54, m_55, m_56, m_57, m_58, m_59]))] := hD
      refine lv_aload_n hx hb dX12_reckon_107 rfl (lv_at hl 0 rfl) ?_
      refine va_get (ci := 12) (v := .int 0) (C := RX12) (T := TX12) (N := 60) hx hb hts hw12 hown hK hP 0 rfl rfl 38 (by decide) (hts (.fieldLink RX12 386 "SmokeTuneModel" "broken" "Z") (List.mem_cons_of_mem _ (List.mem_append_left _ (List.mem_of_getElem? (i := 0) rfl)))) (fun _ h9 => h9) rfl dX12_reckon_108 ?_
      refine lv_if_eq (tgt := 118) hx hb dX12_reckon_111 (by decide) (fun c_100 => ?_) (fun c_100 => absurd (by decide) c_100)
      refine lv_lload_n hx hb dX12_reckon_118 rfl (lv_at hl 2 rfl) ?_
      refine lv_lload hx hb dX12_reckon_119 (lv_at hl 3 rfl) ?_
      refine lv_lrem hx hb dX12_reckon_121 (fun h9 => by have h8 := l_eq (x := z.toInt) (y := 0) rfl rfl h9; omega) ?_
      refine lv_topl (fun x_101 ex_101 => ?_)
      rw [← hQ]
      have hP9 := hP.sub (ws' := [(m0, .inr (12, [m_0, m_1, m_2, m_3, m_4, m_5, m_6, m_7, m_8, m_9, m_10, m_11, m_12, m_13, m_14, m_15, m_16, m_17, m_18, m_19, m_20, m_21, m_22, m_23, m_24, m_25, m_26, m_27, m_28, m_29, m_30, m_31, m_32, m_33, m_34, m_35, m_36, m_37, .int 0, m_39, m_40, m_41, m_42, m_43, m_44, m_45, m_46, m_47, m_48, m_49, m_50, m_51, m_52, m_53, m_54, m_55, m_56, m_57, m_58, m_59]))]) [0] rfl
      have hD9 := hD.sub (ws' := [(m0, .inr (12, [m_0, m_1, m_2, m_3, m_4, m_5, m_6, m_7, m_8, m_9, m_10, m_11, m_12, m_13, m_14, m_15, m_16, m_17, m_18, m_19, m_20, m_21, m_22, m_23, m_24, m_25, m_26, m_27, m_28, m_29, m_30, m_31, m_32, m_33, m_34, m_35, m_36, m_37, .int 0, m_39, m_40, m_41, m_42, m_43, m_44, m_45, m_46, m_47, m_48, m_49, m_50, m_51, m_52, m_53, m_54, m_55, m_56, m_57, m_58, m_59]))]) [0] (by decide) rfl
      exact W.lret (v := x_101) hx hb hr (fun t ht hW => ⟨⟨x_101, ((fun _ => 0, fun _ => fun _ => 0, fun _ => fun _ => 0, fun i => match i with | _ => 0, fun _ => 0, fun _ => fun _ => none) : Su), rfl, ⟨(show 0 ≤ (0 : Int32).toInt ∧ (0 : Int32).toInt ≤ 1 by decide), trivial⟩, (⟨by rw [ht]; exact hP9, hD9⟩ : Wd D A _ t)⟩, hS.F ht⟩) hS.2.2 dX12_reckon_122
    · have c_99i := l_eq (x := z.toInt) (y := 0) rfl rfl ((lg_cmp_eq z 0).mp c_99)
      refine lv_iconst (v := 1) hx hb dX12_reckon_99 (by decide) ?_
      refine lv_goto (tgt := 104) hx hb dX12_reckon_100 (by decide) ?_
      refine va_put (ci := 12) (v := .int 1) (ty := .boolean) (C := RX12) (T := TX12) (N := 60) hx hb hts hw12 tyX12 tyX12_ok nmX12 hown hK hP hD hS 0 rfl rfl 38 (by decide) (hts (.fieldLink RX12 386 "SmokeTuneModel" "broken" "Z") (List.mem_cons_of_mem _ (List.mem_append_left _ (List.mem_of_getElem? (i := 0) rfl)))) (fun _ h9 => h9) rfl (by decide +kernel) (by first | rfl | decide) (by first | rfl | decide) (Nat.le_of_ble_eq_true rfl) dX12_reckon_104 (fun H locs hP hD hS => ?_)
      have hP : va_P D vwCl [(m0, .inr (12, [m_0, m_1, m_2, m_3, m_4, m_5, m_6, m_7, m_8, m_9, m_10, m_11, m_12, m_13, m_14, m_15, m_16, m_17, m_18, m_19, m_20, m_21, m_22, m_23, m_24, m_25, m_26, m_27, m_28, m_29, m_30, m_31, m_32, m_33, m_34, m_35, m_36, m_37, .int 1, m_39, m_40, m_41, m_42, m_43, m_44, m_45, m_46, m_47, m_48, m_49, m_50, m_51, m_52, m_53, m_54, m_55, m_56, m_57, m_58, m_59]))] H := hP
      have hD : va_D A [(m0, .inr (12, [m_0, m_1, m_2, m_3, m_4, m_5, m_6, m_7, m_8, m_9, m_10, m_11, m_12, m_13, m_14, m_15, m_16, m_17, m_18, m_19, m_20, m_21, m_22, m_23, m_24, m_25, m_26, m_27, m_28, m_29, m_30, m_31, m_32, m_33, m_34, m_35, m_36, m_37, .int 1, m_39, m_40, m_41, m_42, m_43, m_44, m_45, m_46, m_47, m_48, m_49, m_50, m_51, m_52, m_53, m_54, m_55, m_56, m_57, m_58, m_59]))] := hD
      refine lv_aload_n hx hb dX12_reckon_107 rfl (lv_at hl 0 rfl) ?_
      refine va_get (ci := 12) (v := .int 1) (C := RX12) (T := TX12) (N := 60) hx hb hts hw12 hown hK hP 0 rfl rfl 38 (by decide) (hts (.fieldLink RX12 386 "SmokeTuneModel" "broken" "Z") (List.mem_cons_of_mem _ (List.mem_append_left _ (List.mem_of_getElem? (i := 0) rfl)))) (fun _ h9 => h9) rfl dX12_reckon_108 ?_
      refine lv_if_eq (tgt := 118) hx hb dX12_reckon_111 (by decide) (fun c_102 => absurd c_102 (by decide)) (fun c_102 => ?_)
      refine lv_lconst (v := 0) hx hb dX12_reckon_114 (by decide) ?_
      refine lv_goto (tgt := 122) hx hb dX12_reckon_115 (by decide) ?_
      rw [← hQ]
      have hP9 := hP.sub (ws' := [(m0, .inr (12, [m_0, m_1, m_2, m_3, m_4, m_5, m_6, m_7, m_8, m_9, m_10, m_11, m_12, m_13, m_14, m_15, m_16, m_17, m_18, m_19, m_20, m_21, m_22, m_23, m_24, m_25, m_26, m_27, m_28, m_29, m_30, m_31, m_32, m_33, m_34, m_35, m_36, m_37, .int 1, m_39, m_40, m_41, m_42, m_43, m_44, m_45, m_46, m_47, m_48, m_49, m_50, m_51, m_52, m_53, m_54, m_55, m_56, m_57, m_58, m_59]))]) [0] rfl
      have hD9 := hD.sub (ws' := [(m0, .inr (12, [m_0, m_1, m_2, m_3, m_4, m_5, m_6, m_7, m_8, m_9, m_10, m_11, m_12, m_13, m_14, m_15, m_16, m_17, m_18, m_19, m_20, m_21, m_22, m_23, m_24, m_25, m_26, m_27, m_28, m_29, m_30, m_31, m_32, m_33, m_34, m_35, m_36, m_37, .int 1, m_39, m_40, m_41, m_42, m_43, m_44, m_45, m_46, m_47, m_48, m_49, m_50, m_51, m_52, m_53, m_54, m_55, m_56, m_57, m_58, m_59]))]) [0] (by decide) rfl
      exact W.lret (v := 0) hx hb hr (fun t ht hW => ⟨⟨0, ((fun _ => 0, fun _ => fun _ => 0, fun _ => fun _ => 0, fun i => match i with | _ => 1, fun _ => 0, fun _ => fun _ => none) : Su), rfl, ⟨(show 0 ≤ (1 : Int32).toInt ∧ (1 : Int32).toInt ≤ 1 by decide), trivial⟩, (⟨by rw [ht]; exact hP9, hD9⟩ : Wd D A _ t)⟩, hS.F ht⟩) hS.2.2 dX12_reckon_122
  · refine lv_tableIn (tgt := 123) hx hb dX12_reckon_1 (by omega) (by omega) (by rw [w_91]; rfl) (by decide) ?_
    refine lv_lload_n hx hb dX12_reckon_123 rfl (lv_at hl 2 rfl) ?_
    refine lv_lload hx hb dX12_reckon_124 (lv_at hl 3 rfl) ?_
    refine W.lcmp hx hb dX12_reckon_126 ?_
    refine lv_if_ge (tgt := 134) hx hb dX12_reckon_127 (by decide) (fun c_103 => ?_) (fun c_103 => ?_)
    · have c_103i := l_le (x := z.toInt) (y := y.toInt) rfl rfl ((lg_cmp_ge y z).mp c_103)
      refine lv_lconst (v := 0) hx hb dX12_reckon_134 (by decide) ?_
      rw [← hQ]
      have hP9 := hP.sub (ws' := [(m0, .inr (12, [m_0, m_1, m_2, m_3, m_4, m_5, m_6, m_7, m_8, m_9, m_10, m_11, m_12, m_13, m_14, m_15, m_16, m_17, m_18, m_19, m_20, m_21, m_22, m_23, m_24, m_25, m_26, m_27, m_28, m_29, m_30, m_31, m_32, m_33, m_34, m_35, m_36, m_37, .int bro, m_39, m_40, m_41, m_42, m_43, m_44, m_45, m_46, m_47, m_48, m_49, m_50, m_51, m_52, m_53, m_54, m_55, m_56, m_57, m_58, m_59]))]) [0] rfl
      have hD9 := hD.sub (ws' := [(m0, .inr (12, [m_0, m_1, m_2, m_3, m_4, m_5, m_6, m_7, m_8, m_9, m_10, m_11, m_12, m_13, m_14, m_15, m_16, m_17, m_18, m_19, m_20, m_21, m_22, m_23, m_24, m_25, m_26, m_27, m_28, m_29, m_30, m_31, m_32, m_33, m_34, m_35, m_36, m_37, .int bro, m_39, m_40, m_41, m_42, m_43, m_44, m_45, m_46, m_47, m_48, m_49, m_50, m_51, m_52, m_53, m_54, m_55, m_56, m_57, m_58, m_59]))]) [0] (by decide) rfl
      exact W.lret (v := 0) hx hb hr (fun t ht hW => ⟨⟨0, ((fun _ => 0, fun _ => fun _ => 0, fun _ => fun _ => 0, fun i => match i with | _ => bro, fun _ => 0, fun _ => fun _ => none) : Su), rfl, ⟨(show 0 ≤ (bro : Int32).toInt ∧ (bro : Int32).toInt ≤ 1 by omega), trivial⟩, (⟨by rw [ht]; exact hP9, hD9⟩ : Wd D A _ t)⟩, hS.F ht⟩) hS.2.2 dX12_reckon_135
    · have c_103i := l_nle (x := z.toInt) (y := y.toInt) rfl rfl (fun q => c_103 ((lg_cmp_ge y z).mpr q))
      refine lv_lconst (v := 1) hx hb dX12_reckon_130 (by decide) ?_
      refine lv_goto (tgt := 135) hx hb dX12_reckon_131 (by decide) ?_
      rw [← hQ]
      have hP9 := hP.sub (ws' := [(m0, .inr (12, [m_0, m_1, m_2, m_3, m_4, m_5, m_6, m_7, m_8, m_9, m_10, m_11, m_12, m_13, m_14, m_15, m_16, m_17, m_18, m_19, m_20, m_21, m_22, m_23, m_24, m_25, m_26, m_27, m_28, m_29, m_30, m_31, m_32, m_33, m_34, m_35, m_36, m_37, .int bro, m_39, m_40, m_41, m_42, m_43, m_44, m_45, m_46, m_47, m_48, m_49, m_50, m_51, m_52, m_53, m_54, m_55, m_56, m_57, m_58, m_59]))]) [0] rfl
      have hD9 := hD.sub (ws' := [(m0, .inr (12, [m_0, m_1, m_2, m_3, m_4, m_5, m_6, m_7, m_8, m_9, m_10, m_11, m_12, m_13, m_14, m_15, m_16, m_17, m_18, m_19, m_20, m_21, m_22, m_23, m_24, m_25, m_26, m_27, m_28, m_29, m_30, m_31, m_32, m_33, m_34, m_35, m_36, m_37, .int bro, m_39, m_40, m_41, m_42, m_43, m_44, m_45, m_46, m_47, m_48, m_49, m_50, m_51, m_52, m_53, m_54, m_55, m_56, m_57, m_58, m_59]))]) [0] (by decide) rfl
      exact W.lret (v := 1) hx hb hr (fun t ht hW => ⟨⟨1, ((fun _ => 0, fun _ => fun _ => 0, fun _ => fun _ => 0, fun i => match i with | _ => bro, fun _ => 0, fun _ => fun _ => none) : Su), rfl, ⟨(show 0 ≤ (bro : Int32).toInt ∧ (bro : Int32).toInt ≤ 1 by omega), trivial⟩, (⟨by rw [ht]; exact hP9, hD9⟩ : Wd D A _ t)⟩, hS.F ht⟩) hS.2.2 dX12_reckon_135
  · refine lv_tableIn (tgt := 136) hx hb dX12_reckon_1 (by omega) (by omega) (by rw [w_91]; rfl) (by decide) ?_
    refine lv_lload_n hx hb dX12_reckon_136 rfl (lv_at hl 2 rfl) ?_
    refine lv_lload hx hb dX12_reckon_137 (lv_at hl 3 rfl) ?_
    refine W.lcmp hx hb dX12_reckon_139 ?_
    refine lv_if_le (tgt := 147) hx hb dX12_reckon_140 (by decide) (fun c_104 => ?_) (fun c_104 => ?_)
    · have c_104i := l_le (x := y.toInt) (y := z.toInt) rfl rfl ((lg_cmp_le y z).mp c_104)
      refine lv_lconst (v := 0) hx hb dX12_reckon_147 (by decide) ?_
      rw [← hQ]
      have hP9 := hP.sub (ws' := [(m0, .inr (12, [m_0, m_1, m_2, m_3, m_4, m_5, m_6, m_7, m_8, m_9, m_10, m_11, m_12, m_13, m_14, m_15, m_16, m_17, m_18, m_19, m_20, m_21, m_22, m_23, m_24, m_25, m_26, m_27, m_28, m_29, m_30, m_31, m_32, m_33, m_34, m_35, m_36, m_37, .int bro, m_39, m_40, m_41, m_42, m_43, m_44, m_45, m_46, m_47, m_48, m_49, m_50, m_51, m_52, m_53, m_54, m_55, m_56, m_57, m_58, m_59]))]) [0] rfl
      have hD9 := hD.sub (ws' := [(m0, .inr (12, [m_0, m_1, m_2, m_3, m_4, m_5, m_6, m_7, m_8, m_9, m_10, m_11, m_12, m_13, m_14, m_15, m_16, m_17, m_18, m_19, m_20, m_21, m_22, m_23, m_24, m_25, m_26, m_27, m_28, m_29, m_30, m_31, m_32, m_33, m_34, m_35, m_36, m_37, .int bro, m_39, m_40, m_41, m_42, m_43, m_44, m_45, m_46, m_47, m_48, m_49, m_50, m_51, m_52, m_53, m_54, m_55, m_56, m_57, m_58, m_59]))]) [0] (by decide) rfl
      exact W.lret (v := 0) hx hb hr (fun t ht hW => ⟨⟨0, ((fun _ => 0, fun _ => fun _ => 0, fun _ => fun _ => 0, fun i => match i with | _ => bro, fun _ => 0, fun _ => fun _ => none) : Su), rfl, ⟨(show 0 ≤ (bro : Int32).toInt ∧ (bro : Int32).toInt ≤ 1 by omega), trivial⟩, (⟨by rw [ht]; exact hP9, hD9⟩ : Wd D A _ t)⟩, hS.F ht⟩) hS.2.2 dX12_reckon_148
    · have c_104i := l_nle (x := y.toInt) (y := z.toInt) rfl rfl (fun q => c_104 ((lg_cmp_le y z).mpr q))
      refine lv_lconst (v := 1) hx hb dX12_reckon_143 (by decide) ?_
      refine lv_goto (tgt := 148) hx hb dX12_reckon_144 (by decide) ?_
      rw [← hQ]
      have hP9 := hP.sub (ws' := [(m0, .inr (12, [m_0, m_1, m_2, m_3, m_4, m_5, m_6, m_7, m_8, m_9, m_10, m_11, m_12, m_13, m_14, m_15, m_16, m_17, m_18, m_19, m_20, m_21, m_22, m_23, m_24, m_25, m_26, m_27, m_28, m_29, m_30, m_31, m_32, m_33, m_34, m_35, m_36, m_37, .int bro, m_39, m_40, m_41, m_42, m_43, m_44, m_45, m_46, m_47, m_48, m_49, m_50, m_51, m_52, m_53, m_54, m_55, m_56, m_57, m_58, m_59]))]) [0] rfl
      have hD9 := hD.sub (ws' := [(m0, .inr (12, [m_0, m_1, m_2, m_3, m_4, m_5, m_6, m_7, m_8, m_9, m_10, m_11, m_12, m_13, m_14, m_15, m_16, m_17, m_18, m_19, m_20, m_21, m_22, m_23, m_24, m_25, m_26, m_27, m_28, m_29, m_30, m_31, m_32, m_33, m_34, m_35, m_36, m_37, .int bro, m_39, m_40, m_41, m_42, m_43, m_44, m_45, m_46, m_47, m_48, m_49, m_50, m_51, m_52, m_53, m_54, m_55, m_56, m_57, m_58, m_59]))]) [0] (by decide) rfl
      exact W.lret (v := 1) hx hb hr (fun t ht hW => ⟨⟨1, ((fun _ => 0, fun _ => fun _ => 0, fun _ => fun _ => 0, fun i => match i with | _ => bro, fun _ => 0, fun _ => fun _ => none) : Su), rfl, ⟨(show 0 ≤ (bro : Int32).toInt ∧ (bro : Int32).toInt ≤ 1 by omega), trivial⟩, (⟨by rw [ht]; exact hP9, hD9⟩ : Wd D A _ t)⟩, hS.F ht⟩) hS.2.2 dX12_reckon_148
  · refine lv_tableOut (tgt := 149) hx hb dX12_reckon_1 (by omega) (by decide) ?_
    refine lv_lload_n hx hb dX12_reckon_149 rfl (lv_at hl 2 rfl) ?_
    refine lv_lload hx hb dX12_reckon_150 (lv_at hl 3 rfl) ?_
    refine W.lcmp hx hb dX12_reckon_152 ?_
    refine lv_if_ne (tgt := 160) hx hb dX12_reckon_153 (by decide) (fun c_105 => ?_) (fun c_105 => ?_)
    · have c_105i := l_ne (x := y.toInt) (y := z.toInt) rfl rfl (fun q => c_105 ((lg_cmp_eq y z).mpr q))
      refine lv_lconst (v := 0) hx hb dX12_reckon_160 (by decide) ?_
      rw [← hQ]
      have hP9 := hP.sub (ws' := [(m0, .inr (12, [m_0, m_1, m_2, m_3, m_4, m_5, m_6, m_7, m_8, m_9, m_10, m_11, m_12, m_13, m_14, m_15, m_16, m_17, m_18, m_19, m_20, m_21, m_22, m_23, m_24, m_25, m_26, m_27, m_28, m_29, m_30, m_31, m_32, m_33, m_34, m_35, m_36, m_37, .int bro, m_39, m_40, m_41, m_42, m_43, m_44, m_45, m_46, m_47, m_48, m_49, m_50, m_51, m_52, m_53, m_54, m_55, m_56, m_57, m_58, m_59]))]) [0] rfl
      have hD9 := hD.sub (ws' := [(m0, .inr (12, [m_0, m_1, m_2, m_3, m_4, m_5, m_6, m_7, m_8, m_9, m_10, m_11, m_12, m_13, m_14, m_15, m_16, m_17, m_18, m_19, m_20, m_21, m_22, m_23, m_24, m_25, m_26, m_27, m_28, m_29, m_30, m_31, m_32, m_33, m_34, m_35, m_36, m_37, .int bro, m_39, m_40, m_41, m_42, m_43, m_44, m_45, m_46, m_47, m_48, m_49, m_50, m_51, m_52, m_53, m_54, m_55, m_56, m_57, m_58, m_59]))]) [0] (by decide) rfl
      exact W.lret (v := 0) hx hb hr (fun t ht hW => ⟨⟨0, ((fun _ => 0, fun _ => fun _ => 0, fun _ => fun _ => 0, fun i => match i with | _ => bro, fun _ => 0, fun _ => fun _ => none) : Su), rfl, ⟨(show 0 ≤ (bro : Int32).toInt ∧ (bro : Int32).toInt ≤ 1 by omega), trivial⟩, (⟨by rw [ht]; exact hP9, hD9⟩ : Wd D A _ t)⟩, hS.F ht⟩) hS.2.2 dX12_reckon_161
    · have c_105i := l_eq (x := y.toInt) (y := z.toInt) rfl rfl ((lg_cmp_eq y z).mp c_105)
      refine lv_lconst (v := 1) hx hb dX12_reckon_156 (by decide) ?_
      refine lv_goto (tgt := 161) hx hb dX12_reckon_157 (by decide) ?_
      rw [← hQ]
      have hP9 := hP.sub (ws' := [(m0, .inr (12, [m_0, m_1, m_2, m_3, m_4, m_5, m_6, m_7, m_8, m_9, m_10, m_11, m_12, m_13, m_14, m_15, m_16, m_17, m_18, m_19, m_20, m_21, m_22, m_23, m_24, m_25, m_26, m_27, m_28, m_29, m_30, m_31, m_32, m_33, m_34, m_35, m_36, m_37, .int bro, m_39, m_40, m_41, m_42, m_43, m_44, m_45, m_46, m_47, m_48, m_49, m_50, m_51, m_52, m_53, m_54, m_55, m_56, m_57, m_58, m_59]))]) [0] rfl
      have hD9 := hD.sub (ws' := [(m0, .inr (12, [m_0, m_1, m_2, m_3, m_4, m_5, m_6, m_7, m_8, m_9, m_10, m_11, m_12, m_13, m_14, m_15, m_16, m_17, m_18, m_19, m_20, m_21, m_22, m_23, m_24, m_25, m_26, m_27, m_28, m_29, m_30, m_31, m_32, m_33, m_34, m_35, m_36, m_37, .int bro, m_39, m_40, m_41, m_42, m_43, m_44, m_45, m_46, m_47, m_48, m_49, m_50, m_51, m_52, m_53, m_54, m_55, m_56, m_57, m_58, m_59]))]) [0] (by decide) rfl
      exact W.lret (v := 1) hx hb hr (fun t ht hW => ⟨⟨1, ((fun _ => 0, fun _ => fun _ => 0, fun _ => fun _ => 0, fun i => match i with | _ => bro, fun _ => 0, fun _ => fun _ => none) : Su), rfl, ⟨(show 0 ≤ (bro : Int32).toInt ∧ (bro : Int32).toInt ≤ 1 by omega), trivial⟩, (⟨by rw [ht]; exact hP9, hD9⟩ : Wd D A _ t)⟩, hS.F ht⟩) hS.2.2 dX12_reckon_161
set_option maxHeartbeats 4000000 in
set_option maxRecDepth 100000 in
theorem v_reckonAll (l : Launch) (D : va_G) (K : Nat → ClassId) (b : Nat) (m0 : Nat) (x : Int32) (y : Int32) (m_0 : Value) (m_1 : Value) (m_2 : Value) (w0 : Nat) (m_4 : Value) (m_5 : Value) (m_6 : Value) (m_7 : Value) (m_8 : Value) (m_9 : Value) (m_10 : Value) (m_11 : Value) (m_12 : Value) (m_13 : Value) (m_14 : Value) (m_15 : Value) (m_16 : Value) (m_17 : Value) (m_18 : Value) (m_19 : Value) (m_21 : Value) (m_22 : Value) (m_23 : Value) (m_24 : Value) (m_25 : Value) (m_26 : Value) (m_27 : Value) (m_28 : Value) (m_29 : Value) (m_30 : Value) (m_31 : Value) (m_32 : Value) (m_33 : Value) (lw : Int32) (e0 : Nat) (m_36 : Value) (q0 : Nat) (bro : Int32) (val : Int64) (sm : Int64) (m_41 : Value) (m_42 : Value) (m_43 : Value) (m_44 : Value) (m_45 : Value) (m_46 : Value) (m_47 : Value) (m_48 : Value) (m_49 : Value) (m_50 : Value) (m_51 : Value) (m_52 : Value) (m_53 : Value) (m_54 : Value) (m_55 : Value) (m_56 : Value) (m_57 : Value) (m_58 : Value) (m_59 : Value) (fw : Nat → Int32) (fe : Nat → Int64) (frs : Nat → Int64) (sz : Nat) (zbro : 0 ≤ bro.toInt ∧ bro.toInt ≤ 1) (hlw : lw.toInt = ((b : Nat) : Int)) (zb : 100 ≤ b ∧ b ≤ 4600) (hseg : Seg (lop fw b) (lar fw b) x.toInt y.toInt) (zfw : RwOK fw) : Met l yX12_reckonAll wsX12_reckonAll ({ frames := 1, cells := 0, slots := 0, locals := 25 }) (va_Pc [.ref m0, .int x, .int y] (Pre D K [(m0, .inr (12, [m_0, m_1, m_2, .ref w0, m_4, m_5, m_6, m_7, m_8, m_9, m_10, m_11, m_12, m_13, m_14, m_15, m_16, m_17, m_18, m_19, .int 0, m_21, m_22, m_23, m_24, m_25, m_26, m_27, m_28, m_29, m_30, m_31, m_32, m_33, .int lw, .ref e0, m_36, .ref q0, .int bro, .long val, .long sm, m_41, m_42, m_43, m_44, m_45, m_46, m_47, m_48, m_49, m_50, m_51, m_52, m_53, m_54, m_55, m_56, m_57, m_58, m_59])), (w0, .inl (K 0, 5500, .inl fw)), (e0, .inl (K 2, 13, .inr (.inl fe))), (q0, .inl (K 2, 400, .inr (.inl frs)))] sz)) (va_Qv (S := Su) (fun (u : Su) => (0 ≤ (u.2.2.2.1 0).toInt ∧ (u.2.2.2.1 0).toInt ≤ 1) ∧ True) (fun u t => Wd D (va_A [(m0, .inr (12, [m_0, m_1, m_2, .ref w0, m_4, m_5, m_6, m_7, m_8, m_9, m_10, m_11, m_12, m_13, m_14, m_15, m_16, m_17, m_18, m_19, .int 0, m_21, m_22, m_23, m_24, m_25, m_26, m_27, m_28, m_29, m_30, m_31, m_32, m_33, .int lw, .ref e0, m_36, .ref q0, .int bro, .long val, .long sm, m_41, m_42, m_43, m_44, m_45, m_46, m_47, m_48, m_49, m_50, m_51, m_52, m_53, m_54, m_55, m_56, m_57, m_58, m_59])), (w0, .inl (K 0, 5500, .inl fw)), (e0, .inl (K 2, 13, .inr (.inl fe))), (q0, .inl (K 2, 400, .inr (.inl frs)))] sz) ((fun u => [(m0, .inr (12, [m_0, m_1, m_2, .ref w0, m_4, m_5, m_6, m_7, m_8, m_9, m_10, m_11, m_12, m_13, m_14, m_15, m_16, m_17, m_18, m_19, .int 0, m_21, m_22, m_23, m_24, m_25, m_26, m_27, m_28, m_29, m_30, m_31, m_32, m_33, .int lw, .ref e0, m_36, .ref q0, .int (u.2.2.2.1 0), .long (u.2.2.2.2.1 0), .long sm, m_41, m_42, m_43, m_44, m_45, m_46, m_47, m_48, m_49, m_50, m_51, m_52, m_53, m_54, m_55, m_56, m_57, m_58, m_59])), (w0, .inl (K 0, 5500, .inl fw)), (e0, .inl (K 2, 13, .inr (.inl fe))), (q0, .inl (K 2, 400, .inr (.inl (u.2.2.1 0))))]) u) t) (va_A [(m0, .inr (12, [m_0, m_1, m_2, .ref w0, m_4, m_5, m_6, m_7, m_8, m_9, m_10, m_11, m_12, m_13, m_14, m_15, m_16, m_17, m_18, m_19, .int 0, m_21, m_22, m_23, m_24, m_25, m_26, m_27, m_28, m_29, m_30, m_31, m_32, m_33, .int lw, .ref e0, m_36, .ref q0, .int bro, .long val, .long sm, m_41, m_42, m_43, m_44, m_45, m_46, m_47, m_48, m_49, m_50, m_51, m_52, m_53, m_54, m_55, m_56, m_57, m_58, m_59])), (w0, .inl (K 0, 5500, .inl fw)), (e0, .inl (K 2, 13, .inr (.inl fe))), (q0, .inl (K 2, 400, .inr (.inl frs)))] sz)) 0 0 (va_A [(m0, .inr (12, [m_0, m_1, m_2, .ref w0, m_4, m_5, m_6, m_7, m_8, m_9, m_10, m_11, m_12, m_13, m_14, m_15, m_16, m_17, m_18, m_19, .int 0, m_21, m_22, m_23, m_24, m_25, m_26, m_27, m_28, m_29, m_30, m_31, m_32, m_33, .int lw, .ref e0, m_36, .ref q0, .int bro, .long val, .long sm, m_41, m_42, m_43, m_44, m_45, m_46, m_47, m_48, m_49, m_50, m_51, m_52, m_53, m_54, m_55, m_56, m_57, m_58, m_59])), (w0, .inl (K 0, 5500, .inl fw)), (e0, .inl (K 2, 13, .inr (.inl fe))), (q0, .inl (K 2, 400, .inr (.inl frs)))] sz) := by
  refine Met.ofW (cc := cX12_reckonAll) (maxL := 7) (ret := none) (by decide) rfl ?_
  intro p e s m args below meth c s₁ B hml hv
  obtain ⟨rfl, hsz, hP, hK, hD0, hN⟩ := hv
  have hx := B.exec
  have hb := B.bytes
  have hr := B.returns
  have hts := atoms_spec (ws := wsX12_reckonAll) B.pre
  have hown : s.vm.findClass RX12 = some m.cls := findClass_of_methodNamed B.named
  have hlocks := B.notSynchronized
  subst hsz
  have hD := hD0.self (sz := s.heap.size)
  generalize hAe : va_A [(m0, .inr (12, [m_0, m_1, m_2, .ref w0, m_4, m_5, m_6, m_7, m_8, m_9, m_10, m_11, m_12, m_13, m_14, m_15, m_16, m_17, m_18, m_19, .int 0, m_21, m_22, m_23, m_24, m_25, m_26, m_27, m_28, m_29, m_30, m_31, m_32, m_33, .int lw, .ref e0, m_36, .ref q0, .int bro, .long val, .long sm, m_41, m_42, m_43, m_44, m_45, m_46, m_47, m_48, m_49, m_50, m_51, m_52, m_53, m_54, m_55, m_56, m_57, m_58, m_59])), (w0, .inl (K 0, 5500, .inl fw)), (e0, .inl (K 2, 13, .inr (.inl fe))), (q0, .inl (K 2, 400, .inr (.inl frs)))] s.heap.size = A at hD ⊢
  have hA : ∀ q : Nat, s.heap.size ≤ q → A q := fun q h => by rw [← hAe]; exact Or.inr h
  have hS : va_S A s.heap s.heap [] := va_S.rf
  have hP : va_P D vwCl [(m0, .inr (12, [m_0, m_1, m_2, .ref w0, m_4, m_5, m_6, m_7, m_8, m_9, m_10, m_11, m_12, m_13, m_14, m_15, m_16, m_17, m_18, m_19, .int 0, m_21, m_22, m_23, m_24, m_25, m_26, m_27, m_28, m_29, m_30, m_31, m_32, m_33, .int lw, .ref e0, m_36, .ref q0, .int bro, .long val, .long sm, m_41, m_42, m_43, m_44, m_45, m_46, m_47, m_48, m_49, m_50, m_51, m_52, m_53, m_54, m_55, m_56, m_57, m_58, m_59])), (w0, .inl (K 0, 5500, .inl fw)), (e0, .inl (K 2, 13, .inr (.inl fe))), (q0, .inl (K 2, 400, .inr (.inl frs)))] s.heap := hP
  have hl := lv_entry [.ref m0, .int x, .int y] (n := 7) (Nat.le_of_ble_eq_true rfl)
  rw [lg_entry_eq]
  generalize (lg_sl [.ref m0, .int x, .int y] ++ List.replicate (7 - (lg_sl [.ref m0, .int x, .int y]).length) Slot.unset).toArray = ls at hl ⊢
  have hl : lv_has ls 7 [(0, .ref m0), (1, .int x), (2, .int y)] := hl
  have hw12 : ∀ w ∈ wsX120, w ∈ wsX12_reckonAll := fun w h => (List.mem_cons_of_mem _ (List.mem_append_right _ h))
  generalize hQ : MQ below _ _ s _ _ _ = Q
  obtain ⟨z0, z1, z2, d, d0, d1, d2⟩ := hseg
  refine lv_aload_n hx hb dX12_reckonAll_0 rfl (lv_at hl 0 rfl) ?_
  refine lv_iconst (v := 0) hx hb dX12_reckonAll_1 (by decide) ?_
  refine va_put (ci := 12) (v := .int 0) (ty := .boolean) (C := RX12) (T := TX12) (N := 60) hx hb hts hw12 tyX12 tyX12_ok nmX12 hown hK hP hD hS 0 rfl rfl 38 (by decide) (hts (.fieldLink RX12 386 "SmokeTuneModel" "broken" "Z") (List.mem_cons_of_mem _ (List.mem_append_left _ (List.mem_append_left _ (List.mem_of_getElem? (i := 0) rfl))))) (fun _ h9 => h9) rfl (by decide +kernel) (by first | rfl | decide) (by first | rfl | decide) (Nat.le_of_ble_eq_true rfl) dX12_reckonAll_2 (fun H locs hP hD hS => ?_)
  have hP : va_P D vwCl [(m0, .inr (12, [m_0, m_1, m_2, .ref w0, m_4, m_5, m_6, m_7, m_8, m_9, m_10, m_11, m_12, m_13, m_14, m_15, m_16, m_17, m_18, m_19, .int 0, m_21, m_22, m_23, m_24, m_25, m_26, m_27, m_28, m_29, m_30, m_31, m_32, m_33, .int lw, .ref e0, m_36, .ref q0, .int 0, .long val, .long sm, m_41, m_42, m_43, m_44, m_45, m_46, m_47, m_48, m_49, m_50, m_51, m_52, m_53, m_54, m_55, m_56, m_57, m_58, m_59])), (w0, .inl (K 0, 5500, .inl fw)), (e0, .inl (K 2, 13, .inr (.inl fe))), (q0, .inl (K 2, 400, .inr (.inl frs)))] H := hP
  have hD : va_D A [(m0, .inr (12, [m_0, m_1, m_2, .ref w0, m_4, m_5, m_6, m_7, m_8, m_9, m_10, m_11, m_12, m_13, m_14, m_15, m_16, m_17, m_18, m_19, .int 0, m_21, m_22, m_23, m_24, m_25, m_26, m_27, m_28, m_29, m_30, m_31, m_32, m_33, .int lw, .ref e0, m_36, .ref q0, .int 0, .long val, .long sm, m_41, m_42, m_43, m_44, m_45, m_46, m_47, m_48, m_49, m_50, m_51, m_52, m_53, m_54, m_55, m_56, m_57, m_58, m_59])), (w0, .inl (K 0, 5500, .inl fw)), (e0, .inl (K 2, 13, .inr (.inl fe))), (q0, .inl (K 2, 400, .inr (.inl frs)))] := hD
  refine lv_iconst (v := 0) hx hb dX12_reckonAll_5 (by decide) ?_
  refine lv_istore_n (lv' := [(3, .int 0), (0, .ref m0), (1, .int x), (2, .int y)]) hx hb dX12_reckonAll_6 rfl hl (by decide) rfl (fun ls hl => ?_)
  refine lv_iload_n hx hb dX12_reckonAll_7 rfl (lv_at hl 2 rfl) ?_
  refine lv_istore (lv' := [(4, .int x), (3, .int 0), (0, .ref m0), (1, .int x), (2, .int y)]) hx hb dX12_reckonAll_8 hl (by decide) rfl (fun ls hl => ?_)
  have lp_1991 : ∀ (nn_ : Nat) (v_1761 : Int32) (v_1762 : Int32) (v_1763 : Int32) (f_1764 : Nat → Int64) (hv_1761 : 0 ≤ v_1761.toInt ∧ v_1761.toInt ≤ 400) (hv_1762 : 0 ≤ v_1762.toInt ∧ v_1762.toInt ≤ 400) (hv_1763 : 0 ≤ v_1763.toInt ∧ v_1763.toInt ≤ 1) (hr0_lp_1991 : v_1762.toInt = d v_1761.toInt) (hr1_lp_1991 : x.toInt ≤ v_1761.toInt ∧ v_1761.toInt ≤ y.toInt) (hn : (y.toInt - v_1761.toInt + 1 : Int).toNat < nn_) (H : Heap) (locs : List Loc) (hP : va_P D vwCl [(m0, .inr (12, [m_0, m_1, m_2, .ref w0, m_4, m_5, m_6, m_7, m_8, m_9, m_10, m_11, m_12, m_13, m_14, m_15, m_16, m_17, m_18, m_19, .int 0, m_21, m_22, m_23, m_24, m_25, m_26, m_27, m_28, m_29, m_30, m_31, m_32, m_33, .int lw, .ref e0, m_36, .ref q0, .int v_1763, .long val, .long sm, m_41, m_42, m_43, m_44, m_45, m_46, m_47, m_48, m_49, m_50, m_51, m_52, m_53, m_54, m_55, m_56, m_57, m_58, m_59])), (w0, .inl (K 0, 5500, .inl fw)), (e0, .inl (K 2, 13, .inr (.inl fe))), (q0, .inl (K 2, 400, .inr (.inl f_1764)))] H) (hD : va_D A [(m0, .inr (12, [m_0, m_1, m_2, .ref w0, m_4, m_5, m_6, m_7, m_8, m_9, m_10, m_11, m_12, m_13, m_14, m_15, m_16, m_17, m_18, m_19, .int 0, m_21, m_22, m_23, m_24, m_25, m_26, m_27, m_28, m_29, m_30, m_31, m_32, m_33, .int lw, .ref e0, m_36, .ref q0, .int v_1763, .long val, .long sm, m_41, m_42, m_43, m_44, m_45, m_46, m_47, m_48, m_49, m_50, m_51, m_52, m_53, m_54, m_55, m_56, m_57, m_58, m_59])), (w0, .inl (K 0, 5500, .inl fw)), (e0, .inl (K 2, 13, .inr (.inl fe))), (q0, .inl (K 2, 400, .inr (.inl f_1764)))]) (hS : va_S A s.heap H locs) (ls : Array Slot) (hl : lv_has ls 7 [(4, .int v_1761), (3, .int v_1762), (0, .ref m0), (2, .int y)]), W p l e ({ frames := 1, cells := 0, slots := 0, locals := 25 }) s m (([.ref m0, .int x, .int y] : List Value).toArray) below meth c H locs 0 0 Q (F0 m 10 ls []) := by
    intro nn_
    induction nn_ with
    | zero =>
      intro v_1761 v_1762 v_1763 f_1764 hv_1761 hv_1762 hv_1763 hr0_lp_1991 hr1_lp_1991 hn H locs hP hD hS ls hl
      exact absurd hn (Nat.not_lt_zero _)
    | succ nn_ ih_1992 =>
      intro v_1761 v_1762 v_1763 f_1764 hv_1761 hv_1762 hv_1763 hr0_lp_1991 hr1_lp_1991 hn H locs hP hD hS ls hl
      refine lv_iload hx hb dX12_reckonAll_10 (lv_at hl 0 rfl) ?_
      refine lv_iload_n hx hb dX12_reckonAll_12 rfl (lv_at hl 3 rfl) ?_
      have j_2053 : ∀ (H : Heap) (locs : List Loc) (hP : va_P D vwCl [(m0, .inr (12, [m_0, m_1, m_2, .ref w0, m_4, m_5, m_6, m_7, m_8, m_9, m_10, m_11, m_12, m_13, m_14, m_15, m_16, m_17, m_18, m_19, .int 0, m_21, m_22, m_23, m_24, m_25, m_26, m_27, m_28, m_29, m_30, m_31, m_32, m_33, .int lw, .ref e0, m_36, .ref q0, .int v_1763, .long val, .long sm, m_41, m_42, m_43, m_44, m_45, m_46, m_47, m_48, m_49, m_50, m_51, m_52, m_53, m_54, m_55, m_56, m_57, m_58, m_59])), (w0, .inl (K 0, 5500, .inl fw)), (e0, .inl (K 2, 13, .inr (.inl fe))), (q0, .inl (K 2, 400, .inr (.inl f_1764)))] H) (hD : va_D A [(m0, .inr (12, [m_0, m_1, m_2, .ref w0, m_4, m_5, m_6, m_7, m_8, m_9, m_10, m_11, m_12, m_13, m_14, m_15, m_16, m_17, m_18, m_19, .int 0, m_21, m_22, m_23, m_24, m_25, m_26, m_27, m_28, m_29, m_30, m_31, m_32, m_33, .int lw, .ref e0, m_36, .ref q0, .int v_1763, .long val, .long sm, m_41, m_42, m_43, m_44, m_45, m_46, m_47, m_48, m_49, m_50, m_51, m_52, m_53, m_54, m_55, m_56, m_57, m_58, m_59])), (w0, .inl (K 0, 5500, .inl fw)), (e0, .inl (K 2, 13, .inr (.inl fe))), (q0, .inl (K 2, 400, .inr (.inl f_1764)))]) (hS : va_S A s.heap H locs) (ls : Array Slot) (hl : lv_has ls 7 [(3, .int v_1762), (0, .ref m0)]), W p l e ({ frames := 1, cells := 0, slots := 0, locals := 25 }) s m (([.ref m0, .int x, .int y] : List Value).toArray) below meth c H locs 0 0 Q (F0 m 370 ls []) := by
        intro H locs hP hD hS ls hl
        refine lv_aload_n hx hb dX12_reckonAll_370 rfl (lv_at hl 1 rfl) ?_
        refine lv_iload_n hx hb dX12_reckonAll_371 rfl (lv_at hl 0 rfl) ?_
        refine lv_if_le (tgt := 384) hx hb dX12_reckonAll_372 (by decide) (fun c_2054 => ?_) (fun c_2054 => ?_)
        · have c_2054i := i_le (x := v_1762.toInt) (y := 0) rfl rfl c_2054
          refine lv_lconst (v := 0) hx hb dX12_reckonAll_384 (by decide) ?_
          refine va_put (ci := 12) (v := .long 0) (ty := .long) (C := RX12) (T := TX12) (N := 60) hx hb hts hw12 tyX12 tyX12_ok nmX12 hown hK hP hD hS 0 rfl rfl 39 (by decide) (hts (.fieldLink RX12 403 "SmokeTuneModel" "value" "J") (List.mem_cons_of_mem _ (List.mem_append_left _ (List.mem_append_left _ (List.mem_of_getElem? (i := 12) rfl))))) (fun _ h9 => h9) rfl (by decide +kernel) (by first | rfl | decide) (by first | rfl | decide) (Nat.le_of_ble_eq_true rfl) dX12_reckonAll_385 (fun H locs hP hD hS => ?_)
          have hP : va_P D vwCl [(m0, .inr (12, [m_0, m_1, m_2, .ref w0, m_4, m_5, m_6, m_7, m_8, m_9, m_10, m_11, m_12, m_13, m_14, m_15, m_16, m_17, m_18, m_19, .int 0, m_21, m_22, m_23, m_24, m_25, m_26, m_27, m_28, m_29, m_30, m_31, m_32, m_33, .int lw, .ref e0, m_36, .ref q0, .int v_1763, .long 0, .long sm, m_41, m_42, m_43, m_44, m_45, m_46, m_47, m_48, m_49, m_50, m_51, m_52, m_53, m_54, m_55, m_56, m_57, m_58, m_59])), (w0, .inl (K 0, 5500, .inl fw)), (e0, .inl (K 2, 13, .inr (.inl fe))), (q0, .inl (K 2, 400, .inr (.inl f_1764)))] H := hP
          have hD : va_D A [(m0, .inr (12, [m_0, m_1, m_2, .ref w0, m_4, m_5, m_6, m_7, m_8, m_9, m_10, m_11, m_12, m_13, m_14, m_15, m_16, m_17, m_18, m_19, .int 0, m_21, m_22, m_23, m_24, m_25, m_26, m_27, m_28, m_29, m_30, m_31, m_32, m_33, .int lw, .ref e0, m_36, .ref q0, .int v_1763, .long 0, .long sm, m_41, m_42, m_43, m_44, m_45, m_46, m_47, m_48, m_49, m_50, m_51, m_52, m_53, m_54, m_55, m_56, m_57, m_58, m_59])), (w0, .inl (K 0, 5500, .inl fw)), (e0, .inl (K 2, 13, .inr (.inl fe))), (q0, .inl (K 2, 400, .inr (.inl f_1764)))] := hD
          rw [← hQ]
          have hP9 := hP.sub (ws' := [(m0, .inr (12, [m_0, m_1, m_2, .ref w0, m_4, m_5, m_6, m_7, m_8, m_9, m_10, m_11, m_12, m_13, m_14, m_15, m_16, m_17, m_18, m_19, .int 0, m_21, m_22, m_23, m_24, m_25, m_26, m_27, m_28, m_29, m_30, m_31, m_32, m_33, .int lw, .ref e0, m_36, .ref q0, .int v_1763, .long 0, .long sm, m_41, m_42, m_43, m_44, m_45, m_46, m_47, m_48, m_49, m_50, m_51, m_52, m_53, m_54, m_55, m_56, m_57, m_58, m_59])), (w0, .inl (K 0, 5500, .inl fw)), (e0, .inl (K 2, 13, .inr (.inl fe))), (q0, .inl (K 2, 400, .inr (.inl f_1764)))]) [0, 1, 2, 3] rfl
          have hD9 := hD.sub (ws' := [(m0, .inr (12, [m_0, m_1, m_2, .ref w0, m_4, m_5, m_6, m_7, m_8, m_9, m_10, m_11, m_12, m_13, m_14, m_15, m_16, m_17, m_18, m_19, .int 0, m_21, m_22, m_23, m_24, m_25, m_26, m_27, m_28, m_29, m_30, m_31, m_32, m_33, .int lw, .ref e0, m_36, .ref q0, .int v_1763, .long 0, .long sm, m_41, m_42, m_43, m_44, m_45, m_46, m_47, m_48, m_49, m_50, m_51, m_52, m_53, m_54, m_55, m_56, m_57, m_58, m_59])), (w0, .inl (K 0, 5500, .inl fw)), (e0, .inl (K 2, 13, .inr (.inl fe))), (q0, .inl (K 2, 400, .inr (.inl f_1764)))]) [0, 1, 2, 3] (by decide) rfl
          exact W.vret hx hb hr (fun t ht hW => ⟨⟨((fun _ => 0, fun _ => fun _ => 0, fun i => match i with | _ => f_1764, fun i => match i with | _ => v_1763, fun i => match i with | _ => 0, fun _ => fun _ => none) : Su), rfl, ⟨(show 0 ≤ (v_1763 : Int32).toInt ∧ (v_1763 : Int32).toInt ≤ 1 by omega), trivial⟩, (⟨by rw [ht]; exact hP9, hD9⟩ : Wd D A _ t)⟩, hS.F ht⟩) hS.2.2 dX12_reckonAll_388
        · have c_2054i := i_nle (x := v_1762.toInt) (y := 0) rfl rfl c_2054
          refine lv_aload_n hx hb dX12_reckonAll_375 rfl (lv_at hl 1 rfl) ?_
          refine va_get (ci := 12) (v := .ref q0) (C := RX12) (T := TX12) (N := 60) hx hb hts hw12 hown hK hP 0 rfl rfl 37 (by decide) (hts (.fieldLink RX12 105 "SmokeTuneModel" "rest" "[J") (List.mem_cons_of_mem _ (List.mem_append_left _ (List.mem_append_left _ (List.mem_of_getElem? (i := 6) rfl))))) (fun _ h9 => h9) rfl dX12_reckonAll_376 ?_
          refine lv_iconst (v := 0) hx hb dX12_reckonAll_379 (by decide) ?_
          refine va_lald hx hb hK hP 3 2 rfl rfl (i_in (x := 0) rfl (by omega)) dX12_reckonAll_380 ?_
          refine lv_topl (fun x_2055 ex_2055 => ?_)
          refine lv_goto (tgt := 385) hx hb dX12_reckonAll_381 (by decide) ?_
          refine va_put (ci := 12) (v := .long x_2055) (ty := .long) (C := RX12) (T := TX12) (N := 60) hx hb hts hw12 tyX12 tyX12_ok nmX12 hown hK hP hD hS 0 rfl rfl 39 (by decide) (hts (.fieldLink RX12 403 "SmokeTuneModel" "value" "J") (List.mem_cons_of_mem _ (List.mem_append_left _ (List.mem_append_left _ (List.mem_of_getElem? (i := 12) rfl))))) (fun _ h9 => h9) rfl (by decide +kernel) (by first | rfl | decide) (by first | rfl | decide) (Nat.le_of_ble_eq_true rfl) dX12_reckonAll_385 (fun H locs hP hD hS => ?_)
          have hP : va_P D vwCl [(m0, .inr (12, [m_0, m_1, m_2, .ref w0, m_4, m_5, m_6, m_7, m_8, m_9, m_10, m_11, m_12, m_13, m_14, m_15, m_16, m_17, m_18, m_19, .int 0, m_21, m_22, m_23, m_24, m_25, m_26, m_27, m_28, m_29, m_30, m_31, m_32, m_33, .int lw, .ref e0, m_36, .ref q0, .int v_1763, .long x_2055, .long sm, m_41, m_42, m_43, m_44, m_45, m_46, m_47, m_48, m_49, m_50, m_51, m_52, m_53, m_54, m_55, m_56, m_57, m_58, m_59])), (w0, .inl (K 0, 5500, .inl fw)), (e0, .inl (K 2, 13, .inr (.inl fe))), (q0, .inl (K 2, 400, .inr (.inl f_1764)))] H := hP
          have hD : va_D A [(m0, .inr (12, [m_0, m_1, m_2, .ref w0, m_4, m_5, m_6, m_7, m_8, m_9, m_10, m_11, m_12, m_13, m_14, m_15, m_16, m_17, m_18, m_19, .int 0, m_21, m_22, m_23, m_24, m_25, m_26, m_27, m_28, m_29, m_30, m_31, m_32, m_33, .int lw, .ref e0, m_36, .ref q0, .int v_1763, .long x_2055, .long sm, m_41, m_42, m_43, m_44, m_45, m_46, m_47, m_48, m_49, m_50, m_51, m_52, m_53, m_54, m_55, m_56, m_57, m_58, m_59])), (w0, .inl (K 0, 5500, .inl fw)), (e0, .inl (K 2, 13, .inr (.inl fe))), (q0, .inl (K 2, 400, .inr (.inl f_1764)))] := hD
          rw [← hQ]
          have hP9 := hP.sub (ws' := [(m0, .inr (12, [m_0, m_1, m_2, .ref w0, m_4, m_5, m_6, m_7, m_8, m_9, m_10, m_11, m_12, m_13, m_14, m_15, m_16, m_17, m_18, m_19, .int 0, m_21, m_22, m_23, m_24, m_25, m_26, m_27, m_28, m_29, m_30, m_31, m_32, m_33, .int lw, .ref e0, m_36, .ref q0, .int v_1763, .long x_2055, .long sm, m_41, m_42, m_43, m_44, m_45, m_46, m_47, m_48, m_49, m_50, m_51, m_52, m_53, m_54, m_55, m_56, m_57, m_58, m_59])), (w0, .inl (K 0, 5500, .inl fw)), (e0, .inl (K 2, 13, .inr (.inl fe))), (q0, .inl (K 2, 400, .inr (.inl f_1764)))]) [0, 1, 2, 3] rfl
          have hD9 := hD.sub (ws' := [(m0, .inr (12, [m_0, m_1, m_2, .ref w0, m_4, m_5, m_6, m_7, m_8, m_9, m_10, m_11, m_12, m_13, m_14, m_15, m_16, m_17, m_18, m_19, .int 0, m_21, m_22, m_23, m_24, m_25, m_26, m_27, m_28, m_29, m_30, m_31, m_32, m_33, .int lw, .ref e0, m_36, .ref q0, .int v_1763, .long x_2055, .long sm, m_41, m_42, m_43, m_44, m_45, m_46, m_47, m_48, m_49, m_50, m_51, m_52, m_53, m_54, m_55, m_56, m_57, m_58, m_59])), (w0, .inl (K 0, 5500, .inl fw)), (e0, .inl (K 2, 13, .inr (.inl fe))), (q0, .inl (K 2, 400, .inr (.inl f_1764)))]) [0, 1, 2, 3] (by decide) rfl
          exact W.vret hx hb hr (fun t ht hW => ⟨⟨((fun _ => 0, fun _ => fun _ => 0, fun i => match i with | _ => f_1764, fun i => match i with | _ => v_1763, fun i => match i with | _ => x_2055, fun _ => fun _ => none) : Su), rfl, ⟨(show 0 ≤ (v_1763 : Int32).toInt ∧ (v_1763 : Int32).toInt ≤ 1 by omega), trivial⟩, (⟨by rw [ht]; exact hP9, hD9⟩ : Wd D A _ t)⟩, hS.F ht⟩) hS.2.2 dX12_reckonAll_388
      refine lv_icmp_ge (tgt := 370) hx hb dX12_reckonAll_13 (by decide) (fun c_2056 => ?_) (fun c_2056 => ?_)
      · have c_2056i := i_le (x := y.toInt) (y := v_1761.toInt) rfl rfl c_2056
        exact j_2053   _ _ hP hD hS ls (lv_sub hl [1, 2] rfl)
      · have c_2056i := i_nle (x := y.toInt) (y := v_1761.toInt) rfl rfl c_2056
        refine lv_aload_n hx hb dX12_reckonAll_16 rfl (lv_at hl 2 rfl) ?_
        refine va_get (ci := 12) (v := .int v_1763) (C := RX12) (T := TX12) (N := 60) hx hb hts hw12 hown hK hP 0 rfl rfl 38 (by decide) (hts (.fieldLink RX12 386 "SmokeTuneModel" "broken" "Z") (List.mem_cons_of_mem _ (List.mem_append_left _ (List.mem_append_left _ (List.mem_of_getElem? (i := 0) rfl))))) (fun _ h9 => h9) rfl dX12_reckonAll_17 ?_
        refine lv_if_ne (tgt := 370) hx hb dX12_reckonAll_20 (by decide) (fun c_2057 => ?_) (fun c_2057 => ?_)
        · have c_2057i := i_ne (x := v_1763.toInt) (y := 0) rfl rfl c_2057
          exact j_2053   _ _ hP hD hS ls (lv_sub hl [1, 2] rfl)
        · have c_2057i := i_eq (x := v_1763.toInt) (y := 0) rfl rfl c_2057
          refine lv_aload_n hx hb dX12_reckonAll_23 rfl (lv_at hl 2 rfl) ?_
          refine va_get (ci := 12) (v := .int 0) (C := RX12) (T := TX12) (N := 60) hx hb hts hw12 hown hK hP 0 rfl rfl 20 (by decide) (hts (.fieldLink RX12 314 "SmokeTuneModel" "ordered" "Z") (List.mem_cons_of_mem _ (List.mem_append_left _ (List.mem_append_left _ (List.mem_of_getElem? (i := 1) rfl))))) (fun _ h9 => h9) rfl dX12_reckonAll_24 ?_
          refine lv_if_eq (tgt := 40) hx hb dX12_reckonAll_27 (by decide) (fun c_2058 => ?_) (fun c_2058 => absurd (by decide) c_2058)
          refine lv_aload_n hx hb dX12_reckonAll_40 rfl (lv_at hl 2 rfl) ?_
          refine va_get (ci := 12) (v := .ref w0) (C := RX12) (T := TX12) (N := 60) hx hb hts hw12 hown hK hP 0 rfl rfl 3 (by decide) (hts (.fieldLink RX12 13 "SmokeTuneModel" "row" "[I") (List.mem_cons_of_mem _ (List.mem_append_left _ (List.mem_append_left _ (List.mem_of_getElem? (i := 3) rfl))))) (fun _ h9 => h9) rfl dX12_reckonAll_41 ?_
          refine lv_aload_n hx hb dX12_reckonAll_44 rfl (lv_at hl 2 rfl) ?_
          refine va_get (ci := 12) (v := .int lw) (C := RX12) (T := TX12) (N := 60) hx hb hts hw12 hown hK hP 0 rfl rfl 34 (by decide) (hts (.fieldLink RX12 389 "SmokeTuneModel" "law" "I") (List.mem_cons_of_mem _ (List.mem_append_left _ (List.mem_append_left _ (List.mem_of_getElem? (i := 4) rfl))))) (fun _ h9 => h9) rfl dX12_reckonAll_45 ?_
          refine lv_bipush (v := 98) hx hb dX12_reckonAll_48 (by decide) ?_
          refine lv_iadd hx hb dX12_reckonAll_50 ?_
          refine lv_topi (fun x_2059 ex_2059 => ?_)
          have hx_2059 : x_2059.toInt = (lw.toInt + 98) := by rw [ex_2059]; exact i_add rfl (show (98 : Int32).toInt = 98 from rfl) (by omega)
          refine lv_iconst (v := 2) hx hb dX12_reckonAll_51 (by decide) ?_
          refine lv_iload hx hb dX12_reckonAll_52 (lv_at hl 0 rfl) ?_
          refine lv_imul hx hb dX12_reckonAll_54 ?_
          refine lv_topi (fun x_2060 ex_2060 => ?_)
          have hx_2060 : x_2060.toInt = (2 * v_1761.toInt) := by rw [ex_2060]; exact i_mul (show (2 : Int32).toInt = 2 from rfl) rfl (by omega)
          refine lv_iadd hx hb dX12_reckonAll_55 ?_
          refine lv_topi (fun x_2061 ex_2061 => ?_)
          have hx_2061 : x_2061.toInt = ((lw.toInt + 98) + (2 * v_1761.toInt)) := by rw [ex_2061]; exact i_add hx_2059 hx_2060 (by omega)
          refine va_iald hx hb hK hP 1 0 rfl rfl (i_in hx_2061 (by omega)) dX12_reckonAll_56 ?_
          refine lv_topi (fun x_2062 ex_2062 => ?_)
          have ox_2062 : x_2062.toInt = lop fw b v_1761.toInt := by rw [ex_2062, i_clamp hx_2061, show (((lw.toInt + 98) + (2 * v_1761.toInt))).toNat = b + 98 + 2 * (v_1761.toInt).toNat by omega]; rfl
          refine lv_istore (lv' := [(5, .int x_2062), (4, .int v_1761), (3, .int v_1762), (0, .ref m0), (2, .int y)]) hx hb dX12_reckonAll_57 hl (by decide) rfl (fun ls hl => ?_)
          refine lv_aload_n hx hb dX12_reckonAll_59 rfl (lv_at hl 3 rfl) ?_
          refine va_get (ci := 12) (v := .int 0) (C := RX12) (T := TX12) (N := 60) hx hb hts hw12 hown hK hP 0 rfl rfl 20 (by decide) (hts (.fieldLink RX12 314 "SmokeTuneModel" "ordered" "Z") (List.mem_cons_of_mem _ (List.mem_append_left _ (List.mem_append_left _ (List.mem_of_getElem? (i := 1) rfl))))) (fun _ h9 => h9) rfl dX12_reckonAll_60 ?_
          refine lv_if_eq (tgt := 76) hx hb dX12_reckonAll_63 (by decide) (fun c_2063 => ?_) (fun c_2063 => absurd (by decide) c_2063)
          refine lv_aload_n hx hb dX12_reckonAll_76 rfl (lv_at hl 3 rfl) ?_
          refine va_get (ci := 12) (v := .ref w0) (C := RX12) (T := TX12) (N := 60) hx hb hts hw12 hown hK hP 0 rfl rfl 3 (by decide) (hts (.fieldLink RX12 13 "SmokeTuneModel" "row" "[I") (List.mem_cons_of_mem _ (List.mem_append_left _ (List.mem_append_left _ (List.mem_of_getElem? (i := 3) rfl))))) (fun _ h9 => h9) rfl dX12_reckonAll_77 ?_
          refine lv_aload_n hx hb dX12_reckonAll_80 rfl (lv_at hl 3 rfl) ?_
          refine va_get (ci := 12) (v := .int lw) (C := RX12) (T := TX12) (N := 60) hx hb hts hw12 hown hK hP 0 rfl rfl 34 (by decide) (hts (.fieldLink RX12 389 "SmokeTuneModel" "law" "I") (List.mem_cons_of_mem _ (List.mem_append_left _ (List.mem_append_left _ (List.mem_of_getElem? (i := 4) rfl))))) (fun _ h9 => h9) rfl dX12_reckonAll_81 ?_
          refine lv_bipush (v := 98) hx hb dX12_reckonAll_84 (by decide) ?_
          refine lv_iadd hx hb dX12_reckonAll_86 ?_
          refine lv_topi (fun x_2064 ex_2064 => ?_)
          have hx_2064 : x_2064.toInt = (lw.toInt + 98) := by rw [ex_2064]; exact i_add rfl (show (98 : Int32).toInt = 98 from rfl) (by omega)
          refine lv_iconst (v := 2) hx hb dX12_reckonAll_87 (by decide) ?_
          refine lv_iload hx hb dX12_reckonAll_88 (lv_at hl 1 rfl) ?_
          refine lv_imul hx hb dX12_reckonAll_90 ?_
          refine lv_topi (fun x_2065 ex_2065 => ?_)
          have hx_2065 : x_2065.toInt = (2 * v_1761.toInt) := by rw [ex_2065]; exact i_mul (show (2 : Int32).toInt = 2 from rfl) rfl (by omega)
          refine lv_iadd hx hb dX12_reckonAll_91 ?_
          refine lv_topi (fun x_2066 ex_2066 => ?_)
          have hx_2066 : x_2066.toInt = ((lw.toInt + 98) + (2 * v_1761.toInt)) := by rw [ex_2066]; exact i_add hx_2064 hx_2065 (by omega)
          refine lv_iconst (v := 1) hx hb dX12_reckonAll_92 (by decide) ?_
          refine lv_iadd hx hb dX12_reckonAll_93 ?_
          refine lv_topi (fun x_2067 ex_2067 => ?_)
          have hx_2067 : x_2067.toInt = (((lw.toInt + 98) + (2 * v_1761.toInt)) + 1) := by rw [ex_2067]; exact i_add hx_2066 (show (1 : Int32).toInt = 1 from rfl) (by omega)
          refine va_iald hx hb hK hP 1 0 rfl rfl (i_in hx_2067 (by omega)) dX12_reckonAll_94 ?_
          refine lv_topi (fun x_2068 ex_2068 => ?_)
          have ox_2068 : x_2068.toInt = lar fw b v_1761.toInt := by rw [ex_2068, i_clamp hx_2067, show ((((lw.toInt + 98) + (2 * v_1761.toInt)) + 1)).toNat = b + 98 + 2 * (v_1761.toInt).toNat + 1 by omega]; rfl
          refine lv_istore (lv' := [(6, .int x_2068), (5, .int x_2062), (4, .int v_1761), (3, .int v_1762), (0, .ref m0), (2, .int y)]) hx hb dX12_reckonAll_95 hl (by decide) rfl (fun ls hl => ?_)
          have hst : Sstp x_2062.toInt x_2068.toInt v_1761.toInt y.toInt d := by rw [ox_2062, ox_2068]; exact d2 v_1761.toInt (by omega) (by omega)
          unfold Sstp at hst
          have hdk := d1 v_1761.toInt (by omega) (by omega)
          have hdl := d1 (v_1761.toInt + 1) (by omega) (by omega)
          obtain ⟨x_2069, ex_2069⟩ : ∃ y : Int32, y = v_1761 + Int32.ofInt 1 := ⟨_, rfl⟩
          have hx_2069 : x_2069.toInt = (v_1761.toInt + 1) := by rw [ex_2069]; exact i_add rfl (show (Int32.ofInt 1).toInt = 1 from rfl) (by omega)
          refine lv_iinc (v := x_2069) (lv' := [(4, .int x_2069), (6, .int x_2068), (5, .int x_2062), (3, .int v_1762), (0, .ref m0), (2, .int y)]) hx hb dX12_reckonAll_97 hl (k := 2) rfl (by rw [ex_2069]) (by decide) rfl (fun ls hl => ?_)
          refine lv_iload hx hb dX12_reckonAll_100 (lv_at hl 2 rfl) ?_
          refine lv_bipush (v := 20) hx hb dX12_reckonAll_102 (by decide) ?_
          refine lv_icmp_ge (tgt := 228) hx hb dX12_reckonAll_104 (by decide) (fun c_2070 => ?_) (fun c_2070 => ?_)
          · have c_2070i := i_le (x := 20) (y := x_2062.toInt) rfl rfl c_2070
            refine lv_iload hx hb dX12_reckonAll_228 (lv_at hl 2 rfl) ?_
            refine lv_bipush (v := 28) hx hb dX12_reckonAll_230 (by decide) ?_
            refine lv_icmp_ge (tgt := 305) hx hb dX12_reckonAll_232 (by decide) (fun c_2071 => ?_) (fun c_2071 => ?_)
            · have c_2071i := i_le (x := 28) (y := x_2062.toInt) rfl rfl c_2071
              refine lv_iload hx hb dX12_reckonAll_305 (lv_at hl 2 rfl) ?_
              refine lv_bipush (v := 28) hx hb dX12_reckonAll_307 (by decide) ?_
              refine lv_icmp_ne (tgt := 333) hx hb dX12_reckonAll_309 (by decide) (fun c_2072 => ?_) (fun c_2072 => ?_)
              · have c_2072i := i_ne (x := x_2062.toInt) (y := 28) rfl rfl c_2072
                replace hst : 1 ≤ d v_1761.toInt ∧ d (v_1761.toInt + 1) = d v_1761.toInt - 1 ∧ v_1761.toInt < x_2068.toInt ∧ x_2068.toInt ≤ y.toInt ∧ d x_2068.toInt = d v_1761.toInt := by omega
                refine lv_aload_n hx hb dX12_reckonAll_333 rfl (lv_at hl 4 rfl) ?_
                refine va_get (ci := 12) (v := .ref q0) (C := RX12) (T := TX12) (N := 60) hx hb hts hw12 hown hK hP 0 rfl rfl 37 (by decide) (hts (.fieldLink RX12 105 "SmokeTuneModel" "rest" "[J") (List.mem_cons_of_mem _ (List.mem_append_left _ (List.mem_append_left _ (List.mem_of_getElem? (i := 6) rfl))))) (fun _ h9 => h9) rfl dX12_reckonAll_334 ?_
                refine lv_iload_n hx hb dX12_reckonAll_337 rfl (lv_at hl 3 rfl) ?_
                refine lv_iconst (v := 1) hx hb dX12_reckonAll_338 (by decide) ?_
                refine lv_isub hx hb dX12_reckonAll_339 ?_
                refine lv_topi (fun x_2073 ex_2073 => ?_)
                have hx_2073 : x_2073.toInt = (v_1762.toInt - 1) := by rw [ex_2073]; exact i_sub rfl (show (1 : Int32).toInt = 1 from rfl) (by omega)
                refine va_lald hx hb hK hP 3 2 rfl rfl (i_in hx_2073 (by omega)) dX12_reckonAll_340 ?_
                refine lv_topl (fun x_2074 ex_2074 => ?_)
                refine lv_iload hx hb dX12_reckonAll_341 (lv_at hl 2 rfl) ?_
                refine lv_bipush (v := 29) hx hb dX12_reckonAll_343 (by decide) ?_
                refine lv_icmp_ne (tgt := 352) hx hb dX12_reckonAll_345 (by decide) (fun c_2075 => ?_) (fun c_2075 => ?_)
                · have c_2075i := i_ne (x := x_2062.toInt) (y := 29) rfl rfl c_2075
                  refine lv_lconst (v := 1) hx hb dX12_reckonAll_352 (by decide) ?_
                  refine W.lcmp hx hb dX12_reckonAll_353 ?_
                  refine lv_if_ne (tgt := 364) hx hb dX12_reckonAll_354 (by decide) (fun c_2076 => ?_) (fun c_2076 => ?_)
                  · have c_2076i := l_ne (x := x_2074.toInt) (y := 1) rfl rfl (fun q => c_2076 ((lg_cmp_eq x_2074 1).mpr q))
                    obtain ⟨x_2077, ex_2077⟩ : ∃ y : Int32, y = v_1762 + Int32.ofInt (-1) := ⟨_, rfl⟩
                    have hx_2077 : x_2077.toInt = (v_1762.toInt + (-1)) := by rw [ex_2077]; exact i_add rfl (show (Int32.ofInt (-1)).toInt = (-1) from rfl) (by omega)
                    refine lv_iinc (v := x_2077) (lv' := [(3, .int x_2077), (4, .int x_2069), (6, .int x_2068), (5, .int x_2062), (0, .ref m0), (2, .int y)]) hx hb dX12_reckonAll_364 hl (k := 3) rfl (by rw [ex_2077]) (by decide) rfl (fun ls hl => ?_)
                    refine lv_goto (tgt := 10) hx hb dX12_reckonAll_367 (by decide) ?_
                    exact ih_1992 x_2069 x_2077 v_1763 f_1764 (by rw [hx_2069]; omega) (by rw [hx_2077]; omega) (by omega) (show (x_2077 : Int32).toInt = d (x_2069 : Int32).toInt by rw [hx_2069]; omega) (show x.toInt ≤ (x_2069 : Int32).toInt ∧ (x_2069 : Int32).toInt ≤ y.toInt by omega) (by omega) _ _ hP hD hS ls (lv_sub hl [1, 0, 4, 5] rfl)
                  · have c_2076i := l_eq (x := x_2074.toInt) (y := 1) rfl rfl ((lg_cmp_eq x_2074 1).mp c_2076)
                    refine lv_iload hx hb dX12_reckonAll_357 (lv_at hl 1 rfl) ?_
                    refine lv_istore (lv' := [(4, .int x_2068), (6, .int x_2068), (5, .int x_2062), (3, .int v_1762), (0, .ref m0), (2, .int y)]) hx hb dX12_reckonAll_359 hl (by decide) rfl (fun ls hl => ?_)
                    refine lv_goto (tgt := 367) hx hb dX12_reckonAll_361 (by decide) ?_
                    refine lv_goto (tgt := 10) hx hb dX12_reckonAll_367 (by decide) ?_
                    exact ih_1992 x_2068 v_1762 v_1763 f_1764 (by omega) (by omega) (by omega) (show (v_1762 : Int32).toInt = d (x_2068 : Int32).toInt by omega) (show x.toInt ≤ (x_2068 : Int32).toInt ∧ (x_2068 : Int32).toInt ≤ y.toInt by omega) (by omega) _ _ hP hD hS ls (lv_sub hl [0, 3, 4, 5] rfl)
                · have c_2075i := i_eq (x := x_2062.toInt) (y := 29) rfl rfl c_2075
                  refine lv_lconst (v := 0) hx hb dX12_reckonAll_348 (by decide) ?_
                  refine lv_goto (tgt := 353) hx hb dX12_reckonAll_349 (by decide) ?_
                  refine W.lcmp hx hb dX12_reckonAll_353 ?_
                  refine lv_if_ne (tgt := 364) hx hb dX12_reckonAll_354 (by decide) (fun c_2078 => ?_) (fun c_2078 => ?_)
                  · have c_2078i := l_ne (x := x_2074.toInt) (y := 0) rfl rfl (fun q => c_2078 ((lg_cmp_eq x_2074 0).mpr q))
                    obtain ⟨x_2079, ex_2079⟩ : ∃ y : Int32, y = v_1762 + Int32.ofInt (-1) := ⟨_, rfl⟩
                    have hx_2079 : x_2079.toInt = (v_1762.toInt + (-1)) := by rw [ex_2079]; exact i_add rfl (show (Int32.ofInt (-1)).toInt = (-1) from rfl) (by omega)
                    refine lv_iinc (v := x_2079) (lv' := [(3, .int x_2079), (4, .int x_2069), (6, .int x_2068), (5, .int x_2062), (0, .ref m0), (2, .int y)]) hx hb dX12_reckonAll_364 hl (k := 3) rfl (by rw [ex_2079]) (by decide) rfl (fun ls hl => ?_)
                    refine lv_goto (tgt := 10) hx hb dX12_reckonAll_367 (by decide) ?_
                    exact ih_1992 x_2069 x_2079 v_1763 f_1764 (by rw [hx_2069]; omega) (by rw [hx_2079]; omega) (by omega) (show (x_2079 : Int32).toInt = d (x_2069 : Int32).toInt by rw [hx_2069]; omega) (show x.toInt ≤ (x_2069 : Int32).toInt ∧ (x_2069 : Int32).toInt ≤ y.toInt by omega) (by omega) _ _ hP hD hS ls (lv_sub hl [1, 0, 4, 5] rfl)
                  · have c_2078i := l_eq (x := x_2074.toInt) (y := 0) rfl rfl ((lg_cmp_eq x_2074 0).mp c_2078)
                    refine lv_iload hx hb dX12_reckonAll_357 (lv_at hl 1 rfl) ?_
                    refine lv_istore (lv' := [(4, .int x_2068), (6, .int x_2068), (5, .int x_2062), (3, .int v_1762), (0, .ref m0), (2, .int y)]) hx hb dX12_reckonAll_359 hl (by decide) rfl (fun ls hl => ?_)
                    refine lv_goto (tgt := 367) hx hb dX12_reckonAll_361 (by decide) ?_
                    refine lv_goto (tgt := 10) hx hb dX12_reckonAll_367 (by decide) ?_
                    exact ih_1992 x_2068 v_1762 v_1763 f_1764 (by omega) (by omega) (by omega) (show (v_1762 : Int32).toInt = d (x_2068 : Int32).toInt by omega) (show x.toInt ≤ (x_2068 : Int32).toInt ∧ (x_2068 : Int32).toInt ≤ y.toInt by omega) (by omega) _ _ hP hD hS ls (lv_sub hl [0, 3, 4, 5] rfl)
              · have c_2072i := i_eq (x := x_2062.toInt) (y := 28) rfl rfl c_2072
                replace hst : 1 ≤ d v_1761.toInt ∧ d (v_1761.toInt + 1) = d v_1761.toInt := by omega
                refine lv_aload_n hx hb dX12_reckonAll_312 rfl (lv_at hl 4 rfl) ?_
                refine va_get (ci := 12) (v := .ref q0) (C := RX12) (T := TX12) (N := 60) hx hb hts hw12 hown hK hP 0 rfl rfl 37 (by decide) (hts (.fieldLink RX12 105 "SmokeTuneModel" "rest" "[J") (List.mem_cons_of_mem _ (List.mem_append_left _ (List.mem_append_left _ (List.mem_of_getElem? (i := 6) rfl))))) (fun _ h9 => h9) rfl dX12_reckonAll_313 ?_
                refine lv_iload_n hx hb dX12_reckonAll_316 rfl (lv_at hl 3 rfl) ?_
                refine lv_iconst (v := 1) hx hb dX12_reckonAll_317 (by decide) ?_
                refine lv_isub hx hb dX12_reckonAll_318 ?_
                refine lv_topi (fun x_2080 ex_2080 => ?_)
                have hx_2080 : x_2080.toInt = (v_1762.toInt - 1) := by rw [ex_2080]; exact i_sub rfl (show (1 : Int32).toInt = 1 from rfl) (by omega)
                refine lv_lconst (v := 1) hx hb dX12_reckonAll_319 (by decide) ?_
                refine lv_aload_n hx hb dX12_reckonAll_320 rfl (lv_at hl 4 rfl) ?_
                refine va_get (ci := 12) (v := .ref q0) (C := RX12) (T := TX12) (N := 60) hx hb hts hw12 hown hK hP 0 rfl rfl 37 (by decide) (hts (.fieldLink RX12 105 "SmokeTuneModel" "rest" "[J") (List.mem_cons_of_mem _ (List.mem_append_left _ (List.mem_append_left _ (List.mem_of_getElem? (i := 6) rfl))))) (fun _ h9 => h9) rfl dX12_reckonAll_321 ?_
                refine lv_iload_n hx hb dX12_reckonAll_324 rfl (lv_at hl 3 rfl) ?_
                refine lv_iconst (v := 1) hx hb dX12_reckonAll_325 (by decide) ?_
                refine lv_isub hx hb dX12_reckonAll_326 ?_
                refine lv_topi (fun x_2081 ex_2081 => ?_)
                have hx_2081 : x_2081.toInt = (v_1762.toInt - 1) := by rw [ex_2081]; exact i_sub rfl (show (1 : Int32).toInt = 1 from rfl) (by omega)
                refine va_lald hx hb hK hP 3 2 rfl rfl (i_in hx_2081 (by omega)) dX12_reckonAll_327 ?_
                refine lv_topl (fun x_2082 ex_2082 => ?_)
                refine lv_lsub hx hb dX12_reckonAll_328 ?_
                refine lv_topl (fun x_2083 ex_2083 => ?_)
                refine va_last hx hb hK hP hD hS 3 2 rfl rfl (i_in hx_2080 (by omega)) dX12_reckonAll_329 (fun H locs hP hD hS => ?_)
                generalize hf_2084 : (vp_updL f_1764 (x_2080 : Int32).toNatClampNeg x_2083) = f_2084 at hP hD
                have hP : va_P D vwCl [(m0, .inr (12, [m_0, m_1, m_2, .ref w0, m_4, m_5, m_6, m_7, m_8, m_9, m_10, m_11, m_12, m_13, m_14, m_15, m_16, m_17, m_18, m_19, .int 0, m_21, m_22, m_23, m_24, m_25, m_26, m_27, m_28, m_29, m_30, m_31, m_32, m_33, .int lw, .ref e0, m_36, .ref q0, .int v_1763, .long val, .long sm, m_41, m_42, m_43, m_44, m_45, m_46, m_47, m_48, m_49, m_50, m_51, m_52, m_53, m_54, m_55, m_56, m_57, m_58, m_59])), (w0, .inl (K 0, 5500, .inl fw)), (e0, .inl (K 2, 13, .inr (.inl fe))), (q0, .inl (K 2, 400, .inr (.inl f_2084)))] H := hP
                have hD : va_D A [(m0, .inr (12, [m_0, m_1, m_2, .ref w0, m_4, m_5, m_6, m_7, m_8, m_9, m_10, m_11, m_12, m_13, m_14, m_15, m_16, m_17, m_18, m_19, .int 0, m_21, m_22, m_23, m_24, m_25, m_26, m_27, m_28, m_29, m_30, m_31, m_32, m_33, .int lw, .ref e0, m_36, .ref q0, .int v_1763, .long val, .long sm, m_41, m_42, m_43, m_44, m_45, m_46, m_47, m_48, m_49, m_50, m_51, m_52, m_53, m_54, m_55, m_56, m_57, m_58, m_59])), (w0, .inl (K 0, 5500, .inl fw)), (e0, .inl (K 2, 13, .inr (.inl fe))), (q0, .inl (K 2, 400, .inr (.inl f_2084)))] := hD
                refine lv_goto (tgt := 367) hx hb dX12_reckonAll_330 (by decide) ?_
                refine lv_goto (tgt := 10) hx hb dX12_reckonAll_367 (by decide) ?_
                exact ih_1992 x_2069 v_1762 v_1763 f_2084 (by rw [hx_2069]; omega) (by omega) (by omega) (show (v_1762 : Int32).toInt = d (x_2069 : Int32).toInt by rw [hx_2069]; omega) (show x.toInt ≤ (x_2069 : Int32).toInt ∧ (x_2069 : Int32).toInt ≤ y.toInt by omega) (by omega) _ _ hP hD hS ls (lv_sub hl [0, 3, 4, 5] rfl)
            · have c_2071i := i_nle (x := 28) (y := x_2062.toInt) rfl rfl c_2071
              replace hst : 2 ≤ d v_1761.toInt ∧ d (v_1761.toInt + 1) = d v_1761.toInt - 1 := by omega
              obtain ⟨x_2085, ex_2085⟩ : ∃ y : Int32, y = v_1762 + Int32.ofInt (-1) := ⟨_, rfl⟩
              have hx_2085 : x_2085.toInt = (v_1762.toInt + (-1)) := by rw [ex_2085]; exact i_add rfl (show (Int32.ofInt (-1)).toInt = (-1) from rfl) (by omega)
              refine lv_iinc (v := x_2085) (lv' := [(3, .int x_2085), (4, .int x_2069), (6, .int x_2068), (5, .int x_2062), (0, .ref m0), (2, .int y)]) hx hb dX12_reckonAll_235 hl (k := 3) rfl (by rw [ex_2085]) (by decide) rfl (fun ls hl => ?_)
              refine lv_aload_n hx hb dX12_reckonAll_238 rfl (lv_at hl 4 rfl) ?_
              refine va_get (ci := 12) (v := .ref q0) (C := RX12) (T := TX12) (N := 60) hx hb hts hw12 hown hK hP 0 rfl rfl 37 (by decide) (hts (.fieldLink RX12 105 "SmokeTuneModel" "rest" "[J") (List.mem_cons_of_mem _ (List.mem_append_left _ (List.mem_append_left _ (List.mem_of_getElem? (i := 6) rfl))))) (fun _ h9 => h9) rfl dX12_reckonAll_239 ?_
              refine lv_iload_n hx hb dX12_reckonAll_242 rfl (lv_at hl 0 rfl) ?_
              refine lv_iconst (v := 1) hx hb dX12_reckonAll_243 (by decide) ?_
              refine lv_isub hx hb dX12_reckonAll_244 ?_
              refine lv_topi (fun x_2086 ex_2086 => ?_)
              have hx_2086 : x_2086.toInt = ((v_1762.toInt + (-1)) - 1) := by rw [ex_2086]; exact i_sub hx_2085 (show (1 : Int32).toInt = 1 from rfl) (by omega)
              refine lv_aload_n hx hb dX12_reckonAll_245 rfl (lv_at hl 4 rfl) ?_
              refine lv_iload hx hb dX12_reckonAll_246 (lv_at hl 3 rfl) ?_
              refine lv_aload_n hx hb dX12_reckonAll_248 rfl (lv_at hl 4 rfl) ?_
              refine va_get (ci := 12) (v := .ref q0) (C := RX12) (T := TX12) (N := 60) hx hb hts hw12 hown hK hP 0 rfl rfl 37 (by decide) (hts (.fieldLink RX12 105 "SmokeTuneModel" "rest" "[J") (List.mem_cons_of_mem _ (List.mem_append_left _ (List.mem_append_left _ (List.mem_of_getElem? (i := 6) rfl))))) (fun _ h9 => h9) rfl dX12_reckonAll_249 ?_
              refine lv_iload_n hx hb dX12_reckonAll_252 rfl (lv_at hl 0 rfl) ?_
              refine lv_iconst (v := 1) hx hb dX12_reckonAll_253 (by decide) ?_
              refine lv_isub hx hb dX12_reckonAll_254 ?_
              refine lv_topi (fun x_2087 ex_2087 => ?_)
              have hx_2087 : x_2087.toInt = ((v_1762.toInt + (-1)) - 1) := by rw [ex_2087]; exact i_sub hx_2085 (show (1 : Int32).toInt = 1 from rfl) (by omega)
              refine va_lald hx hb hK hP 3 2 rfl rfl (i_in hx_2087 (by omega)) dX12_reckonAll_255 ?_
              refine lv_topl (fun x_2088 ex_2088 => ?_)
              refine lv_aload_n hx hb dX12_reckonAll_256 rfl (lv_at hl 4 rfl) ?_
              refine va_get (ci := 12) (v := .ref q0) (C := RX12) (T := TX12) (N := 60) hx hb hts hw12 hown hK hP 0 rfl rfl 37 (by decide) (hts (.fieldLink RX12 105 "SmokeTuneModel" "rest" "[J") (List.mem_cons_of_mem _ (List.mem_append_left _ (List.mem_append_left _ (List.mem_of_getElem? (i := 6) rfl))))) (fun _ h9 => h9) rfl dX12_reckonAll_257 ?_
              refine lv_iload_n hx hb dX12_reckonAll_260 rfl (lv_at hl 0 rfl) ?_
              refine va_lald hx hb hK hP 3 2 rfl rfl (i_in hx_2085 (by omega)) dX12_reckonAll_261 ?_
              refine lv_topl (fun x_2089 ex_2089 => ?_)
              refine kcl (S := Su) (wr := [(w0, .inl (K 0, 5500, .inl fw)), (e0, .inl (K 2, 13, .inr (.inl fe))), (q0, .inl (K 2, 400, .inr (.inl f_1764)))]) (va_runV (As := [.int x_2062, .long x_2088, .long x_2089]) (rest := [.int x_2086, .ref q0]) ⟨hx, hb, hml, hown, hts⟩ (v_reckon l D K m0 x_2062 x_2088 x_2089 m_0 m_1 m_2 (.ref w0) m_4 m_5 m_6 m_7 m_8 m_9 m_10 m_11 m_12 m_13 m_14 m_15 m_16 m_17 m_18 m_19 (.int 0) m_21 m_22 m_23 m_24 m_25 m_26 m_27 m_28 m_29 m_30 m_31 m_32 m_33 (.int lw) (.ref e0) m_36 (.ref q0) v_1763 (.long val) (.long sm) m_41 m_42 m_43 m_44 m_45 m_46 m_47 m_48 m_49 m_50 m_51 m_52 m_53 m_54 m_55 m_56 m_57 m_58 m_59 H.size (by first | omega | decide)) (cwV 3 hts gX12_reckonAll_X12_reckon rfl rfl rfl (by decide +kernel) ⟨Nat.le_of_ble_eq_true rfl, Nat.le_of_ble_eq_true rfl⟩) (mkV hK hN (hP.sub [0] rfl) (hD.sub [0] (by decide) rfl) (ci := 12) (q0 := 0) rfl rfl) rfl rfl hl.1 rfl (lv_room (Nat.le_of_ble_eq_true rfl)) dX12_reckonAll_262 ⟨Nat.le_of_ble_eq_true rfl, Nat.le_of_ble_eq_true rfl⟩) hP hD hS hA [0] [1, 2, 3] rfl rfl (by decide) (by decide) (fun r_2090 u_2091 H locs hw hP hD hS => ?_)
              have hP : va_P D vwCl [(w0, .inl (K 0, 5500, .inl fw)), (e0, .inl (K 2, 13, .inr (.inl fe))), (q0, .inl (K 2, 400, .inr (.inl f_1764))), (m0, .inr (12, [m_0, m_1, m_2, .ref w0, m_4, m_5, m_6, m_7, m_8, m_9, m_10, m_11, m_12, m_13, m_14, m_15, m_16, m_17, m_18, m_19, .int 0, m_21, m_22, m_23, m_24, m_25, m_26, m_27, m_28, m_29, m_30, m_31, m_32, m_33, .int lw, .ref e0, m_36, .ref q0, .int (u_2091.2.2.2.1 0), .long val, .long sm, m_41, m_42, m_43, m_44, m_45, m_46, m_47, m_48, m_49, m_50, m_51, m_52, m_53, m_54, m_55, m_56, m_57, m_58, m_59]))] H := hP
              have hD : va_D A [(w0, .inl (K 0, 5500, .inl fw)), (e0, .inl (K 2, 13, .inr (.inl fe))), (q0, .inl (K 2, 400, .inr (.inl f_1764))), (m0, .inr (12, [m_0, m_1, m_2, .ref w0, m_4, m_5, m_6, m_7, m_8, m_9, m_10, m_11, m_12, m_13, m_14, m_15, m_16, m_17, m_18, m_19, .int 0, m_21, m_22, m_23, m_24, m_25, m_26, m_27, m_28, m_29, m_30, m_31, m_32, m_33, .int lw, .ref e0, m_36, .ref q0, .int (u_2091.2.2.2.1 0), .long val, .long sm, m_41, m_42, m_43, m_44, m_45, m_46, m_47, m_48, m_49, m_50, m_51, m_52, m_53, m_54, m_55, m_56, m_57, m_58, m_59]))] := hD
              obtain ⟨k_2092, -⟩ := hw
              refine va_last hx hb hK hP hD hS 2 2 rfl rfl (i_in hx_2086 (by omega)) dX12_reckonAll_265 (fun H locs hP hD hS => ?_)
              generalize hf_2093 : (vp_updL f_1764 (x_2086 : Int32).toNatClampNeg r_2090) = f_2093 at hP hD
              have hP : va_P D vwCl [(w0, .inl (K 0, 5500, .inl fw)), (e0, .inl (K 2, 13, .inr (.inl fe))), (q0, .inl (K 2, 400, .inr (.inl f_2093))), (m0, .inr (12, [m_0, m_1, m_2, .ref w0, m_4, m_5, m_6, m_7, m_8, m_9, m_10, m_11, m_12, m_13, m_14, m_15, m_16, m_17, m_18, m_19, .int 0, m_21, m_22, m_23, m_24, m_25, m_26, m_27, m_28, m_29, m_30, m_31, m_32, m_33, .int lw, .ref e0, m_36, .ref q0, .int (u_2091.2.2.2.1 0), .long val, .long sm, m_41, m_42, m_43, m_44, m_45, m_46, m_47, m_48, m_49, m_50, m_51, m_52, m_53, m_54, m_55, m_56, m_57, m_58, m_59]))] H := hP
              have hD : va_D A [(w0, .inl (K 0, 5500, .inl fw)), (e0, .inl (K 2, 13, .inr (.inl fe))), (q0, .inl (K 2, 400, .inr (.inl f_2093))), (m0, .inr (12, [m_0, m_1, m_2, .ref w0, m_4, m_5, m_6, m_7, m_8, m_9, m_10, m_11, m_12, m_13, m_14, m_15, m_16, m_17, m_18, m_19, .int 0, m_21, m_22, m_23, m_24, m_25, m_26, m_27, m_28, m_29, m_30, m_31, m_32, m_33, .int lw, .ref e0, m_36, .ref q0, .int (u_2091.2.2.2.1 0), .long val, .long sm, m_41, m_42, m_43, m_44, m_45, m_46, m_47, m_48, m_49, m_50, m_51, m_52, m_53, m_54, m_55, m_56, m_57, m_58, m_59]))] := hD
              refine lv_aload_n hx hb dX12_reckonAll_266 rfl (lv_at hl 4 rfl) ?_
              refine lv_aload_n hx hb dX12_reckonAll_267 rfl (lv_at hl 4 rfl) ?_
              refine va_get (ci := 12) (v := .int (u_2091.2.2.2.1 0)) (C := RX12) (T := TX12) (N := 60) hx hb hts hw12 hown hK hP 3 rfl rfl 38 (by decide) (hts (.fieldLink RX12 386 "SmokeTuneModel" "broken" "Z") (List.mem_cons_of_mem _ (List.mem_append_left _ (List.mem_append_left _ (List.mem_of_getElem? (i := 0) rfl))))) (fun _ h9 => h9) rfl dX12_reckonAll_268 ?_
              refine lv_if_ne (tgt := 294) hx hb dX12_reckonAll_271 (by decide) (fun c_2094 => ?_) (fun c_2094 => ?_)
              · have c_2094i := i_ne (x := (u_2091.2.2.2.1 0).toInt) (y := 0) rfl rfl c_2094
                refine lv_iconst (v := 1) hx hb dX12_reckonAll_294 (by decide) ?_
                refine lv_goto (tgt := 299) hx hb dX12_reckonAll_295 (by decide) ?_
                refine va_put (ci := 12) (v := .int 1) (ty := .boolean) (C := RX12) (T := TX12) (N := 60) hx hb hts hw12 tyX12 tyX12_ok nmX12 hown hK hP hD hS 3 rfl rfl 38 (by decide) (hts (.fieldLink RX12 386 "SmokeTuneModel" "broken" "Z") (List.mem_cons_of_mem _ (List.mem_append_left _ (List.mem_append_left _ (List.mem_of_getElem? (i := 0) rfl))))) (fun _ h9 => h9) rfl (by decide +kernel) (by first | rfl | decide) (by first | rfl | decide) (Nat.le_of_ble_eq_true rfl) dX12_reckonAll_299 (fun H locs hP hD hS => ?_)
                have hP : va_P D vwCl [(w0, .inl (K 0, 5500, .inl fw)), (e0, .inl (K 2, 13, .inr (.inl fe))), (q0, .inl (K 2, 400, .inr (.inl f_2093))), (m0, .inr (12, [m_0, m_1, m_2, .ref w0, m_4, m_5, m_6, m_7, m_8, m_9, m_10, m_11, m_12, m_13, m_14, m_15, m_16, m_17, m_18, m_19, .int 0, m_21, m_22, m_23, m_24, m_25, m_26, m_27, m_28, m_29, m_30, m_31, m_32, m_33, .int lw, .ref e0, m_36, .ref q0, .int 1, .long val, .long sm, m_41, m_42, m_43, m_44, m_45, m_46, m_47, m_48, m_49, m_50, m_51, m_52, m_53, m_54, m_55, m_56, m_57, m_58, m_59]))] H := hP
                have hD : va_D A [(w0, .inl (K 0, 5500, .inl fw)), (e0, .inl (K 2, 13, .inr (.inl fe))), (q0, .inl (K 2, 400, .inr (.inl f_2093))), (m0, .inr (12, [m_0, m_1, m_2, .ref w0, m_4, m_5, m_6, m_7, m_8, m_9, m_10, m_11, m_12, m_13, m_14, m_15, m_16, m_17, m_18, m_19, .int 0, m_21, m_22, m_23, m_24, m_25, m_26, m_27, m_28, m_29, m_30, m_31, m_32, m_33, .int lw, .ref e0, m_36, .ref q0, .int 1, .long val, .long sm, m_41, m_42, m_43, m_44, m_45, m_46, m_47, m_48, m_49, m_50, m_51, m_52, m_53, m_54, m_55, m_56, m_57, m_58, m_59]))] := hD
                refine lv_goto (tgt := 367) hx hb dX12_reckonAll_302 (by decide) ?_
                refine lv_goto (tgt := 10) hx hb dX12_reckonAll_367 (by decide) ?_
                have hz_2095 : (1 : Int32).toInt = 1 := rfl
                exact ih_1992 x_2069 x_2085 1 f_2093 (by rw [hx_2069]; omega) (by rw [hx_2085]; omega) (by decide) (show (x_2085 : Int32).toInt = d (x_2069 : Int32).toInt by rw [hx_2069]; omega) (show x.toInt ≤ (x_2069 : Int32).toInt ∧ (x_2069 : Int32).toInt ≤ y.toInt by omega) (by omega) _ _ (hP.sub [3, 0, 1, 2] rfl) (hD.sub [3, 0, 1, 2] (by decide) rfl) hS ls (lv_sub hl [1, 0, 4, 5] rfl)
              · have c_2094i := i_eq (x := (u_2091.2.2.2.1 0).toInt) (y := 0) rfl rfl c_2094
                refine lv_aload_n hx hb dX12_reckonAll_274 rfl (lv_at hl 4 rfl) ?_
                refine va_get (ci := 12) (v := .ref q0) (C := RX12) (T := TX12) (N := 60) hx hb hts hw12 hown hK hP 3 rfl rfl 37 (by decide) (hts (.fieldLink RX12 105 "SmokeTuneModel" "rest" "[J") (List.mem_cons_of_mem _ (List.mem_append_left _ (List.mem_append_left _ (List.mem_of_getElem? (i := 6) rfl))))) (fun _ h9 => h9) rfl dX12_reckonAll_275 ?_
                refine lv_iload_n hx hb dX12_reckonAll_278 rfl (lv_at hl 0 rfl) ?_
                refine lv_iconst (v := 1) hx hb dX12_reckonAll_279 (by decide) ?_
                refine lv_isub hx hb dX12_reckonAll_280 ?_
                refine lv_topi (fun x_2096 ex_2096 => ?_)
                have hx_2096 : x_2096.toInt = ((v_1762.toInt + (-1)) - 1) := by rw [ex_2096]; exact i_sub hx_2085 (show (1 : Int32).toInt = 1 from rfl) (by omega)
                refine va_lald hx hb hK hP 2 2 rfl rfl (i_in hx_2096 (by omega)) dX12_reckonAll_281 ?_
                refine lv_topl (fun x_2097 ex_2097 => ?_)
                refine lv_ldc2 (v := (-1000000000)) hx hb hown (hts (.constantLong RX12 399 (-1000000000)) (List.mem_cons_of_mem _ (List.mem_append_left _ (List.mem_append_left _ (List.mem_of_getElem? (i := 10) rfl))))) dX12_reckonAll_282 ?_
                refine lv_ldc2 (v := 1000000000) hx hb hown (hts (.constantLong RX12 401 (1000000000)) (List.mem_cons_of_mem _ (List.mem_append_left _ (List.mem_append_left _ (List.mem_of_getElem? (i := 11) rfl))))) dX12_reckonAll_285 ?_
                refine pci (va_runS (As := [.long x_2097, .long (-1000000000), .long 1000000000]) (rest := [.ref m0]) ⟨hx, hb, hml, hown, hts⟩ (v_in l D K x_2097.toInt (-1000000000) 1000000000 x_2097 (-1000000000) 1000000000 H.size rfl (show ((-1000000000) : Int64).toInt = (-1000000000) from rfl) (show (1000000000 : Int64).toInt = 1000000000 from rfl)) (va_cwS 3 hts gX12_reckonAll_X12_in rfl rfl rfl (by decide +kernel) ⟨Nat.le_of_ble_eq_true rfl, Nat.le_of_ble_eq_true rfl⟩) (mkS hK hN (va_P.nil) (va_D.nil (A := fun _ => True))) rfl rfl hl.1 rfl (lv_room (Nat.le_of_ble_eq_true rfl)) dX12_reckonAll_288 ⟨Nat.le_of_ble_eq_true rfl, Nat.le_of_ble_eq_true rfl⟩) (fun r_2098 hw => ?_)
                obtain ⟨hw, -⟩ := hw
                rcases hw with ⟨rfl, h_2099, h_2100⟩ | ⟨rfl, h_2101⟩
                · refine lv_if_ne (tgt := 298) hx hb dX12_reckonAll_291 (by decide) (fun c_2102 => ?_) (fun c_2102 => absurd c_2102 (by decide))
                  refine lv_iconst (v := 0) hx hb dX12_reckonAll_298 (by decide) ?_
                  refine va_put (ci := 12) (v := .int 0) (ty := .boolean) (C := RX12) (T := TX12) (N := 60) hx hb hts hw12 tyX12 tyX12_ok nmX12 hown hK hP hD hS 3 rfl rfl 38 (by decide) (hts (.fieldLink RX12 386 "SmokeTuneModel" "broken" "Z") (List.mem_cons_of_mem _ (List.mem_append_left _ (List.mem_append_left _ (List.mem_of_getElem? (i := 0) rfl))))) (fun _ h9 => h9) rfl (by decide +kernel) (by first | rfl | decide) (by first | rfl | decide) (Nat.le_of_ble_eq_true rfl) dX12_reckonAll_299 (fun H locs hP hD hS => ?_)
                  have hP : va_P D vwCl [(w0, .inl (K 0, 5500, .inl fw)), (e0, .inl (K 2, 13, .inr (.inl fe))), (q0, .inl (K 2, 400, .inr (.inl f_2093))), (m0, .inr (12, [m_0, m_1, m_2, .ref w0, m_4, m_5, m_6, m_7, m_8, m_9, m_10, m_11, m_12, m_13, m_14, m_15, m_16, m_17, m_18, m_19, .int 0, m_21, m_22, m_23, m_24, m_25, m_26, m_27, m_28, m_29, m_30, m_31, m_32, m_33, .int lw, .ref e0, m_36, .ref q0, .int 0, .long val, .long sm, m_41, m_42, m_43, m_44, m_45, m_46, m_47, m_48, m_49, m_50, m_51, m_52, m_53, m_54, m_55, m_56, m_57, m_58, m_59]))] H := hP
                  have hD : va_D A [(w0, .inl (K 0, 5500, .inl fw)), (e0, .inl (K 2, 13, .inr (.inl fe))), (q0, .inl (K 2, 400, .inr (.inl f_2093))), (m0, .inr (12, [m_0, m_1, m_2, .ref w0, m_4, m_5, m_6, m_7, m_8, m_9, m_10, m_11, m_12, m_13, m_14, m_15, m_16, m_17, m_18, m_19, .int 0, m_21, m_22, m_23, m_24, m_25, m_26, m_27, m_28, m_29, m_30, m_31, m_32, m_33, .int lw, .ref e0, m_36, .ref q0, .int 0, .long val, .long sm, m_41, m_42, m_43, m_44, m_45, m_46, m_47, m_48, m_49, m_50, m_51, m_52, m_53, m_54, m_55, m_56, m_57, m_58, m_59]))] := hD
                  refine lv_goto (tgt := 367) hx hb dX12_reckonAll_302 (by decide) ?_
                  refine lv_goto (tgt := 10) hx hb dX12_reckonAll_367 (by decide) ?_
                  have hz_2103 : (0 : Int32).toInt = 0 := rfl
                  exact ih_1992 x_2069 x_2085 0 f_2093 (by rw [hx_2069]; omega) (by rw [hx_2085]; omega) (by decide) (show (x_2085 : Int32).toInt = d (x_2069 : Int32).toInt by rw [hx_2069]; omega) (show x.toInt ≤ (x_2069 : Int32).toInt ∧ (x_2069 : Int32).toInt ≤ y.toInt by omega) (by omega) _ _ (hP.sub [3, 0, 1, 2] rfl) (hD.sub [3, 0, 1, 2] (by decide) rfl) hS ls (lv_sub hl [1, 0, 4, 5] rfl)
                · refine lv_if_ne (tgt := 298) hx hb dX12_reckonAll_291 (by decide) (fun c_2104 => absurd (by decide) c_2104) (fun c_2104 => ?_)
                  refine lv_iconst (v := 1) hx hb dX12_reckonAll_294 (by decide) ?_
                  refine lv_goto (tgt := 299) hx hb dX12_reckonAll_295 (by decide) ?_
                  refine va_put (ci := 12) (v := .int 1) (ty := .boolean) (C := RX12) (T := TX12) (N := 60) hx hb hts hw12 tyX12 tyX12_ok nmX12 hown hK hP hD hS 3 rfl rfl 38 (by decide) (hts (.fieldLink RX12 386 "SmokeTuneModel" "broken" "Z") (List.mem_cons_of_mem _ (List.mem_append_left _ (List.mem_append_left _ (List.mem_of_getElem? (i := 0) rfl))))) (fun _ h9 => h9) rfl (by decide +kernel) (by first | rfl | decide) (by first | rfl | decide) (Nat.le_of_ble_eq_true rfl) dX12_reckonAll_299 (fun H locs hP hD hS => ?_)
                  have hP : va_P D vwCl [(w0, .inl (K 0, 5500, .inl fw)), (e0, .inl (K 2, 13, .inr (.inl fe))), (q0, .inl (K 2, 400, .inr (.inl f_2093))), (m0, .inr (12, [m_0, m_1, m_2, .ref w0, m_4, m_5, m_6, m_7, m_8, m_9, m_10, m_11, m_12, m_13, m_14, m_15, m_16, m_17, m_18, m_19, .int 0, m_21, m_22, m_23, m_24, m_25, m_26, m_27, m_28, m_29, m_30, m_31, m_32, m_33, .int lw, .ref e0, m_36, .ref q0, .int 1, .long val, .long sm, m_41, m_42, m_43, m_44, m_45, m_46, m_47, m_48, m_49, m_50, m_51, m_52, m_53, m_54, m_55, m_56, m_57, m_58, m_59]))] H := hP
                  have hD : va_D A [(w0, .inl (K 0, 5500, .inl fw)), (e0, .inl (K 2, 13, .inr (.inl fe))), (q0, .inl (K 2, 400, .inr (.inl f_2093))), (m0, .inr (12, [m_0, m_1, m_2, .ref w0, m_4, m_5, m_6, m_7, m_8, m_9, m_10, m_11, m_12, m_13, m_14, m_15, m_16, m_17, m_18, m_19, .int 0, m_21, m_22, m_23, m_24, m_25, m_26, m_27, m_28, m_29, m_30, m_31, m_32, m_33, .int lw, .ref e0, m_36, .ref q0, .int 1, .long val, .long sm, m_41, m_42, m_43, m_44, m_45, m_46, m_47, m_48, m_49, m_50, m_51, m_52, m_53, m_54, m_55, m_56, m_57, m_58, m_59]))] := hD
                  refine lv_goto (tgt := 367) hx hb dX12_reckonAll_302 (by decide) ?_
                  refine lv_goto (tgt := 10) hx hb dX12_reckonAll_367 (by decide) ?_
                  have hz_2105 : (1 : Int32).toInt = 1 := rfl
                  exact ih_1992 x_2069 x_2085 1 f_2093 (by rw [hx_2069]; omega) (by rw [hx_2085]; omega) (by decide) (show (x_2085 : Int32).toInt = d (x_2069 : Int32).toInt by rw [hx_2069]; omega) (show x.toInt ≤ (x_2069 : Int32).toInt ∧ (x_2069 : Int32).toInt ≤ y.toInt by omega) (by omega) _ _ (hP.sub [3, 0, 1, 2] rfl) (hD.sub [3, 0, 1, 2] (by decide) rfl) hS ls (lv_sub hl [1, 0, 4, 5] rfl)
          · have c_2070i := i_nle (x := 20) (y := x_2062.toInt) rfl rfl c_2070
            replace hst : 0 ≤ x_2062.toInt ∧ x_2062.toInt ≤ 9 ∧ d (v_1761.toInt + 1) = d v_1761.toInt + 1 := by omega
            refine lv_aload_n hx hb dX12_reckonAll_107 rfl (lv_at hl 4 rfl) ?_
            refine va_get (ci := 12) (v := .ref q0) (C := RX12) (T := TX12) (N := 60) hx hb hts hw12 hown hK hP 0 rfl rfl 37 (by decide) (hts (.fieldLink RX12 105 "SmokeTuneModel" "rest" "[J") (List.mem_cons_of_mem _ (List.mem_append_left _ (List.mem_append_left _ (List.mem_of_getElem? (i := 6) rfl))))) (fun _ h9 => h9) rfl dX12_reckonAll_108 ?_
            refine lv_iload_n hx hb dX12_reckonAll_111 rfl (lv_at hl 3 rfl) ?_
            refine lv_iload hx hb dX12_reckonAll_112 (lv_at hl 2 rfl) ?_
            refine lv_if_ne (tgt := 123) hx hb dX12_reckonAll_114 (by decide) (fun c_2106 => ?_) (fun c_2106 => ?_)
            · have c_2106i := i_ne (x := x_2062.toInt) (y := 0) rfl rfl c_2106
              refine lv_aload_n hx hb dX12_reckonAll_123 rfl (lv_at hl 4 rfl) ?_
              refine va_get (ci := 12) (v := .int 0) (C := RX12) (T := TX12) (N := 60) hx hb hts hw12 hown hK hP 0 rfl rfl 20 (by decide) (hts (.fieldLink RX12 314 "SmokeTuneModel" "ordered" "Z") (List.mem_cons_of_mem _ (List.mem_append_left _ (List.mem_append_left _ (List.mem_of_getElem? (i := 1) rfl))))) (fun _ h9 => h9) rfl dX12_reckonAll_124 ?_
              refine lv_if_ne (tgt := 140) hx hb dX12_reckonAll_127 (by decide) (fun c_2107 => absurd (by decide) c_2107) (fun c_2107 => ?_)
              refine lv_aload_n hx hb dX12_reckonAll_130 rfl (lv_at hl 4 rfl) ?_
              refine va_get (ci := 12) (v := .ref e0) (C := RX12) (T := TX12) (N := 60) hx hb hts hw12 hown hK hP 0 rfl rfl 35 (by decide) (hts (.fieldLink RX12 99 "SmokeTuneModel" "set" "[J") (List.mem_cons_of_mem _ (List.mem_append_left _ (List.mem_append_left _ (List.mem_of_getElem? (i := 7) rfl))))) (fun _ h9 => h9) rfl dX12_reckonAll_131 ?_
              refine lv_iload hx hb dX12_reckonAll_134 (lv_at hl 2 rfl) ?_
              refine va_lald hx hb hK hP 2 2 rfl rfl (i_in rfl (by omega)) dX12_reckonAll_136 ?_
              refine lv_topl (fun x_2108 ex_2108 => ?_)
              refine lv_goto (tgt := 221) hx hb dX12_reckonAll_137 (by decide) ?_
              refine va_last hx hb hK hP hD hS 3 2 rfl rfl (i_in rfl (by omega)) dX12_reckonAll_221 (fun H locs hP hD hS => ?_)
              generalize hf_2109 : (vp_updL f_1764 (v_1762 : Int32).toNatClampNeg x_2108) = f_2109 at hP hD
              have hP : va_P D vwCl [(m0, .inr (12, [m_0, m_1, m_2, .ref w0, m_4, m_5, m_6, m_7, m_8, m_9, m_10, m_11, m_12, m_13, m_14, m_15, m_16, m_17, m_18, m_19, .int 0, m_21, m_22, m_23, m_24, m_25, m_26, m_27, m_28, m_29, m_30, m_31, m_32, m_33, .int lw, .ref e0, m_36, .ref q0, .int v_1763, .long val, .long sm, m_41, m_42, m_43, m_44, m_45, m_46, m_47, m_48, m_49, m_50, m_51, m_52, m_53, m_54, m_55, m_56, m_57, m_58, m_59])), (w0, .inl (K 0, 5500, .inl fw)), (e0, .inl (K 2, 13, .inr (.inl fe))), (q0, .inl (K 2, 400, .inr (.inl f_2109)))] H := hP
              have hD : va_D A [(m0, .inr (12, [m_0, m_1, m_2, .ref w0, m_4, m_5, m_6, m_7, m_8, m_9, m_10, m_11, m_12, m_13, m_14, m_15, m_16, m_17, m_18, m_19, .int 0, m_21, m_22, m_23, m_24, m_25, m_26, m_27, m_28, m_29, m_30, m_31, m_32, m_33, .int lw, .ref e0, m_36, .ref q0, .int v_1763, .long val, .long sm, m_41, m_42, m_43, m_44, m_45, m_46, m_47, m_48, m_49, m_50, m_51, m_52, m_53, m_54, m_55, m_56, m_57, m_58, m_59])), (w0, .inl (K 0, 5500, .inl fw)), (e0, .inl (K 2, 13, .inr (.inl fe))), (q0, .inl (K 2, 400, .inr (.inl f_2109)))] := hD
              obtain ⟨x_2110, ex_2110⟩ : ∃ y : Int32, y = v_1762 + Int32.ofInt 1 := ⟨_, rfl⟩
              have hx_2110 : x_2110.toInt = (v_1762.toInt + 1) := by rw [ex_2110]; exact i_add rfl (show (Int32.ofInt 1).toInt = 1 from rfl) (by omega)
              refine lv_iinc (v := x_2110) (lv' := [(3, .int x_2110), (4, .int x_2069), (6, .int x_2068), (5, .int x_2062), (0, .ref m0), (2, .int y)]) hx hb dX12_reckonAll_222 hl (k := 3) rfl (by rw [ex_2110]) (by decide) rfl (fun ls hl => ?_)
              refine lv_goto (tgt := 367) hx hb dX12_reckonAll_225 (by decide) ?_
              refine lv_goto (tgt := 10) hx hb dX12_reckonAll_367 (by decide) ?_
              exact ih_1992 x_2069 x_2110 v_1763 f_2109 (by rw [hx_2069]; omega) (by rw [hx_2110]; omega) (by omega) (show (x_2110 : Int32).toInt = d (x_2069 : Int32).toInt by rw [hx_2069]; omega) (show x.toInt ≤ (x_2069 : Int32).toInt ∧ (x_2069 : Int32).toInt ≤ y.toInt by omega) (by omega) _ _ hP hD hS ls (lv_sub hl [1, 0, 4, 5] rfl)
            · have c_2106i := i_eq (x := x_2062.toInt) (y := 0) rfl rfl c_2106
              refine lv_iload hx hb dX12_reckonAll_117 (lv_at hl 1 rfl) ?_
              refine lv_i2l hx hb dX12_reckonAll_119 rfl ?_
              refine lv_topl (fun x_2111 ex_2111 => ?_)
              have hx_2111 : x_2111.toInt = x_2068.toInt := by rw [ex_2111]; exact i_wide rfl
              have hbx_2111 := i_rng (a := x_2068) rfl
              refine lv_goto (tgt := 221) hx hb dX12_reckonAll_120 (by decide) ?_
              refine va_last hx hb hK hP hD hS 3 2 rfl rfl (i_in rfl (by omega)) dX12_reckonAll_221 (fun H locs hP hD hS => ?_)
              generalize hf_2112 : (vp_updL f_1764 (v_1762 : Int32).toNatClampNeg x_2111) = f_2112 at hP hD
              have hP : va_P D vwCl [(m0, .inr (12, [m_0, m_1, m_2, .ref w0, m_4, m_5, m_6, m_7, m_8, m_9, m_10, m_11, m_12, m_13, m_14, m_15, m_16, m_17, m_18, m_19, .int 0, m_21, m_22, m_23, m_24, m_25, m_26, m_27, m_28, m_29, m_30, m_31, m_32, m_33, .int lw, .ref e0, m_36, .ref q0, .int v_1763, .long val, .long sm, m_41, m_42, m_43, m_44, m_45, m_46, m_47, m_48, m_49, m_50, m_51, m_52, m_53, m_54, m_55, m_56, m_57, m_58, m_59])), (w0, .inl (K 0, 5500, .inl fw)), (e0, .inl (K 2, 13, .inr (.inl fe))), (q0, .inl (K 2, 400, .inr (.inl f_2112)))] H := hP
              have hD : va_D A [(m0, .inr (12, [m_0, m_1, m_2, .ref w0, m_4, m_5, m_6, m_7, m_8, m_9, m_10, m_11, m_12, m_13, m_14, m_15, m_16, m_17, m_18, m_19, .int 0, m_21, m_22, m_23, m_24, m_25, m_26, m_27, m_28, m_29, m_30, m_31, m_32, m_33, .int lw, .ref e0, m_36, .ref q0, .int v_1763, .long val, .long sm, m_41, m_42, m_43, m_44, m_45, m_46, m_47, m_48, m_49, m_50, m_51, m_52, m_53, m_54, m_55, m_56, m_57, m_58, m_59])), (w0, .inl (K 0, 5500, .inl fw)), (e0, .inl (K 2, 13, .inr (.inl fe))), (q0, .inl (K 2, 400, .inr (.inl f_2112)))] := hD
              obtain ⟨x_2113, ex_2113⟩ : ∃ y : Int32, y = v_1762 + Int32.ofInt 1 := ⟨_, rfl⟩
              have hx_2113 : x_2113.toInt = (v_1762.toInt + 1) := by rw [ex_2113]; exact i_add rfl (show (Int32.ofInt 1).toInt = 1 from rfl) (by omega)
              refine lv_iinc (v := x_2113) (lv' := [(3, .int x_2113), (4, .int x_2069), (6, .int x_2068), (5, .int x_2062), (0, .ref m0), (2, .int y)]) hx hb dX12_reckonAll_222 hl (k := 3) rfl (by rw [ex_2113]) (by decide) rfl (fun ls hl => ?_)
              refine lv_goto (tgt := 367) hx hb dX12_reckonAll_225 (by decide) ?_
              refine lv_goto (tgt := 10) hx hb dX12_reckonAll_367 (by decide) ?_
              exact ih_1992 x_2069 x_2113 v_1763 f_2112 (by rw [hx_2069]; omega) (by rw [hx_2113]; omega) (by omega) (show (x_2113 : Int32).toInt = d (x_2069 : Int32).toInt by rw [hx_2069]; omega) (show x.toInt ≤ (x_2069 : Int32).toInt ∧ (x_2069 : Int32).toInt ≤ y.toInt by omega) (by omega) _ _ hP hD hS ls (lv_sub hl [1, 0, 4, 5] rfl)
  have hz_2114 : (0 : Int32).toInt = 0 := rfl
  have hz_2115 : (0 : Int32).toInt = 0 := rfl
  exact lp_1991 ((y.toInt - (x : Int32).toInt + 1 : Int).toNat + 1) x 0 0 frs (by omega) (by decide) (by decide) (show (0 : Int32).toInt = d (x : Int32).toInt by rw [d0]; rfl) (show x.toInt ≤ (x : Int32).toInt ∧ (x : Int32).toInt ≤ y.toInt by omega) (Nat.lt_succ_self _) _ _ hP hD hS ls (lv_sub hl [0, 1, 2, 4] rfl)
set_option maxHeartbeats 4000000 in
set_option maxRecDepth 100000 in
theorem v_isSo (l : Launch) (D : va_G) (K : Nat → ClassId) (b : Nat) (c_ : Nat) (m0 : Nat) (x : Int32) (m_0 : Value) (m_1 : Value) (m_2 : Value) (w0 : Nat) (m_4 : Value) (m_5 : Value) (m_6 : Value) (m_7 : Value) (m_8 : Value) (m_9 : Value) (m_10 : Value) (m_11 : Value) (m_12 : Value) (m_13 : Value) (m_14 : Value) (m_15 : Value) (m_16 : Value) (m_17 : Value) (m_18 : Value) (m_19 : Value) (m_21 : Value) (m_22 : Value) (m_23 : Value) (m_24 : Value) (m_25 : Value) (m_26 : Value) (m_27 : Value) (m_28 : Value) (m_29 : Value) (m_30 : Value) (m_31 : Value) (m_32 : Value) (m_33 : Value) (lw : Int32) (e0 : Nat) (m_36 : Value) (q0 : Nat) (bro : Int32) (val : Int64) (sm : Int64) (m_41 : Value) (m_42 : Value) (m_43 : Value) (m_44 : Value) (m_45 : Value) (m_46 : Value) (m_47 : Value) (m_48 : Value) (m_49 : Value) (m_50 : Value) (m_51 : Value) (m_52 : Value) (m_53 : Value) (m_54 : Value) (m_55 : Value) (m_56 : Value) (m_57 : Value) (m_58 : Value) (m_59 : Value) (fw : Nat → Int32) (fe : Nat → Int64) (frs : Nat → Int64) (sz : Nat) (zbro : 0 ≤ bro.toInt ∧ bro.toInt ≤ 1) (hlw : lw.toInt = ((b : Nat) : Int)) (zb : 100 ≤ b ∧ b ≤ 4600) (hlaw : LawOK fw b) (hxk : x.toInt = ((b : Nat) : Int) + 2 + 8 * ((c_ : Nat) : Int)) (hc_ : ((c_ : Nat) : Int) < (fw (b + 1)).toInt) (hc12 : c_ < 12) (zfw : RwOK fw) : Met l yX12_isSo wsX12_isSo ({ frames := 2, cells := 0, slots := 0, locals := 51 }) (va_Pc [.ref m0, .int x] (Pre D K [(m0, .inr (12, [m_0, m_1, m_2, .ref w0, m_4, m_5, m_6, m_7, m_8, m_9, m_10, m_11, m_12, m_13, m_14, m_15, m_16, m_17, m_18, m_19, .int 0, m_21, m_22, m_23, m_24, m_25, m_26, m_27, m_28, m_29, m_30, m_31, m_32, m_33, .int lw, .ref e0, m_36, .ref q0, .int bro, .long val, .long sm, m_41, m_42, m_43, m_44, m_45, m_46, m_47, m_48, m_49, m_50, m_51, m_52, m_53, m_54, m_55, m_56, m_57, m_58, m_59])), (w0, .inl (K 0, 5500, .inl fw)), (e0, .inl (K 2, 13, .inr (.inl fe))), (q0, .inl (K 2, 400, .inr (.inl frs)))] sz)) (va_Qi (S := Su) (fun (r : Int32) (u : Su) => (0 ≤ r.toInt ∧ r.toInt ≤ 1) ∧ (0 ≤ (u.2.2.2.1 0).toInt ∧ (u.2.2.2.1 0).toInt ≤ 1) ∧ True) (fun u t => Wd D (va_A [(m0, .inr (12, [m_0, m_1, m_2, .ref w0, m_4, m_5, m_6, m_7, m_8, m_9, m_10, m_11, m_12, m_13, m_14, m_15, m_16, m_17, m_18, m_19, .int 0, m_21, m_22, m_23, m_24, m_25, m_26, m_27, m_28, m_29, m_30, m_31, m_32, m_33, .int lw, .ref e0, m_36, .ref q0, .int bro, .long val, .long sm, m_41, m_42, m_43, m_44, m_45, m_46, m_47, m_48, m_49, m_50, m_51, m_52, m_53, m_54, m_55, m_56, m_57, m_58, m_59])), (w0, .inl (K 0, 5500, .inl fw)), (e0, .inl (K 2, 13, .inr (.inl fe))), (q0, .inl (K 2, 400, .inr (.inl frs)))] sz) ((fun u => [(m0, .inr (12, [m_0, m_1, m_2, .ref w0, m_4, m_5, m_6, m_7, m_8, m_9, m_10, m_11, m_12, m_13, m_14, m_15, m_16, m_17, m_18, m_19, .int 0, m_21, m_22, m_23, m_24, m_25, m_26, m_27, m_28, m_29, m_30, m_31, m_32, m_33, .int lw, .ref e0, m_36, .ref q0, .int (u.2.2.2.1 0), .long (u.2.2.2.2.1 0), .long (u.2.2.2.2.1 1), m_41, m_42, m_43, m_44, m_45, m_46, m_47, m_48, m_49, m_50, m_51, m_52, m_53, m_54, m_55, m_56, m_57, m_58, m_59])), (w0, .inl (K 0, 5500, .inl fw)), (e0, .inl (K 2, 13, .inr (.inl fe))), (q0, .inl (K 2, 400, .inr (.inl (u.2.2.1 0))))]) u) t) (va_A [(m0, .inr (12, [m_0, m_1, m_2, .ref w0, m_4, m_5, m_6, m_7, m_8, m_9, m_10, m_11, m_12, m_13, m_14, m_15, m_16, m_17, m_18, m_19, .int 0, m_21, m_22, m_23, m_24, m_25, m_26, m_27, m_28, m_29, m_30, m_31, m_32, m_33, .int lw, .ref e0, m_36, .ref q0, .int bro, .long val, .long sm, m_41, m_42, m_43, m_44, m_45, m_46, m_47, m_48, m_49, m_50, m_51, m_52, m_53, m_54, m_55, m_56, m_57, m_58, m_59])), (w0, .inl (K 0, 5500, .inl fw)), (e0, .inl (K 2, 13, .inr (.inl fe))), (q0, .inl (K 2, 400, .inr (.inl frs)))] sz)) 0 0 (va_A [(m0, .inr (12, [m_0, m_1, m_2, .ref w0, m_4, m_5, m_6, m_7, m_8, m_9, m_10, m_11, m_12, m_13, m_14, m_15, m_16, m_17, m_18, m_19, .int 0, m_21, m_22, m_23, m_24, m_25, m_26, m_27, m_28, m_29, m_30, m_31, m_32, m_33, .int lw, .ref e0, m_36, .ref q0, .int bro, .long val, .long sm, m_41, m_42, m_43, m_44, m_45, m_46, m_47, m_48, m_49, m_50, m_51, m_52, m_53, m_54, m_55, m_56, m_57, m_58, m_59])), (w0, .inl (K 0, 5500, .inl fw)), (e0, .inl (K 2, 13, .inr (.inl fe))), (q0, .inl (K 2, 400, .inr (.inl frs)))] sz) := by
  refine Met.ofW (cc := cX12_isSo) (maxL := 2) (ret := (some .boolean)) (by decide) rfl ?_
  intro p e s m args below meth c s₁ B hml hv
  obtain ⟨rfl, hsz, hP, hK, hD0, hN⟩ := hv
  have hx := B.exec
  have hb := B.bytes
  have hr := B.returns
  have hts := atoms_spec (ws := wsX12_isSo) B.pre
  have hown : s.vm.findClass RX12 = some m.cls := findClass_of_methodNamed B.named
  have hlocks := B.notSynchronized
  subst hsz
  have hD := hD0.self (sz := s.heap.size)
  generalize hAe : va_A [(m0, .inr (12, [m_0, m_1, m_2, .ref w0, m_4, m_5, m_6, m_7, m_8, m_9, m_10, m_11, m_12, m_13, m_14, m_15, m_16, m_17, m_18, m_19, .int 0, m_21, m_22, m_23, m_24, m_25, m_26, m_27, m_28, m_29, m_30, m_31, m_32, m_33, .int lw, .ref e0, m_36, .ref q0, .int bro, .long val, .long sm, m_41, m_42, m_43, m_44, m_45, m_46, m_47, m_48, m_49, m_50, m_51, m_52, m_53, m_54, m_55, m_56, m_57, m_58, m_59])), (w0, .inl (K 0, 5500, .inl fw)), (e0, .inl (K 2, 13, .inr (.inl fe))), (q0, .inl (K 2, 400, .inr (.inl frs)))] s.heap.size = A at hD ⊢
  have hA : ∀ q : Nat, s.heap.size ≤ q → A q := fun q h => by rw [← hAe]; exact Or.inr h
  have hS : va_S A s.heap s.heap [] := va_S.rf
  have hP : va_P D vwCl [(m0, .inr (12, [m_0, m_1, m_2, .ref w0, m_4, m_5, m_6, m_7, m_8, m_9, m_10, m_11, m_12, m_13, m_14, m_15, m_16, m_17, m_18, m_19, .int 0, m_21, m_22, m_23, m_24, m_25, m_26, m_27, m_28, m_29, m_30, m_31, m_32, m_33, .int lw, .ref e0, m_36, .ref q0, .int bro, .long val, .long sm, m_41, m_42, m_43, m_44, m_45, m_46, m_47, m_48, m_49, m_50, m_51, m_52, m_53, m_54, m_55, m_56, m_57, m_58, m_59])), (w0, .inl (K 0, 5500, .inl fw)), (e0, .inl (K 2, 13, .inr (.inl fe))), (q0, .inl (K 2, 400, .inr (.inl frs)))] s.heap := hP
  have hl := lv_entry [.ref m0, .int x] (n := 2) (Nat.le_of_ble_eq_true rfl)
  rw [lg_entry_eq]
  generalize (lg_sl [.ref m0, .int x] ++ List.replicate (2 - (lg_sl [.ref m0, .int x]).length) Slot.unset).toArray = ls at hl ⊢
  have hl : lv_has ls 2 [(0, .ref m0), (1, .int x)] := hl
  have hw12 : ∀ w ∈ wsX120, w ∈ wsX12_isSo := fun w h => (List.mem_cons_of_mem _ (List.mem_append_right _ h))
  generalize hQ : MQ below _ _ s _ _ _ = Q
  refine lv_aload_n hx hb dX12_isSo_0 rfl (lv_at hl 0 rfl) ?_
  refine va_get (ci := 12) (v := .ref w0) (C := RX12) (T := TX12) (N := 60) hx hb hts hw12 hown hK hP 0 rfl rfl 3 (by decide) (hts (.fieldLink RX12 13 "SmokeTuneModel" "row" "[I") (List.mem_cons_of_mem _ (List.mem_append_left _ (List.mem_append_left _ (List.mem_of_getElem? (i := 0) rfl))))) (fun _ h9 => h9) rfl dX12_isSo_1 ?_
  refine lv_iload_n hx hb dX12_isSo_4 rfl (lv_at hl 1 rfl) ?_
  refine lv_iconst (v := 5) hx hb dX12_isSo_5 (by decide) ?_
  refine lv_iadd hx hb dX12_isSo_6 ?_
  refine lv_topi (fun x_169 ex_169 => ?_)
  have hx_169 : x_169.toInt = (x.toInt + 5) := by rw [ex_169]; exact i_add rfl (show (5 : Int32).toInt = 5 from rfl) (by omega)
  refine va_iald hx hb hK hP 1 0 rfl rfl (i_in hx_169 (by omega)) dX12_isSo_7 ?_
  refine lv_topi (fun x_170 ex_170 => ?_)
  have ox_170 : x_170 = fw (b + 2 + 8 * c_ + 5) := by rw [ex_170, i_clamp hx_169, show ((x.toInt + 5)).toNat = b + 2 + 8 * c_ + 5 by omega]
  refine lv_aload_n hx hb dX12_isSo_8 rfl (lv_at hl 0 rfl) ?_
  refine va_get (ci := 12) (v := .ref w0) (C := RX12) (T := TX12) (N := 60) hx hb hts hw12 hown hK hP 0 rfl rfl 3 (by decide) (hts (.fieldLink RX12 13 "SmokeTuneModel" "row" "[I") (List.mem_cons_of_mem _ (List.mem_append_left _ (List.mem_append_left _ (List.mem_of_getElem? (i := 0) rfl))))) (fun _ h9 => h9) rfl dX12_isSo_9 ?_
  refine lv_iload_n hx hb dX12_isSo_12 rfl (lv_at hl 1 rfl) ?_
  refine lv_bipush (v := 6) hx hb dX12_isSo_13 (by decide) ?_
  refine lv_iadd hx hb dX12_isSo_15 ?_
  refine lv_topi (fun x_171 ex_171 => ?_)
  have hx_171 : x_171.toInt = (x.toInt + 6) := by rw [ex_171]; exact i_add rfl (show (6 : Int32).toInt = 6 from rfl) (by omega)
  refine va_iald hx hb hK hP 1 0 rfl rfl (i_in hx_171 (by omega)) dX12_isSo_16 ?_
  refine lv_topi (fun x_172 ex_172 => ?_)
  have ox_172 : x_172 = fw (b + 2 + 8 * c_ + 6) := by rw [ex_172, i_clamp hx_171, show ((x.toInt + 6)).toNat = b + 2 + 8 * c_ + 6 by omega]
  have j_199 : ∀ (v_186 : Int32) (v_187 : Int64) (f_188 : Nat → Int64) (hv_186 : 0 ≤ v_186.toInt ∧ v_186.toInt ≤ 1) (H : Heap) (locs : List Loc) (hP : va_P D vwCl [(m0, .inr (12, [m_0, m_1, m_2, .ref w0, m_4, m_5, m_6, m_7, m_8, m_9, m_10, m_11, m_12, m_13, m_14, m_15, m_16, m_17, m_18, m_19, .int 0, m_21, m_22, m_23, m_24, m_25, m_26, m_27, m_28, m_29, m_30, m_31, m_32, m_33, .int lw, .ref e0, m_36, .ref q0, .int v_186, .long v_187, .long sm, m_41, m_42, m_43, m_44, m_45, m_46, m_47, m_48, m_49, m_50, m_51, m_52, m_53, m_54, m_55, m_56, m_57, m_58, m_59])), (w0, .inl (K 0, 5500, .inl fw)), (e0, .inl (K 2, 13, .inr (.inl fe))), (q0, .inl (K 2, 400, .inr (.inl f_188)))] H) (hD : va_D A [(m0, .inr (12, [m_0, m_1, m_2, .ref w0, m_4, m_5, m_6, m_7, m_8, m_9, m_10, m_11, m_12, m_13, m_14, m_15, m_16, m_17, m_18, m_19, .int 0, m_21, m_22, m_23, m_24, m_25, m_26, m_27, m_28, m_29, m_30, m_31, m_32, m_33, .int lw, .ref e0, m_36, .ref q0, .int v_186, .long v_187, .long sm, m_41, m_42, m_43, m_44, m_45, m_46, m_47, m_48, m_49, m_50, m_51, m_52, m_53, m_54, m_55, m_56, m_57, m_58, m_59])), (w0, .inl (K 0, 5500, .inl fw)), (e0, .inl (K 2, 13, .inr (.inl fe))), (q0, .inl (K 2, 400, .inr (.inl f_188)))]) (hS : va_S A s.heap H locs) (ls : Array Slot) (hl : lv_has ls 2 [(0, .ref m0), (1, .int x)]), W p l e ({ frames := 2, cells := 0, slots := 0, locals := 51 }) s m (([.ref m0, .int x] : List Value).toArray) below meth c H locs 0 0 Q (F0 m 59 ls []) := by
    intro v_186 v_187 f_188 hv_186 H locs hP hD hS ls hl
    refine lv_aload_n hx hb dX12_isSo_59 rfl (lv_at hl 0 rfl) ?_
    refine va_get (ci := 12) (v := .ref w0) (C := RX12) (T := TX12) (N := 60) hx hb hts hw12 hown hK hP 0 rfl rfl 3 (by decide) (hts (.fieldLink RX12 13 "SmokeTuneModel" "row" "[I") (List.mem_cons_of_mem _ (List.mem_append_left _ (List.mem_append_left _ (List.mem_of_getElem? (i := 0) rfl))))) (fun _ h9 => h9) rfl dX12_isSo_60 ?_
    refine lv_iload_n hx hb dX12_isSo_63 rfl (lv_at hl 1 rfl) ?_
    refine va_iald hx hb hK hP 1 0 rfl rfl (i_in rfl (by omega)) dX12_isSo_64 ?_
    refine lv_topi (fun x_200 ex_200 => ?_)
    refine lv_iconst (v := 3) hx hb dX12_isSo_65 (by decide) ?_
    refine lv_icmp_eq (tgt := 110) hx hb dX12_isSo_66 (by decide) (fun c_201 => ?_) (fun c_201 => ?_)
    · have c_201i := i_eq (x := x_200.toInt) (y := 3) rfl rfl c_201
      refine lv_iconst (v := 1) hx hb dX12_isSo_110 (by decide) ?_
      rw [← hQ]
      have hP9 := hP.sub (ws' := [(m0, .inr (12, [m_0, m_1, m_2, .ref w0, m_4, m_5, m_6, m_7, m_8, m_9, m_10, m_11, m_12, m_13, m_14, m_15, m_16, m_17, m_18, m_19, .int 0, m_21, m_22, m_23, m_24, m_25, m_26, m_27, m_28, m_29, m_30, m_31, m_32, m_33, .int lw, .ref e0, m_36, .ref q0, .int v_186, .long v_187, .long sm, m_41, m_42, m_43, m_44, m_45, m_46, m_47, m_48, m_49, m_50, m_51, m_52, m_53, m_54, m_55, m_56, m_57, m_58, m_59])), (w0, .inl (K 0, 5500, .inl fw)), (e0, .inl (K 2, 13, .inr (.inl fe))), (q0, .inl (K 2, 400, .inr (.inl f_188)))]) [0, 1, 2, 3] rfl
      have hD9 := hD.sub (ws' := [(m0, .inr (12, [m_0, m_1, m_2, .ref w0, m_4, m_5, m_6, m_7, m_8, m_9, m_10, m_11, m_12, m_13, m_14, m_15, m_16, m_17, m_18, m_19, .int 0, m_21, m_22, m_23, m_24, m_25, m_26, m_27, m_28, m_29, m_30, m_31, m_32, m_33, .int lw, .ref e0, m_36, .ref q0, .int v_186, .long v_187, .long sm, m_41, m_42, m_43, m_44, m_45, m_46, m_47, m_48, m_49, m_50, m_51, m_52, m_53, m_54, m_55, m_56, m_57, m_58, m_59])), (w0, .inl (K 0, 5500, .inl fw)), (e0, .inl (K 2, 13, .inr (.inl fe))), (q0, .inl (K 2, 400, .inr (.inl f_188)))]) [0, 1, 2, 3] (by decide) rfl
      exact W.zret (v := 1) hx hb hr (by decide) (fun t ht hW => ⟨⟨1, ((fun _ => 0, fun _ => fun _ => 0, fun i => match i with | _ => f_188, fun i => match i with | _ => v_186, fun i => match i with | 0 => v_187 | _ => sm, fun _ => fun _ => none) : Su), rfl, ⟨(show 0 ≤ (1 : Int32).toInt ∧ (1 : Int32).toInt ≤ 1 by decide), (show 0 ≤ (v_186 : Int32).toInt ∧ (v_186 : Int32).toInt ≤ 1 by omega), trivial⟩, (⟨by rw [ht]; exact hP9, hD9⟩ : Wd D A _ t)⟩, hS.F ht⟩) hS.2.2 dX12_isSo_111
    · have c_201i := i_ne (x := x_200.toInt) (y := 3) rfl rfl c_201
      refine lv_aload_n hx hb dX12_isSo_69 rfl (lv_at hl 0 rfl) ?_
      refine lv_aload_n hx hb dX12_isSo_70 rfl (lv_at hl 0 rfl) ?_
      refine va_get (ci := 12) (v := .ref w0) (C := RX12) (T := TX12) (N := 60) hx hb hts hw12 hown hK hP 0 rfl rfl 3 (by decide) (hts (.fieldLink RX12 13 "SmokeTuneModel" "row" "[I") (List.mem_cons_of_mem _ (List.mem_append_left _ (List.mem_append_left _ (List.mem_of_getElem? (i := 0) rfl))))) (fun _ h9 => h9) rfl dX12_isSo_71 ?_
      refine lv_iload_n hx hb dX12_isSo_74 rfl (lv_at hl 1 rfl) ?_
      refine lv_iconst (v := 3) hx hb dX12_isSo_75 (by decide) ?_
      refine lv_iadd hx hb dX12_isSo_76 ?_
      refine lv_topi (fun x_202 ex_202 => ?_)
      have hx_202 : x_202.toInt = (x.toInt + 3) := by rw [ex_202]; exact i_add rfl (show (3 : Int32).toInt = 3 from rfl) (by omega)
      refine va_iald hx hb hK hP 1 0 rfl rfl (i_in hx_202 (by omega)) dX12_isSo_77 ?_
      refine lv_topi (fun x_203 ex_203 => ?_)
      have ox_203 : x_203 = fw (b + 2 + 8 * c_ + 3) := by rw [ex_203, i_clamp hx_202, show ((x.toInt + 3)).toNat = b + 2 + 8 * c_ + 3 by omega]
      refine lv_aload_n hx hb dX12_isSo_78 rfl (lv_at hl 0 rfl) ?_
      refine va_get (ci := 12) (v := .ref w0) (C := RX12) (T := TX12) (N := 60) hx hb hts hw12 hown hK hP 0 rfl rfl 3 (by decide) (hts (.fieldLink RX12 13 "SmokeTuneModel" "row" "[I") (List.mem_cons_of_mem _ (List.mem_append_left _ (List.mem_append_left _ (List.mem_of_getElem? (i := 0) rfl))))) (fun _ h9 => h9) rfl dX12_isSo_79 ?_
      refine lv_iload_n hx hb dX12_isSo_82 rfl (lv_at hl 1 rfl) ?_
      refine lv_iconst (v := 4) hx hb dX12_isSo_83 (by decide) ?_
      refine lv_iadd hx hb dX12_isSo_84 ?_
      refine lv_topi (fun x_204 ex_204 => ?_)
      have hx_204 : x_204.toInt = (x.toInt + 4) := by rw [ex_204]; exact i_add rfl (show (4 : Int32).toInt = 4 from rfl) (by omega)
      refine va_iald hx hb hK hP 1 0 rfl rfl (i_in hx_204 (by omega)) dX12_isSo_85 ?_
      refine lv_topi (fun x_205 ex_205 => ?_)
      have ox_205 : x_205 = fw (b + 2 + 8 * c_ + 4) := by rw [ex_205, i_clamp hx_204, show ((x.toInt + 4)).toNat = b + 2 + 8 * c_ + 4 by omega]
      refine kcv (S := Su) (wr := []) (va_runV (As := [.int x_203, .int x_205]) (rest := []) ⟨hx, hb, hml, hown, hts⟩ (v_reckonAll l D K b m0 x_203 x_205 m_0 m_1 m_2 w0 m_4 m_5 m_6 m_7 m_8 m_9 m_10 m_11 m_12 m_13 m_14 m_15 m_16 m_17 m_18 m_19 m_21 m_22 m_23 m_24 m_25 m_26 m_27 m_28 m_29 m_30 m_31 m_32 m_33 lw e0 m_36 q0 v_186 v_187 sm m_41 m_42 m_43 m_44 m_45 m_46 m_47 m_48 m_49 m_50 m_51 m_52 m_53 m_54 m_55 m_56 m_57 m_58 m_59 fw fe f_188 H.size (by first | omega | decide) (by first | omega | decide) (by omega) (by rw [ox_203, ox_205]; exact (hlaw.2.2 c_ hc_).1) zfw) (cwV 2 hts gX12_isSo_X12_reckonAll rfl rfl rfl (by decide +kernel) ⟨Nat.le_of_ble_eq_true rfl, Nat.le_of_ble_eq_true rfl⟩) (mkV hK hN (hP.sub [0, 1, 2, 3] rfl) (hD.sub [0, 1, 2, 3] (by decide) rfl) (ci := 12) (q0 := 0) rfl rfl) rfl rfl hl.1 rfl (lv_room (Nat.le_of_ble_eq_true rfl)) dX12_isSo_86 ⟨Nat.le_of_ble_eq_true rfl, Nat.le_of_ble_eq_true rfl⟩) hP hD hS hA [0, 1, 2, 3] [] rfl rfl (by decide) (by decide) (fun u_207 H locs hw hP hD hS => ?_)
      have hP : va_P D vwCl [(m0, .inr (12, [m_0, m_1, m_2, .ref w0, m_4, m_5, m_6, m_7, m_8, m_9, m_10, m_11, m_12, m_13, m_14, m_15, m_16, m_17, m_18, m_19, .int 0, m_21, m_22, m_23, m_24, m_25, m_26, m_27, m_28, m_29, m_30, m_31, m_32, m_33, .int lw, .ref e0, m_36, .ref q0, .int (u_207.2.2.2.1 0), .long (u_207.2.2.2.2.1 0), .long sm, m_41, m_42, m_43, m_44, m_45, m_46, m_47, m_48, m_49, m_50, m_51, m_52, m_53, m_54, m_55, m_56, m_57, m_58, m_59])), (w0, .inl (K 0, 5500, .inl fw)), (e0, .inl (K 2, 13, .inr (.inl fe))), (q0, .inl (K 2, 400, .inr (.inl (u_207.2.2.1 0))))] H := hP
      have hD : va_D A [(m0, .inr (12, [m_0, m_1, m_2, .ref w0, m_4, m_5, m_6, m_7, m_8, m_9, m_10, m_11, m_12, m_13, m_14, m_15, m_16, m_17, m_18, m_19, .int 0, m_21, m_22, m_23, m_24, m_25, m_26, m_27, m_28, m_29, m_30, m_31, m_32, m_33, .int lw, .ref e0, m_36, .ref q0, .int (u_207.2.2.2.1 0), .long (u_207.2.2.2.2.1 0), .long sm, m_41, m_42, m_43, m_44, m_45, m_46, m_47, m_48, m_49, m_50, m_51, m_52, m_53, m_54, m_55, m_56, m_57, m_58, m_59])), (w0, .inl (K 0, 5500, .inl fw)), (e0, .inl (K 2, 13, .inr (.inl fe))), (q0, .inl (K 2, 400, .inr (.inl (u_207.2.2.1 0))))] := hD
      obtain ⟨k_208, -⟩ := hw
      refine lv_aload_n hx hb dX12_isSo_89 rfl (lv_at hl 0 rfl) ?_
      refine lv_aload_n hx hb dX12_isSo_90 rfl (lv_at hl 0 rfl) ?_
      refine va_get (ci := 12) (v := .long (u_207.2.2.2.2.1 0)) (C := RX12) (T := TX12) (N := 60) hx hb hts hw12 hown hK hP 0 rfl rfl 39 (by decide) (hts (.fieldLink RX12 403 "SmokeTuneModel" "value" "J") (List.mem_cons_of_mem _ (List.mem_append_left _ (List.mem_append_left _ (List.mem_of_getElem? (i := 2) rfl))))) (fun _ h9 => h9) rfl dX12_isSo_91 ?_
      refine va_put (ci := 12) (v := .long (u_207.2.2.2.2.1 0)) (ty := .long) (C := RX12) (T := TX12) (N := 60) hx hb hts hw12 tyX12 tyX12_ok nmX12 hown hK hP hD hS 0 rfl rfl 40 (by decide) (hts (.fieldLink RX12 409 "SmokeTuneModel" "sum" "J") (List.mem_cons_of_mem _ (List.mem_append_left _ (List.mem_append_left _ (List.mem_of_getElem? (i := 3) rfl))))) (fun _ h9 => h9) rfl (by decide +kernel) (by first | rfl | decide) (by first | rfl | decide) (Nat.le_of_ble_eq_true rfl) dX12_isSo_94 (fun H locs hP hD hS => ?_)
      have hP : va_P D vwCl [(m0, .inr (12, [m_0, m_1, m_2, .ref w0, m_4, m_5, m_6, m_7, m_8, m_9, m_10, m_11, m_12, m_13, m_14, m_15, m_16, m_17, m_18, m_19, .int 0, m_21, m_22, m_23, m_24, m_25, m_26, m_27, m_28, m_29, m_30, m_31, m_32, m_33, .int lw, .ref e0, m_36, .ref q0, .int (u_207.2.2.2.1 0), .long (u_207.2.2.2.2.1 0), .long (u_207.2.2.2.2.1 0), m_41, m_42, m_43, m_44, m_45, m_46, m_47, m_48, m_49, m_50, m_51, m_52, m_53, m_54, m_55, m_56, m_57, m_58, m_59])), (w0, .inl (K 0, 5500, .inl fw)), (e0, .inl (K 2, 13, .inr (.inl fe))), (q0, .inl (K 2, 400, .inr (.inl (u_207.2.2.1 0))))] H := hP
      have hD : va_D A [(m0, .inr (12, [m_0, m_1, m_2, .ref w0, m_4, m_5, m_6, m_7, m_8, m_9, m_10, m_11, m_12, m_13, m_14, m_15, m_16, m_17, m_18, m_19, .int 0, m_21, m_22, m_23, m_24, m_25, m_26, m_27, m_28, m_29, m_30, m_31, m_32, m_33, .int lw, .ref e0, m_36, .ref q0, .int (u_207.2.2.2.1 0), .long (u_207.2.2.2.2.1 0), .long (u_207.2.2.2.2.1 0), m_41, m_42, m_43, m_44, m_45, m_46, m_47, m_48, m_49, m_50, m_51, m_52, m_53, m_54, m_55, m_56, m_57, m_58, m_59])), (w0, .inl (K 0, 5500, .inl fw)), (e0, .inl (K 2, 13, .inr (.inl fe))), (q0, .inl (K 2, 400, .inr (.inl (u_207.2.2.1 0))))] := hD
      refine lv_aload_n hx hb dX12_isSo_97 rfl (lv_at hl 0 rfl) ?_
      refine va_get (ci := 12) (v := .int (u_207.2.2.2.1 0)) (C := RX12) (T := TX12) (N := 60) hx hb hts hw12 hown hK hP 0 rfl rfl 38 (by decide) (hts (.fieldLink RX12 386 "SmokeTuneModel" "broken" "Z") (List.mem_cons_of_mem _ (List.mem_append_left _ (List.mem_append_left _ (List.mem_of_getElem? (i := 1) rfl))))) (fun _ h9 => h9) rfl dX12_isSo_98 ?_
      refine lv_if_ne (tgt := 108) hx hb dX12_isSo_101 (by decide) (fun c_209 => ?_) (fun c_209 => ?_)
      · have c_209i := i_ne (x := (u_207.2.2.2.1 0).toInt) (y := 0) rfl rfl c_209
        refine lv_iconst (v := 0) hx hb dX12_isSo_108 (by decide) ?_
        rw [← hQ]
        have hP9 := hP.sub (ws' := [(m0, .inr (12, [m_0, m_1, m_2, .ref w0, m_4, m_5, m_6, m_7, m_8, m_9, m_10, m_11, m_12, m_13, m_14, m_15, m_16, m_17, m_18, m_19, .int 0, m_21, m_22, m_23, m_24, m_25, m_26, m_27, m_28, m_29, m_30, m_31, m_32, m_33, .int lw, .ref e0, m_36, .ref q0, .int (u_207.2.2.2.1 0), .long (u_207.2.2.2.2.1 0), .long (u_207.2.2.2.2.1 0), m_41, m_42, m_43, m_44, m_45, m_46, m_47, m_48, m_49, m_50, m_51, m_52, m_53, m_54, m_55, m_56, m_57, m_58, m_59])), (w0, .inl (K 0, 5500, .inl fw)), (e0, .inl (K 2, 13, .inr (.inl fe))), (q0, .inl (K 2, 400, .inr (.inl (u_207.2.2.1 0))))]) [0, 1, 2, 3] rfl
        have hD9 := hD.sub (ws' := [(m0, .inr (12, [m_0, m_1, m_2, .ref w0, m_4, m_5, m_6, m_7, m_8, m_9, m_10, m_11, m_12, m_13, m_14, m_15, m_16, m_17, m_18, m_19, .int 0, m_21, m_22, m_23, m_24, m_25, m_26, m_27, m_28, m_29, m_30, m_31, m_32, m_33, .int lw, .ref e0, m_36, .ref q0, .int (u_207.2.2.2.1 0), .long (u_207.2.2.2.2.1 0), .long (u_207.2.2.2.2.1 0), m_41, m_42, m_43, m_44, m_45, m_46, m_47, m_48, m_49, m_50, m_51, m_52, m_53, m_54, m_55, m_56, m_57, m_58, m_59])), (w0, .inl (K 0, 5500, .inl fw)), (e0, .inl (K 2, 13, .inr (.inl fe))), (q0, .inl (K 2, 400, .inr (.inl (u_207.2.2.1 0))))]) [0, 1, 2, 3] (by decide) rfl
        exact W.zret (v := 0) hx hb hr (by decide) (fun t ht hW => ⟨⟨0, ((fun _ => 0, fun _ => fun _ => 0, fun i => match i with | _ => (u_207.2.2.1 0), fun i => match i with | _ => (u_207.2.2.2.1 0), fun i => match i with | 0 => (u_207.2.2.2.2.1 0) | _ => (u_207.2.2.2.2.1 0), fun _ => fun _ => none) : Su), rfl, ⟨(show 0 ≤ (0 : Int32).toInt ∧ (0 : Int32).toInt ≤ 1 by decide), (show 0 ≤ ((u_207.2.2.2.1 0) : Int32).toInt ∧ ((u_207.2.2.2.1 0) : Int32).toInt ≤ 1 by omega), trivial⟩, (⟨by rw [ht]; exact hP9, hD9⟩ : Wd D A _ t)⟩, hS.F ht⟩) hS.2.2 dX12_isSo_109
      · have c_209i := i_eq (x := (u_207.2.2.2.1 0).toInt) (y := 0) rfl rfl c_209
        refine lv_iconst (v := 1) hx hb dX12_isSo_104 (by decide) ?_
        refine lv_goto (tgt := 109) hx hb dX12_isSo_105 (by decide) ?_
        rw [← hQ]
        have hP9 := hP.sub (ws' := [(m0, .inr (12, [m_0, m_1, m_2, .ref w0, m_4, m_5, m_6, m_7, m_8, m_9, m_10, m_11, m_12, m_13, m_14, m_15, m_16, m_17, m_18, m_19, .int 0, m_21, m_22, m_23, m_24, m_25, m_26, m_27, m_28, m_29, m_30, m_31, m_32, m_33, .int lw, .ref e0, m_36, .ref q0, .int (u_207.2.2.2.1 0), .long (u_207.2.2.2.2.1 0), .long (u_207.2.2.2.2.1 0), m_41, m_42, m_43, m_44, m_45, m_46, m_47, m_48, m_49, m_50, m_51, m_52, m_53, m_54, m_55, m_56, m_57, m_58, m_59])), (w0, .inl (K 0, 5500, .inl fw)), (e0, .inl (K 2, 13, .inr (.inl fe))), (q0, .inl (K 2, 400, .inr (.inl (u_207.2.2.1 0))))]) [0, 1, 2, 3] rfl
        have hD9 := hD.sub (ws' := [(m0, .inr (12, [m_0, m_1, m_2, .ref w0, m_4, m_5, m_6, m_7, m_8, m_9, m_10, m_11, m_12, m_13, m_14, m_15, m_16, m_17, m_18, m_19, .int 0, m_21, m_22, m_23, m_24, m_25, m_26, m_27, m_28, m_29, m_30, m_31, m_32, m_33, .int lw, .ref e0, m_36, .ref q0, .int (u_207.2.2.2.1 0), .long (u_207.2.2.2.2.1 0), .long (u_207.2.2.2.2.1 0), m_41, m_42, m_43, m_44, m_45, m_46, m_47, m_48, m_49, m_50, m_51, m_52, m_53, m_54, m_55, m_56, m_57, m_58, m_59])), (w0, .inl (K 0, 5500, .inl fw)), (e0, .inl (K 2, 13, .inr (.inl fe))), (q0, .inl (K 2, 400, .inr (.inl (u_207.2.2.1 0))))]) [0, 1, 2, 3] (by decide) rfl
        exact W.zret (v := 1) hx hb hr (by decide) (fun t ht hW => ⟨⟨1, ((fun _ => 0, fun _ => fun _ => 0, fun i => match i with | _ => (u_207.2.2.1 0), fun i => match i with | _ => (u_207.2.2.2.1 0), fun i => match i with | 0 => (u_207.2.2.2.2.1 0) | _ => (u_207.2.2.2.2.1 0), fun _ => fun _ => none) : Su), rfl, ⟨(show 0 ≤ (1 : Int32).toInt ∧ (1 : Int32).toInt ≤ 1 by decide), (show 0 ≤ ((u_207.2.2.2.1 0) : Int32).toInt ∧ ((u_207.2.2.2.1 0) : Int32).toInt ≤ 1 by omega), trivial⟩, (⟨by rw [ht]; exact hP9, hD9⟩ : Wd D A _ t)⟩, hS.F ht⟩) hS.2.2 dX12_isSo_109
  refine lv_icmp_ge (tgt := 59) hx hb dX12_isSo_17 (by decide) (fun c_210 => ?_) (fun c_210 => ?_)
  · have c_210i := i_le (x := x_172.toInt) (y := x_170.toInt) rfl rfl c_210
    exact j_199 bro val frs (by omega) _ _ hP hD hS ls (lv_sub hl [0, 1] rfl)
  · have c_210i := i_nle (x := x_172.toInt) (y := x_170.toInt) rfl rfl c_210
    refine lv_aload_n hx hb dX12_isSo_20 rfl (lv_at hl 0 rfl) ?_
    refine lv_aload_n hx hb dX12_isSo_21 rfl (lv_at hl 0 rfl) ?_
    refine va_get (ci := 12) (v := .ref w0) (C := RX12) (T := TX12) (N := 60) hx hb hts hw12 hown hK hP 0 rfl rfl 3 (by decide) (hts (.fieldLink RX12 13 "SmokeTuneModel" "row" "[I") (List.mem_cons_of_mem _ (List.mem_append_left _ (List.mem_append_left _ (List.mem_of_getElem? (i := 0) rfl))))) (fun _ h9 => h9) rfl dX12_isSo_22 ?_
    refine lv_iload_n hx hb dX12_isSo_25 rfl (lv_at hl 1 rfl) ?_
    refine lv_iconst (v := 5) hx hb dX12_isSo_26 (by decide) ?_
    refine lv_iadd hx hb dX12_isSo_27 ?_
    refine lv_topi (fun x_211 ex_211 => ?_)
    have hx_211 : x_211.toInt = (x.toInt + 5) := by rw [ex_211]; exact i_add rfl (show (5 : Int32).toInt = 5 from rfl) (by omega)
    refine va_iald hx hb hK hP 1 0 rfl rfl (i_in hx_211 (by omega)) dX12_isSo_28 ?_
    refine lv_topi (fun x_212 ex_212 => ?_)
    have ox_212 : x_212 = fw (b + 2 + 8 * c_ + 5) := by rw [ex_212, i_clamp hx_211, show ((x.toInt + 5)).toNat = b + 2 + 8 * c_ + 5 by omega]
    refine lv_aload_n hx hb dX12_isSo_29 rfl (lv_at hl 0 rfl) ?_
    refine va_get (ci := 12) (v := .ref w0) (C := RX12) (T := TX12) (N := 60) hx hb hts hw12 hown hK hP 0 rfl rfl 3 (by decide) (hts (.fieldLink RX12 13 "SmokeTuneModel" "row" "[I") (List.mem_cons_of_mem _ (List.mem_append_left _ (List.mem_append_left _ (List.mem_of_getElem? (i := 0) rfl))))) (fun _ h9 => h9) rfl dX12_isSo_30 ?_
    refine lv_iload_n hx hb dX12_isSo_33 rfl (lv_at hl 1 rfl) ?_
    refine lv_bipush (v := 6) hx hb dX12_isSo_34 (by decide) ?_
    refine lv_iadd hx hb dX12_isSo_36 ?_
    refine lv_topi (fun x_213 ex_213 => ?_)
    have hx_213 : x_213.toInt = (x.toInt + 6) := by rw [ex_213]; exact i_add rfl (show (6 : Int32).toInt = 6 from rfl) (by omega)
    refine va_iald hx hb hK hP 1 0 rfl rfl (i_in hx_213 (by omega)) dX12_isSo_37 ?_
    refine lv_topi (fun x_214 ex_214 => ?_)
    have ox_214 : x_214 = fw (b + 2 + 8 * c_ + 6) := by rw [ex_214, i_clamp hx_213, show ((x.toInt + 6)).toNat = b + 2 + 8 * c_ + 6 by omega]
    refine kcv (S := Su) (wr := []) (va_runV (As := [.int x_212, .int x_214]) (rest := []) ⟨hx, hb, hml, hown, hts⟩ (v_reckonAll l D K b m0 x_212 x_214 m_0 m_1 m_2 w0 m_4 m_5 m_6 m_7 m_8 m_9 m_10 m_11 m_12 m_13 m_14 m_15 m_16 m_17 m_18 m_19 m_21 m_22 m_23 m_24 m_25 m_26 m_27 m_28 m_29 m_30 m_31 m_32 m_33 lw e0 m_36 q0 bro val sm m_41 m_42 m_43 m_44 m_45 m_46 m_47 m_48 m_49 m_50 m_51 m_52 m_53 m_54 m_55 m_56 m_57 m_58 m_59 fw fe frs s.heap.size (by first | omega | decide) (by first | omega | decide) (by omega) (by rw [ox_212, ox_214]; exact (hlaw.2.2 c_ hc_).2) zfw) (cwV 2 hts gX12_isSo_X12_reckonAll rfl rfl rfl (by decide +kernel) ⟨Nat.le_of_ble_eq_true rfl, Nat.le_of_ble_eq_true rfl⟩) (mkV hK hN (hP.sub [0, 1, 2, 3] rfl) (hD.sub [0, 1, 2, 3] (by decide) rfl) (ci := 12) (q0 := 0) rfl rfl) rfl rfl hl.1 rfl (lv_room (Nat.le_of_ble_eq_true rfl)) dX12_isSo_38 ⟨Nat.le_of_ble_eq_true rfl, Nat.le_of_ble_eq_true rfl⟩) hP hD hS hA [0, 1, 2, 3] [] rfl rfl (by decide) (by decide) (fun u_216 H locs hw hP hD hS => ?_)
    have hP : va_P D vwCl [(m0, .inr (12, [m_0, m_1, m_2, .ref w0, m_4, m_5, m_6, m_7, m_8, m_9, m_10, m_11, m_12, m_13, m_14, m_15, m_16, m_17, m_18, m_19, .int 0, m_21, m_22, m_23, m_24, m_25, m_26, m_27, m_28, m_29, m_30, m_31, m_32, m_33, .int lw, .ref e0, m_36, .ref q0, .int (u_216.2.2.2.1 0), .long (u_216.2.2.2.2.1 0), .long sm, m_41, m_42, m_43, m_44, m_45, m_46, m_47, m_48, m_49, m_50, m_51, m_52, m_53, m_54, m_55, m_56, m_57, m_58, m_59])), (w0, .inl (K 0, 5500, .inl fw)), (e0, .inl (K 2, 13, .inr (.inl fe))), (q0, .inl (K 2, 400, .inr (.inl (u_216.2.2.1 0))))] H := hP
    have hD : va_D A [(m0, .inr (12, [m_0, m_1, m_2, .ref w0, m_4, m_5, m_6, m_7, m_8, m_9, m_10, m_11, m_12, m_13, m_14, m_15, m_16, m_17, m_18, m_19, .int 0, m_21, m_22, m_23, m_24, m_25, m_26, m_27, m_28, m_29, m_30, m_31, m_32, m_33, .int lw, .ref e0, m_36, .ref q0, .int (u_216.2.2.2.1 0), .long (u_216.2.2.2.2.1 0), .long sm, m_41, m_42, m_43, m_44, m_45, m_46, m_47, m_48, m_49, m_50, m_51, m_52, m_53, m_54, m_55, m_56, m_57, m_58, m_59])), (w0, .inl (K 0, 5500, .inl fw)), (e0, .inl (K 2, 13, .inr (.inl fe))), (q0, .inl (K 2, 400, .inr (.inl (u_216.2.2.1 0))))] := hD
    obtain ⟨k_217, -⟩ := hw
    refine lv_aload_n hx hb dX12_isSo_41 rfl (lv_at hl 0 rfl) ?_
    refine va_get (ci := 12) (v := .int (u_216.2.2.2.1 0)) (C := RX12) (T := TX12) (N := 60) hx hb hts hw12 hown hK hP 0 rfl rfl 38 (by decide) (hts (.fieldLink RX12 386 "SmokeTuneModel" "broken" "Z") (List.mem_cons_of_mem _ (List.mem_append_left _ (List.mem_append_left _ (List.mem_of_getElem? (i := 1) rfl))))) (fun _ h9 => h9) rfl dX12_isSo_42 ?_
    have j_220 : ∀ (H : Heap) (locs : List Loc) (hP : va_P D vwCl [(m0, .inr (12, [m_0, m_1, m_2, .ref w0, m_4, m_5, m_6, m_7, m_8, m_9, m_10, m_11, m_12, m_13, m_14, m_15, m_16, m_17, m_18, m_19, .int 0, m_21, m_22, m_23, m_24, m_25, m_26, m_27, m_28, m_29, m_30, m_31, m_32, m_33, .int lw, .ref e0, m_36, .ref q0, .int (u_216.2.2.2.1 0), .long (u_216.2.2.2.2.1 0), .long sm, m_41, m_42, m_43, m_44, m_45, m_46, m_47, m_48, m_49, m_50, m_51, m_52, m_53, m_54, m_55, m_56, m_57, m_58, m_59])), (w0, .inl (K 0, 5500, .inl fw)), (e0, .inl (K 2, 13, .inr (.inl fe))), (q0, .inl (K 2, 400, .inr (.inl (u_216.2.2.1 0))))] H) (hD : va_D A [(m0, .inr (12, [m_0, m_1, m_2, .ref w0, m_4, m_5, m_6, m_7, m_8, m_9, m_10, m_11, m_12, m_13, m_14, m_15, m_16, m_17, m_18, m_19, .int 0, m_21, m_22, m_23, m_24, m_25, m_26, m_27, m_28, m_29, m_30, m_31, m_32, m_33, .int lw, .ref e0, m_36, .ref q0, .int (u_216.2.2.2.1 0), .long (u_216.2.2.2.2.1 0), .long sm, m_41, m_42, m_43, m_44, m_45, m_46, m_47, m_48, m_49, m_50, m_51, m_52, m_53, m_54, m_55, m_56, m_57, m_58, m_59])), (w0, .inl (K 0, 5500, .inl fw)), (e0, .inl (K 2, 13, .inr (.inl fe))), (q0, .inl (K 2, 400, .inr (.inl (u_216.2.2.1 0))))]) (hS : va_S A s.heap H locs) (ls : Array Slot) (hl : lv_has ls 2 []), W p l e ({ frames := 2, cells := 0, slots := 0, locals := 51 }) s m (([.ref m0, .int x] : List Value).toArray) below meth c H locs 0 0 Q (F0 m 57 ls []) := by
      intro H locs hP hD hS ls hl
      refine lv_iconst (v := 0) hx hb dX12_isSo_57 (by decide) ?_
      rw [← hQ]
      have hP9 := hP.sub (ws' := [(m0, .inr (12, [m_0, m_1, m_2, .ref w0, m_4, m_5, m_6, m_7, m_8, m_9, m_10, m_11, m_12, m_13, m_14, m_15, m_16, m_17, m_18, m_19, .int 0, m_21, m_22, m_23, m_24, m_25, m_26, m_27, m_28, m_29, m_30, m_31, m_32, m_33, .int lw, .ref e0, m_36, .ref q0, .int (u_216.2.2.2.1 0), .long (u_216.2.2.2.2.1 0), .long sm, m_41, m_42, m_43, m_44, m_45, m_46, m_47, m_48, m_49, m_50, m_51, m_52, m_53, m_54, m_55, m_56, m_57, m_58, m_59])), (w0, .inl (K 0, 5500, .inl fw)), (e0, .inl (K 2, 13, .inr (.inl fe))), (q0, .inl (K 2, 400, .inr (.inl (u_216.2.2.1 0))))]) [0, 1, 2, 3] rfl
      have hD9 := hD.sub (ws' := [(m0, .inr (12, [m_0, m_1, m_2, .ref w0, m_4, m_5, m_6, m_7, m_8, m_9, m_10, m_11, m_12, m_13, m_14, m_15, m_16, m_17, m_18, m_19, .int 0, m_21, m_22, m_23, m_24, m_25, m_26, m_27, m_28, m_29, m_30, m_31, m_32, m_33, .int lw, .ref e0, m_36, .ref q0, .int (u_216.2.2.2.1 0), .long (u_216.2.2.2.2.1 0), .long sm, m_41, m_42, m_43, m_44, m_45, m_46, m_47, m_48, m_49, m_50, m_51, m_52, m_53, m_54, m_55, m_56, m_57, m_58, m_59])), (w0, .inl (K 0, 5500, .inl fw)), (e0, .inl (K 2, 13, .inr (.inl fe))), (q0, .inl (K 2, 400, .inr (.inl (u_216.2.2.1 0))))]) [0, 1, 2, 3] (by decide) rfl
      exact W.zret (v := 0) hx hb hr (by decide) (fun t ht hW => ⟨⟨0, ((fun _ => 0, fun _ => fun _ => 0, fun i => match i with | _ => (u_216.2.2.1 0), fun i => match i with | _ => (u_216.2.2.2.1 0), fun i => match i with | 0 => (u_216.2.2.2.2.1 0) | _ => sm, fun _ => fun _ => none) : Su), rfl, ⟨(show 0 ≤ (0 : Int32).toInt ∧ (0 : Int32).toInt ≤ 1 by decide), (show 0 ≤ ((u_216.2.2.2.1 0) : Int32).toInt ∧ ((u_216.2.2.2.1 0) : Int32).toInt ≤ 1 by omega), trivial⟩, (⟨by rw [ht]; exact hP9, hD9⟩ : Wd D A _ t)⟩, hS.F ht⟩) hS.2.2 dX12_isSo_58
    refine lv_if_ne (tgt := 57) hx hb dX12_isSo_45 (by decide) (fun c_221 => ?_) (fun c_221 => ?_)
    · have c_221i := i_ne (x := (u_216.2.2.2.1 0).toInt) (y := 0) rfl rfl c_221
      exact j_220   _ _ hP hD hS ls (lv_sub hl [] rfl)
    · have c_221i := i_eq (x := (u_216.2.2.2.1 0).toInt) (y := 0) rfl rfl c_221
      refine lv_aload_n hx hb dX12_isSo_48 rfl (lv_at hl 0 rfl) ?_
      refine va_get (ci := 12) (v := .long (u_216.2.2.2.2.1 0)) (C := RX12) (T := TX12) (N := 60) hx hb hts hw12 hown hK hP 0 rfl rfl 39 (by decide) (hts (.fieldLink RX12 403 "SmokeTuneModel" "value" "J") (List.mem_cons_of_mem _ (List.mem_append_left _ (List.mem_append_left _ (List.mem_of_getElem? (i := 2) rfl))))) (fun _ h9 => h9) rfl dX12_isSo_49 ?_
      refine lv_lconst (v := 0) hx hb dX12_isSo_52 (by decide) ?_
      refine W.lcmp hx hb dX12_isSo_53 ?_
      refine lv_if_ne (tgt := 59) hx hb dX12_isSo_54 (by decide) (fun c_222 => ?_) (fun c_222 => ?_)
      · have c_222i := l_ne (x := (u_216.2.2.2.2.1 0).toInt) (y := 0) rfl rfl (fun q => c_222 ((lg_cmp_eq (u_216.2.2.2.2.1 0) 0).mpr q))
        exact j_199 (u_216.2.2.2.1 0) (u_216.2.2.2.2.1 0) (u_216.2.2.1 0) (by omega) _ _ hP hD hS ls (lv_sub hl [0, 1] rfl)
      · have c_222i := l_eq (x := (u_216.2.2.2.2.1 0).toInt) (y := 0) rfl rfl ((lg_cmp_eq (u_216.2.2.2.2.1 0) 0).mp c_222)
        exact j_220   _ _ hP hD hS ls (lv_sub hl [] rfl)
set_option maxHeartbeats 4000000 in
set_option maxRecDepth 100000 in
theorem v_tells (l : Launch) (D : va_G) (K : Nat → ClassId) (m0 : Nat) (x : Int32) (y : Int32) (z : Int32) (w : Int32) (v : Int64) (m_0 : Value) (m_1 : Value) (m_2 : Value) (w0 : Nat) (m_4 : Value) (m_5 : Value) (m_6 : Value) (m_7 : Value) (m_8 : Value) (m_9 : Value) (m_10 : Value) (m_11 : Value) (m_12 : Value) (m_13 : Value) (m_14 : Value) (m_15 : Value) (m_16 : Value) (m_17 : Value) (m_18 : Value) (m_19 : Value) (m_21 : Value) (m_22 : Value) (m_23 : Value) (m_24 : Value) (m_25 : Value) (m_26 : Value) (m_27 : Value) (m_28 : Value) (m_29 : Value) (m_30 : Value) (m_31 : Value) (m_32 : Value) (m_33 : Value) (lw : Int32) (e0 : Nat) (m_36 : Value) (q0 : Nat) (bro : Int32) (val : Int64) (sm : Int64) (m_41 : Value) (m_42 : Value) (m_43 : Value) (m_44 : Value) (m_45 : Value) (m_46 : Value) (m_47 : Value) (m_48 : Value) (m_49 : Value) (m_50 : Value) (m_51 : Value) (m_52 : Value) (m_53 : Value) (m_54 : Value) (m_55 : Value) (m_56 : Value) (m_57 : Value) (m_58 : Value) (m_59 : Value) (fw : Nat → Int32) (fe : Nat → Int64) (frs : Nat → Int64) (sz : Nat) (zbro : 0 ≤ bro.toInt ∧ bro.toInt ≤ 1) (zx : (-1) ≤ x.toInt ∧ x.toInt ≤ 5) (zz : 0 ≤ z.toInt ∧ z.toInt ≤ 7) (zfw : RwOK fw) : Met l yX12_tells wsX12_tells ({ frames := 3, cells := 0, slots := 0, locals := 72 }) (va_Pc [.ref m0, .int x, .int y, .int z, .int w, .long v] (Pre D K [(m0, .inr (12, [m_0, m_1, m_2, .ref w0, m_4, m_5, m_6, m_7, m_8, m_9, m_10, m_11, m_12, m_13, m_14, m_15, m_16, m_17, m_18, m_19, .int 0, m_21, m_22, m_23, m_24, m_25, m_26, m_27, m_28, m_29, m_30, m_31, m_32, m_33, .int lw, .ref e0, m_36, .ref q0, .int bro, .long val, .long sm, m_41, m_42, m_43, m_44, m_45, m_46, m_47, m_48, m_49, m_50, m_51, m_52, m_53, m_54, m_55, m_56, m_57, m_58, m_59])), (w0, .inl (K 0, 5500, .inl fw)), (e0, .inl (K 2, 13, .inr (.inl fe))), (q0, .inl (K 2, 400, .inr (.inl frs)))] sz)) (va_Ql (S := Su) (fun (r : Int64) (u : Su) => (0 ≤ (u.2.2.2.1 1).toInt ∧ (u.2.2.2.1 1).toInt ≤ 1) ∧ True) (fun u t => Wd D (va_A [(m0, .inr (12, [m_0, m_1, m_2, .ref w0, m_4, m_5, m_6, m_7, m_8, m_9, m_10, m_11, m_12, m_13, m_14, m_15, m_16, m_17, m_18, m_19, .int 0, m_21, m_22, m_23, m_24, m_25, m_26, m_27, m_28, m_29, m_30, m_31, m_32, m_33, .int lw, .ref e0, m_36, .ref q0, .int bro, .long val, .long sm, m_41, m_42, m_43, m_44, m_45, m_46, m_47, m_48, m_49, m_50, m_51, m_52, m_53, m_54, m_55, m_56, m_57, m_58, m_59])), (w0, .inl (K 0, 5500, .inl fw)), (e0, .inl (K 2, 13, .inr (.inl fe))), (q0, .inl (K 2, 400, .inr (.inl frs)))] sz) ((fun u => [(m0, .inr (12, [m_0, m_1, m_2, .ref w0, m_4, m_5, m_6, m_7, m_8, m_9, m_10, m_11, m_12, m_13, m_14, m_15, m_16, m_17, m_18, m_19, .int 0, m_21, m_22, m_23, m_24, m_25, m_26, m_27, m_28, m_29, m_30, m_31, m_32, m_33, .int (u.2.2.2.1 0), .ref e0, m_36, .ref q0, .int (u.2.2.2.1 1), .long (u.2.2.2.2.1 0), .long (u.2.2.2.2.1 1), m_41, m_42, m_43, m_44, m_45, m_46, m_47, m_48, m_49, m_50, m_51, m_52, m_53, m_54, m_55, m_56, m_57, m_58, m_59])), (w0, .inl (K 0, 5500, .inl fw)), (e0, .inl (K 2, 13, .inr (.inl (u.2.2.1 0)))), (q0, .inl (K 2, 400, .inr (.inl (u.2.2.1 1))))]) u) t) (va_A [(m0, .inr (12, [m_0, m_1, m_2, .ref w0, m_4, m_5, m_6, m_7, m_8, m_9, m_10, m_11, m_12, m_13, m_14, m_15, m_16, m_17, m_18, m_19, .int 0, m_21, m_22, m_23, m_24, m_25, m_26, m_27, m_28, m_29, m_30, m_31, m_32, m_33, .int lw, .ref e0, m_36, .ref q0, .int bro, .long val, .long sm, m_41, m_42, m_43, m_44, m_45, m_46, m_47, m_48, m_49, m_50, m_51, m_52, m_53, m_54, m_55, m_56, m_57, m_58, m_59])), (w0, .inl (K 0, 5500, .inl fw)), (e0, .inl (K 2, 13, .inr (.inl fe))), (q0, .inl (K 2, 400, .inr (.inl frs)))] sz)) 0 0 (va_A [(m0, .inr (12, [m_0, m_1, m_2, .ref w0, m_4, m_5, m_6, m_7, m_8, m_9, m_10, m_11, m_12, m_13, m_14, m_15, m_16, m_17, m_18, m_19, .int 0, m_21, m_22, m_23, m_24, m_25, m_26, m_27, m_28, m_29, m_30, m_31, m_32, m_33, .int lw, .ref e0, m_36, .ref q0, .int bro, .long val, .long sm, m_41, m_42, m_43, m_44, m_45, m_46, m_47, m_48, m_49, m_50, m_51, m_52, m_53, m_54, m_55, m_56, m_57, m_58, m_59])), (w0, .inl (K 0, 5500, .inl fw)), (e0, .inl (K 2, 13, .inr (.inl fe))), (q0, .inl (K 2, 400, .inr (.inl frs)))] sz) := by
  refine Met.ofW (cc := cX12_tells) (maxL := 11) (ret := (some .long)) (by decide) rfl ?_
  intro p e s m args below meth c s₁ B hml hv
  obtain ⟨rfl, hsz, hP, hK, hD0, hN⟩ := hv
  have hx := B.exec
  have hb := B.bytes
  have hr := B.returns
  have hts := atoms_spec (ws := wsX12_tells) B.pre
  have hown : s.vm.findClass RX12 = some m.cls := findClass_of_methodNamed B.named
  have hlocks := B.notSynchronized
  subst hsz
  have hD := hD0.self (sz := s.heap.size)
  generalize hAe : va_A [(m0, .inr (12, [m_0, m_1, m_2, .ref w0, m_4, m_5, m_6, m_7, m_8, m_9, m_10, m_11, m_12, m_13, m_14, m_15, m_16, m_17, m_18, m_19, .int 0, m_21, m_22, m_23, m_24, m_25, m_26, m_27, m_28, m_29, m_30, m_31, m_32, m_33, .int lw, .ref e0, m_36, .ref q0, .int bro, .long val, .long sm, m_41, m_42, m_43, m_44, m_45, m_46, m_47, m_48, m_49, m_50, m_51, m_52, m_53, m_54, m_55, m_56, m_57, m_58, m_59])), (w0, .inl (K 0, 5500, .inl fw)), (e0, .inl (K 2, 13, .inr (.inl fe))), (q0, .inl (K 2, 400, .inr (.inl frs)))] s.heap.size = A at hD ⊢
  have hA : ∀ q : Nat, s.heap.size ≤ q → A q := fun q h => by rw [← hAe]; exact Or.inr h
  have hS : va_S A s.heap s.heap [] := va_S.rf
  have hP : va_P D vwCl [(m0, .inr (12, [m_0, m_1, m_2, .ref w0, m_4, m_5, m_6, m_7, m_8, m_9, m_10, m_11, m_12, m_13, m_14, m_15, m_16, m_17, m_18, m_19, .int 0, m_21, m_22, m_23, m_24, m_25, m_26, m_27, m_28, m_29, m_30, m_31, m_32, m_33, .int lw, .ref e0, m_36, .ref q0, .int bro, .long val, .long sm, m_41, m_42, m_43, m_44, m_45, m_46, m_47, m_48, m_49, m_50, m_51, m_52, m_53, m_54, m_55, m_56, m_57, m_58, m_59])), (w0, .inl (K 0, 5500, .inl fw)), (e0, .inl (K 2, 13, .inr (.inl fe))), (q0, .inl (K 2, 400, .inr (.inl frs)))] s.heap := hP
  have hl := lv_entry [.ref m0, .int x, .int y, .int z, .int w, .long v] (n := 11) (Nat.le_of_ble_eq_true rfl)
  rw [lg_entry_eq]
  generalize (lg_sl [.ref m0, .int x, .int y, .int z, .int w, .long v] ++ List.replicate (11 - (lg_sl [.ref m0, .int x, .int y, .int z, .int w, .long v]).length) Slot.unset).toArray = ls at hl ⊢
  have hl : lv_has ls 11 [(0, .ref m0), (1, .int x), (2, .int y), (3, .int z), (4, .int w), (5, .long v)] := hl
  have hw12 : ∀ w ∈ wsX120, w ∈ wsX12_tells := fun w h => (List.mem_cons_of_mem _ (List.mem_append_right _ h))
  generalize hQ : MQ below _ _ s _ _ _ = Q
  refine lv_iload_n hx hb dX12_tells_0 rfl (lv_at hl 1 rfl) ?_
  refine lv_iconst (v := (-1)) hx hb dX12_tells_1 (by decide) ?_
  refine lv_icmp_ne (tgt := 8) hx hb dX12_tells_2 (by decide) (fun c_593 => ?_) (fun c_593 => ?_)
  · have c_593i := i_ne (x := x.toInt) (y := (-1)) rfl rfl c_593
    obtain ⟨bb, hbb⟩ : ∃ bb : Nat, bb = 100 + 900 * x.toInt.toNat := ⟨_, rfl⟩
    have hlaw : LawOK fw bb := by rw [hbb]; exact zfw.2 _ (by omega)
    have zbb : 100 ≤ bb ∧ bb ≤ 4600 := by omega
    refine lv_aload_n hx hb dX12_tells_8 rfl (lv_at hl 0 rfl) ?_
    refine lv_bipush (v := 100) hx hb dX12_tells_9 (by decide) ?_
    refine lv_sipush (v := 900) hx hb dX12_tells_11 (by decide) ?_
    refine lv_iload_n hx hb dX12_tells_14 rfl (lv_at hl 1 rfl) ?_
    refine lv_imul hx hb dX12_tells_15 ?_
    refine lv_topi (fun x_594 ex_594 => ?_)
    have hx_594 : x_594.toInt = (900 * x.toInt) := by rw [ex_594]; exact i_mul (show (900 : Int32).toInt = 900 from rfl) rfl (by omega)
    refine lv_iadd hx hb dX12_tells_16 ?_
    refine lv_topi (fun x_595 ex_595 => ?_)
    have hx_595 : x_595.toInt = (100 + (900 * x.toInt)) := by rw [ex_595]; exact i_add (show (100 : Int32).toInt = 100 from rfl) hx_594 (by omega)
    refine va_put (ci := 12) (v := .int x_595) (ty := .int) (C := RX12) (T := TX12) (N := 60) hx hb hts hw12 tyX12 tyX12_ok nmX12 hown hK hP hD hS 0 rfl rfl 34 (by decide) (hts (.fieldLink RX12 389 "SmokeTuneModel" "law" "I") (List.mem_cons_of_mem _ (List.mem_append_left _ (List.mem_append_left _ (List.mem_of_getElem? (i := 0) rfl))))) (fun _ h9 => h9) rfl (by decide +kernel) (by first | rfl | decide) (by first | rfl | decide) (Nat.le_of_ble_eq_true rfl) dX12_tells_17 (fun H locs hP hD hS => ?_)
    have hP : va_P D vwCl [(m0, .inr (12, [m_0, m_1, m_2, .ref w0, m_4, m_5, m_6, m_7, m_8, m_9, m_10, m_11, m_12, m_13, m_14, m_15, m_16, m_17, m_18, m_19, .int 0, m_21, m_22, m_23, m_24, m_25, m_26, m_27, m_28, m_29, m_30, m_31, m_32, m_33, .int x_595, .ref e0, m_36, .ref q0, .int bro, .long val, .long sm, m_41, m_42, m_43, m_44, m_45, m_46, m_47, m_48, m_49, m_50, m_51, m_52, m_53, m_54, m_55, m_56, m_57, m_58, m_59])), (w0, .inl (K 0, 5500, .inl fw)), (e0, .inl (K 2, 13, .inr (.inl fe))), (q0, .inl (K 2, 400, .inr (.inl frs)))] H := hP
    have hD : va_D A [(m0, .inr (12, [m_0, m_1, m_2, .ref w0, m_4, m_5, m_6, m_7, m_8, m_9, m_10, m_11, m_12, m_13, m_14, m_15, m_16, m_17, m_18, m_19, .int 0, m_21, m_22, m_23, m_24, m_25, m_26, m_27, m_28, m_29, m_30, m_31, m_32, m_33, .int x_595, .ref e0, m_36, .ref q0, .int bro, .long val, .long sm, m_41, m_42, m_43, m_44, m_45, m_46, m_47, m_48, m_49, m_50, m_51, m_52, m_53, m_54, m_55, m_56, m_57, m_58, m_59])), (w0, .inl (K 0, 5500, .inl fw)), (e0, .inl (K 2, 13, .inr (.inl fe))), (q0, .inl (K 2, 400, .inr (.inl frs)))] := hD
    refine lv_aload_n hx hb dX12_tells_20 rfl (lv_at hl 0 rfl) ?_
    refine va_get (ci := 12) (v := .ref e0) (C := RX12) (T := TX12) (N := 60) hx hb hts hw12 hown hK hP 0 rfl rfl 35 (by decide) (hts (.fieldLink RX12 99 "SmokeTuneModel" "set" "[J") (List.mem_cons_of_mem _ (List.mem_append_left _ (List.mem_append_left _ (List.mem_of_getElem? (i := 1) rfl))))) (fun _ h9 => h9) rfl dX12_tells_21 ?_
    refine lv_iconst (v := 1) hx hb dX12_tells_24 (by decide) ?_
    refine lv_iload_n hx hb dX12_tells_25 rfl (lv_at hl 3 rfl) ?_
    refine lv_i2l hx hb dX12_tells_26 rfl ?_
    refine lv_topl (fun x_596 ex_596 => ?_)
    have hx_596 : x_596.toInt = z.toInt := by rw [ex_596]; exact i_wide rfl
    refine va_last hx hb hK hP hD hS 2 2 rfl rfl (i_in (x := 1) rfl (by omega)) dX12_tells_27 (fun H locs hP hD hS => ?_)
    generalize hf_597 : (vp_updL fe (1 : Int32).toNatClampNeg x_596) = f_597 at hP hD
    have hP : va_P D vwCl [(m0, .inr (12, [m_0, m_1, m_2, .ref w0, m_4, m_5, m_6, m_7, m_8, m_9, m_10, m_11, m_12, m_13, m_14, m_15, m_16, m_17, m_18, m_19, .int 0, m_21, m_22, m_23, m_24, m_25, m_26, m_27, m_28, m_29, m_30, m_31, m_32, m_33, .int x_595, .ref e0, m_36, .ref q0, .int bro, .long val, .long sm, m_41, m_42, m_43, m_44, m_45, m_46, m_47, m_48, m_49, m_50, m_51, m_52, m_53, m_54, m_55, m_56, m_57, m_58, m_59])), (w0, .inl (K 0, 5500, .inl fw)), (e0, .inl (K 2, 13, .inr (.inl f_597))), (q0, .inl (K 2, 400, .inr (.inl frs)))] H := hP
    have hD : va_D A [(m0, .inr (12, [m_0, m_1, m_2, .ref w0, m_4, m_5, m_6, m_7, m_8, m_9, m_10, m_11, m_12, m_13, m_14, m_15, m_16, m_17, m_18, m_19, .int 0, m_21, m_22, m_23, m_24, m_25, m_26, m_27, m_28, m_29, m_30, m_31, m_32, m_33, .int x_595, .ref e0, m_36, .ref q0, .int bro, .long val, .long sm, m_41, m_42, m_43, m_44, m_45, m_46, m_47, m_48, m_49, m_50, m_51, m_52, m_53, m_54, m_55, m_56, m_57, m_58, m_59])), (w0, .inl (K 0, 5500, .inl fw)), (e0, .inl (K 2, 13, .inr (.inl f_597))), (q0, .inl (K 2, 400, .inr (.inl frs)))] := hD
    refine lv_aload_n hx hb dX12_tells_28 rfl (lv_at hl 0 rfl) ?_
    refine va_get (ci := 12) (v := .ref e0) (C := RX12) (T := TX12) (N := 60) hx hb hts hw12 hown hK hP 0 rfl rfl 35 (by decide) (hts (.fieldLink RX12 99 "SmokeTuneModel" "set" "[J") (List.mem_cons_of_mem _ (List.mem_append_left _ (List.mem_append_left _ (List.mem_of_getElem? (i := 1) rfl))))) (fun _ h9 => h9) rfl dX12_tells_29 ?_
    refine lv_iconst (v := 2) hx hb dX12_tells_32 (by decide) ?_
    refine lv_aload_n hx hb dX12_tells_33 rfl (lv_at hl 0 rfl) ?_
    refine va_get (ci := 12) (v := .ref w0) (C := RX12) (T := TX12) (N := 60) hx hb hts hw12 hown hK hP 0 rfl rfl 3 (by decide) (hts (.fieldLink RX12 13 "SmokeTuneModel" "row" "[I") (List.mem_cons_of_mem _ (List.mem_append_left _ (List.mem_append_left _ (List.mem_of_getElem? (i := 2) rfl))))) (fun _ h9 => h9) rfl dX12_tells_34 ?_
    refine lv_bipush (v := 35) hx hb dX12_tells_37 (by decide) ?_
    refine lv_iload_n hx hb dX12_tells_39 rfl (lv_at hl 3 rfl) ?_
    refine lv_iadd hx hb dX12_tells_40 ?_
    refine lv_topi (fun x_598 ex_598 => ?_)
    have hx_598 : x_598.toInt = (35 + z.toInt) := by rw [ex_598]; exact i_add (show (35 : Int32).toInt = 35 from rfl) rfl (by omega)
    refine va_iald hx hb hK hP 1 0 rfl rfl (i_in hx_598 (by omega)) dX12_tells_41 ?_
    refine lv_topi (fun x_599 ex_599 => ?_)
    have px_599 := RwOK.at zfw hx_598 (show 0 ≤ (35 + z.toInt) ∧ (35 + z.toInt) < 100 by omega)
    rw [← ex_599] at px_599
    have hx_599 := PR.r_35 px_599 (by omega)
    refine lv_i2l hx hb dX12_tells_42 rfl ?_
    refine lv_topl (fun x_600 ex_600 => ?_)
    have hx_600 : x_600.toInt = x_599.toInt := by rw [ex_600]; exact i_wide rfl
    refine va_last hx hb hK hP hD hS 2 2 rfl rfl (i_in (x := 2) rfl (by omega)) dX12_tells_43 (fun H locs hP hD hS => ?_)
    generalize hf_601 : (vp_updL f_597 (2 : Int32).toNatClampNeg x_600) = f_601 at hP hD
    have hP : va_P D vwCl [(m0, .inr (12, [m_0, m_1, m_2, .ref w0, m_4, m_5, m_6, m_7, m_8, m_9, m_10, m_11, m_12, m_13, m_14, m_15, m_16, m_17, m_18, m_19, .int 0, m_21, m_22, m_23, m_24, m_25, m_26, m_27, m_28, m_29, m_30, m_31, m_32, m_33, .int x_595, .ref e0, m_36, .ref q0, .int bro, .long val, .long sm, m_41, m_42, m_43, m_44, m_45, m_46, m_47, m_48, m_49, m_50, m_51, m_52, m_53, m_54, m_55, m_56, m_57, m_58, m_59])), (w0, .inl (K 0, 5500, .inl fw)), (e0, .inl (K 2, 13, .inr (.inl f_601))), (q0, .inl (K 2, 400, .inr (.inl frs)))] H := hP
    have hD : va_D A [(m0, .inr (12, [m_0, m_1, m_2, .ref w0, m_4, m_5, m_6, m_7, m_8, m_9, m_10, m_11, m_12, m_13, m_14, m_15, m_16, m_17, m_18, m_19, .int 0, m_21, m_22, m_23, m_24, m_25, m_26, m_27, m_28, m_29, m_30, m_31, m_32, m_33, .int x_595, .ref e0, m_36, .ref q0, .int bro, .long val, .long sm, m_41, m_42, m_43, m_44, m_45, m_46, m_47, m_48, m_49, m_50, m_51, m_52, m_53, m_54, m_55, m_56, m_57, m_58, m_59])), (w0, .inl (K 0, 5500, .inl fw)), (e0, .inl (K 2, 13, .inr (.inl f_601))), (q0, .inl (K 2, 400, .inr (.inl frs)))] := hD
    refine lv_aload_n hx hb dX12_tells_44 rfl (lv_at hl 0 rfl) ?_
    refine va_get (ci := 12) (v := .ref e0) (C := RX12) (T := TX12) (N := 60) hx hb hts hw12 hown hK hP 0 rfl rfl 35 (by decide) (hts (.fieldLink RX12 99 "SmokeTuneModel" "set" "[J") (List.mem_cons_of_mem _ (List.mem_append_left _ (List.mem_append_left _ (List.mem_of_getElem? (i := 1) rfl))))) (fun _ h9 => h9) rfl dX12_tells_45 ?_
    refine lv_iconst (v := 3) hx hb dX12_tells_48 (by decide) ?_
    refine lv_aload_n hx hb dX12_tells_49 rfl (lv_at hl 0 rfl) ?_
    refine va_get (ci := 12) (v := .ref w0) (C := RX12) (T := TX12) (N := 60) hx hb hts hw12 hown hK hP 0 rfl rfl 3 (by decide) (hts (.fieldLink RX12 13 "SmokeTuneModel" "row" "[I") (List.mem_cons_of_mem _ (List.mem_append_left _ (List.mem_append_left _ (List.mem_of_getElem? (i := 2) rfl))))) (fun _ h9 => h9) rfl dX12_tells_50 ?_
    refine lv_bipush (v := 43) hx hb dX12_tells_53 (by decide) ?_
    refine lv_iload_n hx hb dX12_tells_55 rfl (lv_at hl 3 rfl) ?_
    refine lv_iadd hx hb dX12_tells_56 ?_
    refine lv_topi (fun x_602 ex_602 => ?_)
    have hx_602 : x_602.toInt = (43 + z.toInt) := by rw [ex_602]; exact i_add (show (43 : Int32).toInt = 43 from rfl) rfl (by omega)
    refine va_iald hx hb hK hP 1 0 rfl rfl (i_in hx_602 (by omega)) dX12_tells_57 ?_
    refine lv_topi (fun x_603 ex_603 => ?_)
    have px_603 := RwOK.at zfw hx_602 (show 0 ≤ (43 + z.toInt) ∧ (43 + z.toInt) < 100 by omega)
    rw [← ex_603] at px_603
    refine lv_i2l hx hb dX12_tells_58 rfl ?_
    refine lv_topl (fun x_604 ex_604 => ?_)
    have hx_604 : x_604.toInt = x_603.toInt := by rw [ex_604]; exact i_wide rfl
    have hbx_604 := i_rng (a := x_603) rfl
    refine va_last hx hb hK hP hD hS 2 2 rfl rfl (i_in (x := 3) rfl (by omega)) dX12_tells_59 (fun H locs hP hD hS => ?_)
    generalize hf_605 : (vp_updL f_601 (3 : Int32).toNatClampNeg x_604) = f_605 at hP hD
    have hP : va_P D vwCl [(m0, .inr (12, [m_0, m_1, m_2, .ref w0, m_4, m_5, m_6, m_7, m_8, m_9, m_10, m_11, m_12, m_13, m_14, m_15, m_16, m_17, m_18, m_19, .int 0, m_21, m_22, m_23, m_24, m_25, m_26, m_27, m_28, m_29, m_30, m_31, m_32, m_33, .int x_595, .ref e0, m_36, .ref q0, .int bro, .long val, .long sm, m_41, m_42, m_43, m_44, m_45, m_46, m_47, m_48, m_49, m_50, m_51, m_52, m_53, m_54, m_55, m_56, m_57, m_58, m_59])), (w0, .inl (K 0, 5500, .inl fw)), (e0, .inl (K 2, 13, .inr (.inl f_605))), (q0, .inl (K 2, 400, .inr (.inl frs)))] H := hP
    have hD : va_D A [(m0, .inr (12, [m_0, m_1, m_2, .ref w0, m_4, m_5, m_6, m_7, m_8, m_9, m_10, m_11, m_12, m_13, m_14, m_15, m_16, m_17, m_18, m_19, .int 0, m_21, m_22, m_23, m_24, m_25, m_26, m_27, m_28, m_29, m_30, m_31, m_32, m_33, .int x_595, .ref e0, m_36, .ref q0, .int bro, .long val, .long sm, m_41, m_42, m_43, m_44, m_45, m_46, m_47, m_48, m_49, m_50, m_51, m_52, m_53, m_54, m_55, m_56, m_57, m_58, m_59])), (w0, .inl (K 0, 5500, .inl fw)), (e0, .inl (K 2, 13, .inr (.inl f_605))), (q0, .inl (K 2, 400, .inr (.inl frs)))] := hD
    refine lv_aload_n hx hb dX12_tells_60 rfl (lv_at hl 0 rfl) ?_
    refine va_get (ci := 12) (v := .ref e0) (C := RX12) (T := TX12) (N := 60) hx hb hts hw12 hown hK hP 0 rfl rfl 35 (by decide) (hts (.fieldLink RX12 99 "SmokeTuneModel" "set" "[J") (List.mem_cons_of_mem _ (List.mem_append_left _ (List.mem_append_left _ (List.mem_of_getElem? (i := 1) rfl))))) (fun _ h9 => h9) rfl dX12_tells_61 ?_
    refine lv_iconst (v := 4) hx hb dX12_tells_64 (by decide) ?_
    refine lv_aload_n hx hb dX12_tells_65 rfl (lv_at hl 0 rfl) ?_
    refine va_get (ci := 12) (v := .ref w0) (C := RX12) (T := TX12) (N := 60) hx hb hts hw12 hown hK hP 0 rfl rfl 3 (by decide) (hts (.fieldLink RX12 13 "SmokeTuneModel" "row" "[I") (List.mem_cons_of_mem _ (List.mem_append_left _ (List.mem_append_left _ (List.mem_of_getElem? (i := 2) rfl))))) (fun _ h9 => h9) rfl dX12_tells_66 ?_
    refine lv_bipush (v := 11) hx hb dX12_tells_69 (by decide) ?_
    refine lv_iload_n hx hb dX12_tells_71 rfl (lv_at hl 3 rfl) ?_
    refine lv_iadd hx hb dX12_tells_72 ?_
    refine lv_topi (fun x_606 ex_606 => ?_)
    have hx_606 : x_606.toInt = (11 + z.toInt) := by rw [ex_606]; exact i_add (show (11 : Int32).toInt = 11 from rfl) rfl (by omega)
    refine va_iald hx hb hK hP 1 0 rfl rfl (i_in hx_606 (by omega)) dX12_tells_73 ?_
    refine lv_topi (fun x_607 ex_607 => ?_)
    have px_607 := RwOK.at zfw hx_606 (show 0 ≤ (11 + z.toInt) ∧ (11 + z.toInt) < 100 by omega)
    rw [← ex_607] at px_607
    have hx_607 := PR.r_11 px_607 (by omega)
    refine lv_i2l hx hb dX12_tells_74 rfl ?_
    refine lv_topl (fun x_608 ex_608 => ?_)
    have hx_608 : x_608.toInt = x_607.toInt := by rw [ex_608]; exact i_wide rfl
    refine va_last hx hb hK hP hD hS 2 2 rfl rfl (i_in (x := 4) rfl (by omega)) dX12_tells_75 (fun H locs hP hD hS => ?_)
    generalize hf_609 : (vp_updL f_605 (4 : Int32).toNatClampNeg x_608) = f_609 at hP hD
    have hP : va_P D vwCl [(m0, .inr (12, [m_0, m_1, m_2, .ref w0, m_4, m_5, m_6, m_7, m_8, m_9, m_10, m_11, m_12, m_13, m_14, m_15, m_16, m_17, m_18, m_19, .int 0, m_21, m_22, m_23, m_24, m_25, m_26, m_27, m_28, m_29, m_30, m_31, m_32, m_33, .int x_595, .ref e0, m_36, .ref q0, .int bro, .long val, .long sm, m_41, m_42, m_43, m_44, m_45, m_46, m_47, m_48, m_49, m_50, m_51, m_52, m_53, m_54, m_55, m_56, m_57, m_58, m_59])), (w0, .inl (K 0, 5500, .inl fw)), (e0, .inl (K 2, 13, .inr (.inl f_609))), (q0, .inl (K 2, 400, .inr (.inl frs)))] H := hP
    have hD : va_D A [(m0, .inr (12, [m_0, m_1, m_2, .ref w0, m_4, m_5, m_6, m_7, m_8, m_9, m_10, m_11, m_12, m_13, m_14, m_15, m_16, m_17, m_18, m_19, .int 0, m_21, m_22, m_23, m_24, m_25, m_26, m_27, m_28, m_29, m_30, m_31, m_32, m_33, .int x_595, .ref e0, m_36, .ref q0, .int bro, .long val, .long sm, m_41, m_42, m_43, m_44, m_45, m_46, m_47, m_48, m_49, m_50, m_51, m_52, m_53, m_54, m_55, m_56, m_57, m_58, m_59])), (w0, .inl (K 0, 5500, .inl fw)), (e0, .inl (K 2, 13, .inr (.inl f_609))), (q0, .inl (K 2, 400, .inr (.inl frs)))] := hD
    refine lv_aload_n hx hb dX12_tells_76 rfl (lv_at hl 0 rfl) ?_
    refine va_get (ci := 12) (v := .ref e0) (C := RX12) (T := TX12) (N := 60) hx hb hts hw12 hown hK hP 0 rfl rfl 35 (by decide) (hts (.fieldLink RX12 99 "SmokeTuneModel" "set" "[J") (List.mem_cons_of_mem _ (List.mem_append_left _ (List.mem_append_left _ (List.mem_of_getElem? (i := 1) rfl))))) (fun _ h9 => h9) rfl dX12_tells_77 ?_
    refine lv_iconst (v := 5) hx hb dX12_tells_80 (by decide) ?_
    refine lv_aload_n hx hb dX12_tells_81 rfl (lv_at hl 0 rfl) ?_
    refine va_get (ci := 12) (v := .ref w0) (C := RX12) (T := TX12) (N := 60) hx hb hts hw12 hown hK hP 0 rfl rfl 3 (by decide) (hts (.fieldLink RX12 13 "SmokeTuneModel" "row" "[I") (List.mem_cons_of_mem _ (List.mem_append_left _ (List.mem_append_left _ (List.mem_of_getElem? (i := 2) rfl))))) (fun _ h9 => h9) rfl dX12_tells_82 ?_
    refine lv_bipush (v := 19) hx hb dX12_tells_85 (by decide) ?_
    refine lv_iload_n hx hb dX12_tells_87 rfl (lv_at hl 3 rfl) ?_
    refine lv_iadd hx hb dX12_tells_88 ?_
    refine lv_topi (fun x_610 ex_610 => ?_)
    have hx_610 : x_610.toInt = (19 + z.toInt) := by rw [ex_610]; exact i_add (show (19 : Int32).toInt = 19 from rfl) rfl (by omega)
    refine va_iald hx hb hK hP 1 0 rfl rfl (i_in hx_610 (by omega)) dX12_tells_89 ?_
    refine lv_topi (fun x_611 ex_611 => ?_)
    have px_611 := RwOK.at zfw hx_610 (show 0 ≤ (19 + z.toInt) ∧ (19 + z.toInt) < 100 by omega)
    rw [← ex_611] at px_611
    refine lv_i2l hx hb dX12_tells_90 rfl ?_
    refine lv_topl (fun x_612 ex_612 => ?_)
    have hx_612 : x_612.toInt = x_611.toInt := by rw [ex_612]; exact i_wide rfl
    have hbx_612 := i_rng (a := x_611) rfl
    refine va_last hx hb hK hP hD hS 2 2 rfl rfl (i_in (x := 5) rfl (by omega)) dX12_tells_91 (fun H locs hP hD hS => ?_)
    generalize hf_613 : (vp_updL f_609 (5 : Int32).toNatClampNeg x_612) = f_613 at hP hD
    have hP : va_P D vwCl [(m0, .inr (12, [m_0, m_1, m_2, .ref w0, m_4, m_5, m_6, m_7, m_8, m_9, m_10, m_11, m_12, m_13, m_14, m_15, m_16, m_17, m_18, m_19, .int 0, m_21, m_22, m_23, m_24, m_25, m_26, m_27, m_28, m_29, m_30, m_31, m_32, m_33, .int x_595, .ref e0, m_36, .ref q0, .int bro, .long val, .long sm, m_41, m_42, m_43, m_44, m_45, m_46, m_47, m_48, m_49, m_50, m_51, m_52, m_53, m_54, m_55, m_56, m_57, m_58, m_59])), (w0, .inl (K 0, 5500, .inl fw)), (e0, .inl (K 2, 13, .inr (.inl f_613))), (q0, .inl (K 2, 400, .inr (.inl frs)))] H := hP
    have hD : va_D A [(m0, .inr (12, [m_0, m_1, m_2, .ref w0, m_4, m_5, m_6, m_7, m_8, m_9, m_10, m_11, m_12, m_13, m_14, m_15, m_16, m_17, m_18, m_19, .int 0, m_21, m_22, m_23, m_24, m_25, m_26, m_27, m_28, m_29, m_30, m_31, m_32, m_33, .int x_595, .ref e0, m_36, .ref q0, .int bro, .long val, .long sm, m_41, m_42, m_43, m_44, m_45, m_46, m_47, m_48, m_49, m_50, m_51, m_52, m_53, m_54, m_55, m_56, m_57, m_58, m_59])), (w0, .inl (K 0, 5500, .inl fw)), (e0, .inl (K 2, 13, .inr (.inl f_613))), (q0, .inl (K 2, 400, .inr (.inl frs)))] := hD
    refine lv_aload_n hx hb dX12_tells_92 rfl (lv_at hl 0 rfl) ?_
    refine va_get (ci := 12) (v := .ref e0) (C := RX12) (T := TX12) (N := 60) hx hb hts hw12 hown hK hP 0 rfl rfl 35 (by decide) (hts (.fieldLink RX12 99 "SmokeTuneModel" "set" "[J") (List.mem_cons_of_mem _ (List.mem_append_left _ (List.mem_append_left _ (List.mem_of_getElem? (i := 1) rfl))))) (fun _ h9 => h9) rfl dX12_tells_93 ?_
    refine lv_bipush (v := 6) hx hb dX12_tells_96 (by decide) ?_
    refine lv_aload_n hx hb dX12_tells_98 rfl (lv_at hl 0 rfl) ?_
    refine lv_iconst (v := 0) hx hb dX12_tells_99 (by decide) ?_
    refine pci (va_runV (As := [.int 0]) (rest := [.int 6, .ref e0]) ⟨hx, hb, hml, hown, hts⟩ (v_term_0 l D K m0 m_0 m_1 m_2 w0 m_4 m_5 m_6 m_7 m_8 m_9 m_10 m_11 m_12 m_13 m_14 m_15 m_16 m_17 m_18 m_19 (.int 0) m_21 m_22 m_23 m_24 m_25 m_26 m_27 m_28 m_29 m_30 m_31 m_32 m_33 (.int x_595) (.ref e0) m_36 (.ref q0) (.int bro) (.long val) (.long sm) m_41 m_42 m_43 m_44 m_45 m_46 m_47 m_48 m_49 m_50 m_51 m_52 m_53 m_54 m_55 m_56 m_57 m_58 m_59 fw H.size zfw) (cwV 1 hts gX12_tells_X12_term rfl rfl rfl (by decide +kernel) ⟨Nat.le_of_ble_eq_true rfl, Nat.le_of_ble_eq_true rfl⟩) (mkV hK hN (hP.sub [0, 1] rfl) (hD.sub [0, 1] (by decide) rfl) (ci := 12) (q0 := 0) rfl rfl) rfl rfl hl.1 rfl (lv_room (Nat.le_of_ble_eq_true rfl)) dX12_tells_100 ⟨Nat.le_of_ble_eq_true rfl, Nat.le_of_ble_eq_true rfl⟩) (fun r_614 hw => ?_)
    obtain ⟨h_615, -⟩ := hw
    refine lv_i2l hx hb dX12_tells_103 rfl ?_
    refine lv_topl (fun x_616 ex_616 => ?_)
    have hx_616 : x_616.toInt = r_614.toInt := by rw [ex_616]; exact i_wide rfl
    refine va_last hx hb hK hP hD hS 2 2 rfl rfl (i_in (x := 6) rfl (by omega)) dX12_tells_104 (fun H locs hP hD hS => ?_)
    generalize hf_617 : (vp_updL f_613 (6 : Int32).toNatClampNeg x_616) = f_617 at hP hD
    have hP : va_P D vwCl [(m0, .inr (12, [m_0, m_1, m_2, .ref w0, m_4, m_5, m_6, m_7, m_8, m_9, m_10, m_11, m_12, m_13, m_14, m_15, m_16, m_17, m_18, m_19, .int 0, m_21, m_22, m_23, m_24, m_25, m_26, m_27, m_28, m_29, m_30, m_31, m_32, m_33, .int x_595, .ref e0, m_36, .ref q0, .int bro, .long val, .long sm, m_41, m_42, m_43, m_44, m_45, m_46, m_47, m_48, m_49, m_50, m_51, m_52, m_53, m_54, m_55, m_56, m_57, m_58, m_59])), (w0, .inl (K 0, 5500, .inl fw)), (e0, .inl (K 2, 13, .inr (.inl f_617))), (q0, .inl (K 2, 400, .inr (.inl frs)))] H := hP
    have hD : va_D A [(m0, .inr (12, [m_0, m_1, m_2, .ref w0, m_4, m_5, m_6, m_7, m_8, m_9, m_10, m_11, m_12, m_13, m_14, m_15, m_16, m_17, m_18, m_19, .int 0, m_21, m_22, m_23, m_24, m_25, m_26, m_27, m_28, m_29, m_30, m_31, m_32, m_33, .int x_595, .ref e0, m_36, .ref q0, .int bro, .long val, .long sm, m_41, m_42, m_43, m_44, m_45, m_46, m_47, m_48, m_49, m_50, m_51, m_52, m_53, m_54, m_55, m_56, m_57, m_58, m_59])), (w0, .inl (K 0, 5500, .inl fw)), (e0, .inl (K 2, 13, .inr (.inl f_617))), (q0, .inl (K 2, 400, .inr (.inl frs)))] := hD
    refine lv_aload_n hx hb dX12_tells_105 rfl (lv_at hl 0 rfl) ?_
    refine va_get (ci := 12) (v := .ref e0) (C := RX12) (T := TX12) (N := 60) hx hb hts hw12 hown hK hP 0 rfl rfl 35 (by decide) (hts (.fieldLink RX12 99 "SmokeTuneModel" "set" "[J") (List.mem_cons_of_mem _ (List.mem_append_left _ (List.mem_append_left _ (List.mem_of_getElem? (i := 1) rfl))))) (fun _ h9 => h9) rfl dX12_tells_106 ?_
    refine lv_bipush (v := 7) hx hb dX12_tells_109 (by decide) ?_
    refine lv_aload_n hx hb dX12_tells_111 rfl (lv_at hl 0 rfl) ?_
    refine lv_iconst (v := 1) hx hb dX12_tells_112 (by decide) ?_
    refine pci (va_runV (As := [.int 1]) (rest := [.int 7, .ref e0]) ⟨hx, hb, hml, hown, hts⟩ (v_term l D K m0 1 m_0 m_1 m_2 w0 m_4 m_5 m_6 m_7 m_8 m_9 m_10 m_11 m_12 m_13 m_14 m_15 m_16 m_17 m_18 m_19 (.int 0) m_21 m_22 m_23 m_24 m_25 m_26 m_27 m_28 m_29 m_30 m_31 m_32 m_33 (.int x_595) (.ref e0) m_36 (.ref q0) (.int bro) (.long val) (.long sm) m_41 m_42 m_43 m_44 m_45 m_46 m_47 m_48 m_49 m_50 m_51 m_52 m_53 m_54 m_55 m_56 m_57 m_58 m_59 fw H.size (by first | omega | decide) zfw) (cwV 1 hts gX12_tells_X12_term rfl rfl rfl (by decide +kernel) ⟨Nat.le_of_ble_eq_true rfl, Nat.le_of_ble_eq_true rfl⟩) (mkV hK hN (hP.sub [0, 1] rfl) (hD.sub [0, 1] (by decide) rfl) (ci := 12) (q0 := 0) rfl rfl) rfl rfl hl.1 rfl (lv_room (Nat.le_of_ble_eq_true rfl)) dX12_tells_113 ⟨Nat.le_of_ble_eq_true rfl, Nat.le_of_ble_eq_true rfl⟩) (fun r_618 hw => ?_)
    refine lv_i2l hx hb dX12_tells_116 rfl ?_
    refine lv_topl (fun x_619 ex_619 => ?_)
    have hx_619 : x_619.toInt = r_618.toInt := by rw [ex_619]; exact i_wide rfl
    refine va_last hx hb hK hP hD hS 2 2 rfl rfl (i_in (x := 7) rfl (by omega)) dX12_tells_117 (fun H locs hP hD hS => ?_)
    generalize hf_620 : (vp_updL f_617 (7 : Int32).toNatClampNeg x_619) = f_620 at hP hD
    have hP : va_P D vwCl [(m0, .inr (12, [m_0, m_1, m_2, .ref w0, m_4, m_5, m_6, m_7, m_8, m_9, m_10, m_11, m_12, m_13, m_14, m_15, m_16, m_17, m_18, m_19, .int 0, m_21, m_22, m_23, m_24, m_25, m_26, m_27, m_28, m_29, m_30, m_31, m_32, m_33, .int x_595, .ref e0, m_36, .ref q0, .int bro, .long val, .long sm, m_41, m_42, m_43, m_44, m_45, m_46, m_47, m_48, m_49, m_50, m_51, m_52, m_53, m_54, m_55, m_56, m_57, m_58, m_59])), (w0, .inl (K 0, 5500, .inl fw)), (e0, .inl (K 2, 13, .inr (.inl f_620))), (q0, .inl (K 2, 400, .inr (.inl frs)))] H := hP
    have hD : va_D A [(m0, .inr (12, [m_0, m_1, m_2, .ref w0, m_4, m_5, m_6, m_7, m_8, m_9, m_10, m_11, m_12, m_13, m_14, m_15, m_16, m_17, m_18, m_19, .int 0, m_21, m_22, m_23, m_24, m_25, m_26, m_27, m_28, m_29, m_30, m_31, m_32, m_33, .int x_595, .ref e0, m_36, .ref q0, .int bro, .long val, .long sm, m_41, m_42, m_43, m_44, m_45, m_46, m_47, m_48, m_49, m_50, m_51, m_52, m_53, m_54, m_55, m_56, m_57, m_58, m_59])), (w0, .inl (K 0, 5500, .inl fw)), (e0, .inl (K 2, 13, .inr (.inl f_620))), (q0, .inl (K 2, 400, .inr (.inl frs)))] := hD
    refine lv_aload_n hx hb dX12_tells_118 rfl (lv_at hl 0 rfl) ?_
    refine va_get (ci := 12) (v := .ref e0) (C := RX12) (T := TX12) (N := 60) hx hb hts hw12 hown hK hP 0 rfl rfl 35 (by decide) (hts (.fieldLink RX12 99 "SmokeTuneModel" "set" "[J") (List.mem_cons_of_mem _ (List.mem_append_left _ (List.mem_append_left _ (List.mem_of_getElem? (i := 1) rfl))))) (fun _ h9 => h9) rfl dX12_tells_119 ?_
    refine lv_bipush (v := 8) hx hb dX12_tells_122 (by decide) ?_
    refine lv_aload_n hx hb dX12_tells_124 rfl (lv_at hl 0 rfl) ?_
    refine lv_iconst (v := 5) hx hb dX12_tells_125 (by decide) ?_
    refine pci (va_runV (As := [.int 5]) (rest := [.int 8, .ref e0]) ⟨hx, hb, hml, hown, hts⟩ (v_term l D K m0 5 m_0 m_1 m_2 w0 m_4 m_5 m_6 m_7 m_8 m_9 m_10 m_11 m_12 m_13 m_14 m_15 m_16 m_17 m_18 m_19 (.int 0) m_21 m_22 m_23 m_24 m_25 m_26 m_27 m_28 m_29 m_30 m_31 m_32 m_33 (.int x_595) (.ref e0) m_36 (.ref q0) (.int bro) (.long val) (.long sm) m_41 m_42 m_43 m_44 m_45 m_46 m_47 m_48 m_49 m_50 m_51 m_52 m_53 m_54 m_55 m_56 m_57 m_58 m_59 fw H.size (by first | omega | decide) zfw) (cwV 1 hts gX12_tells_X12_term rfl rfl rfl (by decide +kernel) ⟨Nat.le_of_ble_eq_true rfl, Nat.le_of_ble_eq_true rfl⟩) (mkV hK hN (hP.sub [0, 1] rfl) (hD.sub [0, 1] (by decide) rfl) (ci := 12) (q0 := 0) rfl rfl) rfl rfl hl.1 rfl (lv_room (Nat.le_of_ble_eq_true rfl)) dX12_tells_126 ⟨Nat.le_of_ble_eq_true rfl, Nat.le_of_ble_eq_true rfl⟩) (fun r_621 hw => ?_)
    refine lv_i2l hx hb dX12_tells_129 rfl ?_
    refine lv_topl (fun x_622 ex_622 => ?_)
    have hx_622 : x_622.toInt = r_621.toInt := by rw [ex_622]; exact i_wide rfl
    refine va_last hx hb hK hP hD hS 2 2 rfl rfl (i_in (x := 8) rfl (by omega)) dX12_tells_130 (fun H locs hP hD hS => ?_)
    generalize hf_623 : (vp_updL f_620 (8 : Int32).toNatClampNeg x_622) = f_623 at hP hD
    have hP : va_P D vwCl [(m0, .inr (12, [m_0, m_1, m_2, .ref w0, m_4, m_5, m_6, m_7, m_8, m_9, m_10, m_11, m_12, m_13, m_14, m_15, m_16, m_17, m_18, m_19, .int 0, m_21, m_22, m_23, m_24, m_25, m_26, m_27, m_28, m_29, m_30, m_31, m_32, m_33, .int x_595, .ref e0, m_36, .ref q0, .int bro, .long val, .long sm, m_41, m_42, m_43, m_44, m_45, m_46, m_47, m_48, m_49, m_50, m_51, m_52, m_53, m_54, m_55, m_56, m_57, m_58, m_59])), (w0, .inl (K 0, 5500, .inl fw)), (e0, .inl (K 2, 13, .inr (.inl f_623))), (q0, .inl (K 2, 400, .inr (.inl frs)))] H := hP
    have hD : va_D A [(m0, .inr (12, [m_0, m_1, m_2, .ref w0, m_4, m_5, m_6, m_7, m_8, m_9, m_10, m_11, m_12, m_13, m_14, m_15, m_16, m_17, m_18, m_19, .int 0, m_21, m_22, m_23, m_24, m_25, m_26, m_27, m_28, m_29, m_30, m_31, m_32, m_33, .int x_595, .ref e0, m_36, .ref q0, .int bro, .long val, .long sm, m_41, m_42, m_43, m_44, m_45, m_46, m_47, m_48, m_49, m_50, m_51, m_52, m_53, m_54, m_55, m_56, m_57, m_58, m_59])), (w0, .inl (K 0, 5500, .inl fw)), (e0, .inl (K 2, 13, .inr (.inl f_623))), (q0, .inl (K 2, 400, .inr (.inl frs)))] := hD
    refine lv_aload_n hx hb dX12_tells_131 rfl (lv_at hl 0 rfl) ?_
    refine va_get (ci := 12) (v := .ref e0) (C := RX12) (T := TX12) (N := 60) hx hb hts hw12 hown hK hP 0 rfl rfl 35 (by decide) (hts (.fieldLink RX12 99 "SmokeTuneModel" "set" "[J") (List.mem_cons_of_mem _ (List.mem_append_left _ (List.mem_append_left _ (List.mem_of_getElem? (i := 1) rfl))))) (fun _ h9 => h9) rfl dX12_tells_132 ?_
    refine lv_bipush (v := 9) hx hb dX12_tells_135 (by decide) ?_
    refine lv_iload hx hb dX12_tells_137 (lv_at hl 4 rfl) ?_
    refine lv_i2l hx hb dX12_tells_139 rfl ?_
    refine lv_topl (fun x_624 ex_624 => ?_)
    have hx_624 : x_624.toInt = w.toInt := by rw [ex_624]; exact i_wide rfl
    have hbx_624 := i_rng (a := w) rfl
    refine va_last hx hb hK hP hD hS 2 2 rfl rfl (i_in (x := 9) rfl (by omega)) dX12_tells_140 (fun H locs hP hD hS => ?_)
    generalize hf_625 : (vp_updL f_623 (9 : Int32).toNatClampNeg x_624) = f_625 at hP hD
    have hP : va_P D vwCl [(m0, .inr (12, [m_0, m_1, m_2, .ref w0, m_4, m_5, m_6, m_7, m_8, m_9, m_10, m_11, m_12, m_13, m_14, m_15, m_16, m_17, m_18, m_19, .int 0, m_21, m_22, m_23, m_24, m_25, m_26, m_27, m_28, m_29, m_30, m_31, m_32, m_33, .int x_595, .ref e0, m_36, .ref q0, .int bro, .long val, .long sm, m_41, m_42, m_43, m_44, m_45, m_46, m_47, m_48, m_49, m_50, m_51, m_52, m_53, m_54, m_55, m_56, m_57, m_58, m_59])), (w0, .inl (K 0, 5500, .inl fw)), (e0, .inl (K 2, 13, .inr (.inl f_625))), (q0, .inl (K 2, 400, .inr (.inl frs)))] H := hP
    have hD : va_D A [(m0, .inr (12, [m_0, m_1, m_2, .ref w0, m_4, m_5, m_6, m_7, m_8, m_9, m_10, m_11, m_12, m_13, m_14, m_15, m_16, m_17, m_18, m_19, .int 0, m_21, m_22, m_23, m_24, m_25, m_26, m_27, m_28, m_29, m_30, m_31, m_32, m_33, .int x_595, .ref e0, m_36, .ref q0, .int bro, .long val, .long sm, m_41, m_42, m_43, m_44, m_45, m_46, m_47, m_48, m_49, m_50, m_51, m_52, m_53, m_54, m_55, m_56, m_57, m_58, m_59])), (w0, .inl (K 0, 5500, .inl fw)), (e0, .inl (K 2, 13, .inr (.inl f_625))), (q0, .inl (K 2, 400, .inr (.inl frs)))] := hD
    refine lv_lload hx hb dX12_tells_141 (lv_at hl 5 rfl) ?_
    refine lv_lstore (lv' := [(7, .long v), (0, .ref m0), (1, .int x), (2, .int y), (3, .int z), (4, .int w), (5, .long v)]) hx hb dX12_tells_143 hl (by decide) rfl (fun ls hl => ?_)
    refine lv_iconst (v := 0) hx hb dX12_tells_145 (by decide) ?_
    refine lv_istore (lv' := [(9, .int 0), (7, .long v), (0, .ref m0), (1, .int x), (2, .int y), (3, .int z), (4, .int w), (5, .long v)]) hx hb dX12_tells_146 hl (by decide) rfl (fun ls hl => ?_)
    have lp_828 : ∀ (nn_ : Nat) (v_758 : Int32) (v_759 : Int64) (v_760 : Int32) (v_761 : Int64) (v_762 : Int64) (f_763 : Nat → Int64) (hv_758 : 0 ≤ v_758.toInt ∧ v_758.toInt ≤ 12) (hv_760 : 0 ≤ v_760.toInt ∧ v_760.toInt ≤ 1) (hn : (13 - v_758.toInt : Int).toNat < nn_) (H : Heap) (locs : List Loc) (hP : va_P D vwCl [(m0, .inr (12, [m_0, m_1, m_2, .ref w0, m_4, m_5, m_6, m_7, m_8, m_9, m_10, m_11, m_12, m_13, m_14, m_15, m_16, m_17, m_18, m_19, .int 0, m_21, m_22, m_23, m_24, m_25, m_26, m_27, m_28, m_29, m_30, m_31, m_32, m_33, .int x_595, .ref e0, m_36, .ref q0, .int v_760, .long v_761, .long v_762, m_41, m_42, m_43, m_44, m_45, m_46, m_47, m_48, m_49, m_50, m_51, m_52, m_53, m_54, m_55, m_56, m_57, m_58, m_59])), (w0, .inl (K 0, 5500, .inl fw)), (e0, .inl (K 2, 13, .inr (.inl f_625))), (q0, .inl (K 2, 400, .inr (.inl f_763)))] H) (hD : va_D A [(m0, .inr (12, [m_0, m_1, m_2, .ref w0, m_4, m_5, m_6, m_7, m_8, m_9, m_10, m_11, m_12, m_13, m_14, m_15, m_16, m_17, m_18, m_19, .int 0, m_21, m_22, m_23, m_24, m_25, m_26, m_27, m_28, m_29, m_30, m_31, m_32, m_33, .int x_595, .ref e0, m_36, .ref q0, .int v_760, .long v_761, .long v_762, m_41, m_42, m_43, m_44, m_45, m_46, m_47, m_48, m_49, m_50, m_51, m_52, m_53, m_54, m_55, m_56, m_57, m_58, m_59])), (w0, .inl (K 0, 5500, .inl fw)), (e0, .inl (K 2, 13, .inr (.inl f_625))), (q0, .inl (K 2, 400, .inr (.inl f_763)))]) (hS : va_S A s.heap H locs) (ls : Array Slot) (hl : lv_has ls 11 [(9, .int v_758), (7, .long v_759), (0, .ref m0), (2, .int y)]), W p l e ({ frames := 3, cells := 0, slots := 0, locals := 72 }) s m (([.ref m0, .int x, .int y, .int z, .int w, .long v] : List Value).toArray) below meth c H locs 0 0 Q (F0 m 148 ls []) := by
      intro nn_
      induction nn_ with
      | zero =>
        intro v_758 v_759 v_760 v_761 v_762 f_763 hv_758 hv_760 hn H locs hP hD hS ls hl
        exact absurd hn (Nat.not_lt_zero _)
      | succ nn_ ih_829 =>
        intro v_758 v_759 v_760 v_761 v_762 f_763 hv_758 hv_760 hn H locs hP hD hS ls hl
        refine lv_iload hx hb dX12_tells_148 (lv_at hl 0 rfl) ?_
        refine lv_aload_n hx hb dX12_tells_150 rfl (lv_at hl 2 rfl) ?_
        refine va_get (ci := 12) (v := .ref w0) (C := RX12) (T := TX12) (N := 60) hx hb hts hw12 hown hK hP 0 rfl rfl 3 (by decide) (hts (.fieldLink RX12 13 "SmokeTuneModel" "row" "[I") (List.mem_cons_of_mem _ (List.mem_append_left _ (List.mem_append_left _ (List.mem_of_getElem? (i := 2) rfl))))) (fun _ h9 => h9) rfl dX12_tells_151 ?_
        refine lv_aload_n hx hb dX12_tells_154 rfl (lv_at hl 2 rfl) ?_
        refine va_get (ci := 12) (v := .int x_595) (C := RX12) (T := TX12) (N := 60) hx hb hts hw12 hown hK hP 0 rfl rfl 34 (by decide) (hts (.fieldLink RX12 389 "SmokeTuneModel" "law" "I") (List.mem_cons_of_mem _ (List.mem_append_left _ (List.mem_append_left _ (List.mem_of_getElem? (i := 0) rfl))))) (fun _ h9 => h9) rfl dX12_tells_155 ?_
        refine lv_iconst (v := 1) hx hb dX12_tells_158 (by decide) ?_
        refine lv_iadd hx hb dX12_tells_159 ?_
        refine lv_topi (fun x_830 ex_830 => ?_)
        have hx_830 : x_830.toInt = ((100 + (900 * x.toInt)) + 1) := by rw [ex_830]; exact i_add hx_595 (show (1 : Int32).toInt = 1 from rfl) (by omega)
        refine va_iald hx hb hK hP 1 0 rfl rfl (i_in hx_830 (by omega)) dX12_tells_160 ?_
        refine lv_topi (fun x_831 ex_831 => ?_)
        have ox_831 : x_831 = fw (bb + 1) := by rw [ex_831, i_clamp hx_830, show (((100 + (900 * x.toInt)) + 1)).toNat = bb + 1 by omega]
        have hx_831 : 0 ≤ x_831.toInt ∧ x_831.toInt ≤ 12 := by rw [ox_831]; exact ⟨hlaw.1, hlaw.2.1⟩
        refine lv_icmp_ge (tgt := 219) hx hb dX12_tells_161 (by decide) (fun c_832 => ?_) (fun c_832 => ?_)
        · have c_832i := i_le (x := x_831.toInt) (y := v_758.toInt) rfl rfl c_832
          refine lv_lload hx hb dX12_tells_219 (lv_at hl 1 rfl) ?_
          rw [← hQ]
          have hP9 := hP.sub (ws' := [(m0, .inr (12, [m_0, m_1, m_2, .ref w0, m_4, m_5, m_6, m_7, m_8, m_9, m_10, m_11, m_12, m_13, m_14, m_15, m_16, m_17, m_18, m_19, .int 0, m_21, m_22, m_23, m_24, m_25, m_26, m_27, m_28, m_29, m_30, m_31, m_32, m_33, .int x_595, .ref e0, m_36, .ref q0, .int v_760, .long v_761, .long v_762, m_41, m_42, m_43, m_44, m_45, m_46, m_47, m_48, m_49, m_50, m_51, m_52, m_53, m_54, m_55, m_56, m_57, m_58, m_59])), (w0, .inl (K 0, 5500, .inl fw)), (e0, .inl (K 2, 13, .inr (.inl f_625))), (q0, .inl (K 2, 400, .inr (.inl f_763)))]) [0, 1, 2, 3] rfl
          have hD9 := hD.sub (ws' := [(m0, .inr (12, [m_0, m_1, m_2, .ref w0, m_4, m_5, m_6, m_7, m_8, m_9, m_10, m_11, m_12, m_13, m_14, m_15, m_16, m_17, m_18, m_19, .int 0, m_21, m_22, m_23, m_24, m_25, m_26, m_27, m_28, m_29, m_30, m_31, m_32, m_33, .int x_595, .ref e0, m_36, .ref q0, .int v_760, .long v_761, .long v_762, m_41, m_42, m_43, m_44, m_45, m_46, m_47, m_48, m_49, m_50, m_51, m_52, m_53, m_54, m_55, m_56, m_57, m_58, m_59])), (w0, .inl (K 0, 5500, .inl fw)), (e0, .inl (K 2, 13, .inr (.inl f_625))), (q0, .inl (K 2, 400, .inr (.inl f_763)))]) [0, 1, 2, 3] (by decide) rfl
          exact W.lret (v := v_759) hx hb hr (fun t ht hW => ⟨⟨v_759, ((fun _ => 0, fun _ => fun _ => 0, fun i => match i with | 0 => f_625 | _ => f_763, fun i => match i with | 0 => x_595 | _ => v_760, fun i => match i with | 0 => v_761 | _ => v_762, fun _ => fun _ => none) : Su), rfl, ⟨(show 0 ≤ (v_760 : Int32).toInt ∧ (v_760 : Int32).toInt ≤ 1 by omega), trivial⟩, (⟨by rw [ht]; exact hP9, hD9⟩ : Wd D A _ t)⟩, hS.F ht⟩) hS.2.2 dX12_tells_221
        · have c_832i := i_nle (x := x_831.toInt) (y := v_758.toInt) rfl rfl c_832
          refine lv_aload_n hx hb dX12_tells_164 rfl (lv_at hl 2 rfl) ?_
          refine va_get (ci := 12) (v := .int x_595) (C := RX12) (T := TX12) (N := 60) hx hb hts hw12 hown hK hP 0 rfl rfl 34 (by decide) (hts (.fieldLink RX12 389 "SmokeTuneModel" "law" "I") (List.mem_cons_of_mem _ (List.mem_append_left _ (List.mem_append_left _ (List.mem_of_getElem? (i := 0) rfl))))) (fun _ h9 => h9) rfl dX12_tells_165 ?_
          refine lv_iconst (v := 2) hx hb dX12_tells_168 (by decide) ?_
          refine lv_iadd hx hb dX12_tells_169 ?_
          refine lv_topi (fun x_833 ex_833 => ?_)
          have hx_833 : x_833.toInt = ((100 + (900 * x.toInt)) + 2) := by rw [ex_833]; exact i_add hx_595 (show (2 : Int32).toInt = 2 from rfl) (by omega)
          refine lv_bipush (v := 8) hx hb dX12_tells_170 (by decide) ?_
          refine lv_iload hx hb dX12_tells_172 (lv_at hl 0 rfl) ?_
          refine lv_imul hx hb dX12_tells_174 ?_
          refine lv_topi (fun x_834 ex_834 => ?_)
          have hx_834 : x_834.toInt = (8 * v_758.toInt) := by rw [ex_834]; exact i_mul (show (8 : Int32).toInt = 8 from rfl) rfl (by omega)
          refine lv_iadd hx hb dX12_tells_175 ?_
          refine lv_topi (fun x_835 ex_835 => ?_)
          have hx_835 : x_835.toInt = (((100 + (900 * x.toInt)) + 2) + (8 * v_758.toInt)) := by rw [ex_835]; exact i_add hx_833 hx_834 (by omega)
          refine lv_istore (lv' := [(10, .int x_835), (9, .int v_758), (7, .long v_759), (0, .ref m0), (2, .int y)]) hx hb dX12_tells_176 hl (by decide) rfl (fun ls hl => ?_)
          refine lv_aload_n hx hb dX12_tells_178 rfl (lv_at hl 3 rfl) ?_
          refine va_get (ci := 12) (v := .ref w0) (C := RX12) (T := TX12) (N := 60) hx hb hts hw12 hown hK hP 0 rfl rfl 3 (by decide) (hts (.fieldLink RX12 13 "SmokeTuneModel" "row" "[I") (List.mem_cons_of_mem _ (List.mem_append_left _ (List.mem_append_left _ (List.mem_of_getElem? (i := 2) rfl))))) (fun _ h9 => h9) rfl dX12_tells_179 ?_
          refine lv_iload hx hb dX12_tells_182 (lv_at hl 0 rfl) ?_
          refine va_iald hx hb hK hP 1 0 rfl rfl (i_in hx_835 (by omega)) dX12_tells_184 ?_
          refine lv_topi (fun x_836 ex_836 => ?_)
          refine lv_iload_n hx hb dX12_tells_185 rfl (lv_at hl 4 rfl) ?_
          have j_850 : ∀ (v_844 : Int64) (v_845 : Int32) (v_846 : Int64) (v_847 : Int64) (f_848 : Nat → Int64) (hv_845 : 0 ≤ v_845.toInt ∧ v_845.toInt ≤ 1) (H : Heap) (locs : List Loc) (hP : va_P D vwCl [(m0, .inr (12, [m_0, m_1, m_2, .ref w0, m_4, m_5, m_6, m_7, m_8, m_9, m_10, m_11, m_12, m_13, m_14, m_15, m_16, m_17, m_18, m_19, .int 0, m_21, m_22, m_23, m_24, m_25, m_26, m_27, m_28, m_29, m_30, m_31, m_32, m_33, .int x_595, .ref e0, m_36, .ref q0, .int v_845, .long v_846, .long v_847, m_41, m_42, m_43, m_44, m_45, m_46, m_47, m_48, m_49, m_50, m_51, m_52, m_53, m_54, m_55, m_56, m_57, m_58, m_59])), (w0, .inl (K 0, 5500, .inl fw)), (e0, .inl (K 2, 13, .inr (.inl f_625))), (q0, .inl (K 2, 400, .inr (.inl f_848)))] H) (hD : va_D A [(m0, .inr (12, [m_0, m_1, m_2, .ref w0, m_4, m_5, m_6, m_7, m_8, m_9, m_10, m_11, m_12, m_13, m_14, m_15, m_16, m_17, m_18, m_19, .int 0, m_21, m_22, m_23, m_24, m_25, m_26, m_27, m_28, m_29, m_30, m_31, m_32, m_33, .int x_595, .ref e0, m_36, .ref q0, .int v_845, .long v_846, .long v_847, m_41, m_42, m_43, m_44, m_45, m_46, m_47, m_48, m_49, m_50, m_51, m_52, m_53, m_54, m_55, m_56, m_57, m_58, m_59])), (w0, .inl (K 0, 5500, .inl fw)), (e0, .inl (K 2, 13, .inr (.inl f_625))), (q0, .inl (K 2, 400, .inr (.inl f_848)))]) (hS : va_S A s.heap H locs) (ls : Array Slot) (hl : lv_has ls 11 [(9, .int v_758), (7, .long v_844), (0, .ref m0), (2, .int y)]), W p l e ({ frames := 3, cells := 0, slots := 0, locals := 72 }) s m (([.ref m0, .int x, .int y, .int z, .int w, .long v] : List Value).toArray) below meth c H locs 0 0 Q (F0 m 213 ls []) := by
            intro v_844 v_845 v_846 v_847 f_848 hv_845 H locs hP hD hS ls hl
            obtain ⟨x_851, ex_851⟩ : ∃ y : Int32, y = v_758 + Int32.ofInt 1 := ⟨_, rfl⟩
            have hx_851 : x_851.toInt = (v_758.toInt + 1) := by rw [ex_851]; exact i_add rfl (show (Int32.ofInt 1).toInt = 1 from rfl) (by omega)
            refine lv_iinc (v := x_851) (lv' := [(9, .int x_851), (7, .long v_844), (0, .ref m0), (2, .int y)]) hx hb dX12_tells_213 hl (k := 0) rfl (by rw [ex_851]) (by decide) rfl (fun ls hl => ?_)
            refine lv_goto (tgt := 148) hx hb dX12_tells_216 (by decide) ?_
            exact ih_829 x_851 v_844 v_845 v_846 v_847 f_848 (by rw [hx_851]; omega) (by omega) (by omega) _ _ hP hD hS ls (lv_sub hl [0, 1, 2, 3] rfl)
          refine lv_icmp_ne (tgt := 213) hx hb dX12_tells_186 (by decide) (fun c_852 => ?_) (fun c_852 => ?_)
          · have c_852i := i_ne (x := x_836.toInt) (y := y.toInt) rfl rfl c_852
            exact j_850 v_759 v_760 v_761 v_762 f_763 (by omega) _ _ hP hD hS ls (lv_sub hl [1, 2, 3, 4] rfl)
          · have c_852i := i_eq (x := x_836.toInt) (y := y.toInt) rfl rfl c_852
            refine lv_aload_n hx hb dX12_tells_189 rfl (lv_at hl 3 rfl) ?_
            refine lv_iload hx hb dX12_tells_190 (lv_at hl 0 rfl) ?_
            refine kci (S := Su) (wr := []) (va_runV (As := [.int x_835]) (rest := []) ⟨hx, hb, hml, hown, hts⟩ (v_isSo l D K bb ((v_758.toInt).toNat) m0 x_835 m_0 m_1 m_2 w0 m_4 m_5 m_6 m_7 m_8 m_9 m_10 m_11 m_12 m_13 m_14 m_15 m_16 m_17 m_18 m_19 m_21 m_22 m_23 m_24 m_25 m_26 m_27 m_28 m_29 m_30 m_31 m_32 m_33 x_595 e0 m_36 q0 v_760 v_761 v_762 m_41 m_42 m_43 m_44 m_45 m_46 m_47 m_48 m_49 m_50 m_51 m_52 m_53 m_54 m_55 m_56 m_57 m_58 m_59 fw f_625 f_763 H.size (by first | omega | decide) (by first | omega | decide) (by omega) hlaw (by first | omega | decide) (by rw [← ox_831]; omega) (by omega) zfw) (cwV 1 hts gX12_tells_X12_isSo rfl rfl rfl (by decide +kernel) ⟨Nat.le_of_ble_eq_true rfl, Nat.le_of_ble_eq_true rfl⟩) (mkV hK hN (hP.sub [0, 1, 2, 3] rfl) (hD.sub [0, 1, 2, 3] (by decide) rfl) (ci := 12) (q0 := 0) rfl rfl) rfl rfl hl.1 rfl (lv_room (Nat.le_of_ble_eq_true rfl)) dX12_tells_192 ⟨Nat.le_of_ble_eq_true rfl, Nat.le_of_ble_eq_true rfl⟩) hP hD hS hA [0, 1, 2, 3] [] rfl rfl (by decide) (by decide) (fun r_853 u_854 H locs hw hP hD hS => ?_)
            have hP : va_P D vwCl [(m0, .inr (12, [m_0, m_1, m_2, .ref w0, m_4, m_5, m_6, m_7, m_8, m_9, m_10, m_11, m_12, m_13, m_14, m_15, m_16, m_17, m_18, m_19, .int 0, m_21, m_22, m_23, m_24, m_25, m_26, m_27, m_28, m_29, m_30, m_31, m_32, m_33, .int x_595, .ref e0, m_36, .ref q0, .int (u_854.2.2.2.1 0), .long (u_854.2.2.2.2.1 0), .long (u_854.2.2.2.2.1 1), m_41, m_42, m_43, m_44, m_45, m_46, m_47, m_48, m_49, m_50, m_51, m_52, m_53, m_54, m_55, m_56, m_57, m_58, m_59])), (w0, .inl (K 0, 5500, .inl fw)), (e0, .inl (K 2, 13, .inr (.inl f_625))), (q0, .inl (K 2, 400, .inr (.inl (u_854.2.2.1 0))))] H := hP
            have hD : va_D A [(m0, .inr (12, [m_0, m_1, m_2, .ref w0, m_4, m_5, m_6, m_7, m_8, m_9, m_10, m_11, m_12, m_13, m_14, m_15, m_16, m_17, m_18, m_19, .int 0, m_21, m_22, m_23, m_24, m_25, m_26, m_27, m_28, m_29, m_30, m_31, m_32, m_33, .int x_595, .ref e0, m_36, .ref q0, .int (u_854.2.2.2.1 0), .long (u_854.2.2.2.2.1 0), .long (u_854.2.2.2.2.1 1), m_41, m_42, m_43, m_44, m_45, m_46, m_47, m_48, m_49, m_50, m_51, m_52, m_53, m_54, m_55, m_56, m_57, m_58, m_59])), (w0, .inl (K 0, 5500, .inl fw)), (e0, .inl (K 2, 13, .inr (.inl f_625))), (q0, .inl (K 2, 400, .inr (.inl (u_854.2.2.1 0))))] := hD
            obtain ⟨h_856, k_855, -⟩ := hw
            refine lv_if_eq (tgt := 213) hx hb dX12_tells_195 (by decide) (fun c_857 => ?_) (fun c_857 => ?_)
            · have c_857i := i_eq (x := r_853.toInt) (y := 0) rfl rfl c_857
              exact j_850 v_759 (u_854.2.2.2.1 0) (u_854.2.2.2.2.1 0) (u_854.2.2.2.2.1 1) (u_854.2.2.1 0) (by omega) _ _ hP hD hS ls (lv_sub hl [1, 2, 3, 4] rfl)
            · have c_857i := i_ne (x := r_853.toInt) (y := 0) rfl rfl c_857
              refine lv_iload_n hx hb dX12_tells_198 rfl (lv_at hl 4 rfl) ?_
              refine lv_iconst (v := 3) hx hb dX12_tells_199 (by decide) ?_
              refine lv_icmp_ne (tgt := 207) hx hb dX12_tells_200 (by decide) (fun c_858 => ?_) (fun c_858 => ?_)
              · have c_858i := i_ne (x := y.toInt) (y := 3) rfl rfl c_858
                refine lv_aload_n hx hb dX12_tells_207 rfl (lv_at hl 3 rfl) ?_
                refine va_get (ci := 12) (v := .long (u_854.2.2.2.2.1 1)) (C := RX12) (T := TX12) (N := 60) hx hb hts hw12 hown hK hP 0 rfl rfl 40 (by decide) (hts (.fieldLink RX12 409 "SmokeTuneModel" "sum" "J") (List.mem_cons_of_mem _ (List.mem_append_left _ (List.mem_append_left _ (List.mem_of_getElem? (i := 3) rfl))))) (fun _ h9 => h9) rfl dX12_tells_208 ?_
                refine lv_lstore (lv' := [(7, .long (u_854.2.2.2.2.1 1)), (10, .int x_835), (9, .int v_758), (0, .ref m0), (2, .int y)]) hx hb dX12_tells_211 hl (by decide) rfl (fun ls hl => ?_)
                exact j_850 (u_854.2.2.2.2.1 1) (u_854.2.2.2.1 0) (u_854.2.2.2.2.1 0) (u_854.2.2.2.2.1 1) (u_854.2.2.1 0) (by omega) _ _ hP hD hS ls (lv_sub hl [2, 0, 3, 4] rfl)
              · have c_858i := i_eq (x := y.toInt) (y := 3) rfl rfl c_858
                refine lv_lconst (v := 1) hx hb dX12_tells_203 (by decide) ?_
                refine lv_goto (tgt := 211) hx hb dX12_tells_204 (by decide) ?_
                refine lv_lstore (lv' := [(7, .long 1), (10, .int x_835), (9, .int v_758), (0, .ref m0), (2, .int y)]) hx hb dX12_tells_211 hl (by decide) rfl (fun ls hl => ?_)
                exact j_850 1 (u_854.2.2.2.1 0) (u_854.2.2.2.2.1 0) (u_854.2.2.2.2.1 1) (u_854.2.2.1 0) (by omega) _ _ hP hD hS ls (lv_sub hl [2, 0, 3, 4] rfl)
    exact lp_828 ((13 - (0 : Int32).toInt : Int).toNat + 1) 0 v bro val sm frs (by decide) (by omega) (Nat.lt_succ_self _) _ _ hP hD hS ls (lv_sub hl [0, 1, 2, 4] rfl)
  · have c_593i := i_eq (x := x.toInt) (y := (-1)) rfl rfl c_593
    refine lv_lload hx hb dX12_tells_5 (lv_at hl 5 rfl) ?_
    rw [← hQ]
    have hP9 := hP.sub (ws' := [(m0, .inr (12, [m_0, m_1, m_2, .ref w0, m_4, m_5, m_6, m_7, m_8, m_9, m_10, m_11, m_12, m_13, m_14, m_15, m_16, m_17, m_18, m_19, .int 0, m_21, m_22, m_23, m_24, m_25, m_26, m_27, m_28, m_29, m_30, m_31, m_32, m_33, .int lw, .ref e0, m_36, .ref q0, .int bro, .long val, .long sm, m_41, m_42, m_43, m_44, m_45, m_46, m_47, m_48, m_49, m_50, m_51, m_52, m_53, m_54, m_55, m_56, m_57, m_58, m_59])), (w0, .inl (K 0, 5500, .inl fw)), (e0, .inl (K 2, 13, .inr (.inl fe))), (q0, .inl (K 2, 400, .inr (.inl frs)))]) [0, 1, 2, 3] rfl
    have hD9 := hD.sub (ws' := [(m0, .inr (12, [m_0, m_1, m_2, .ref w0, m_4, m_5, m_6, m_7, m_8, m_9, m_10, m_11, m_12, m_13, m_14, m_15, m_16, m_17, m_18, m_19, .int 0, m_21, m_22, m_23, m_24, m_25, m_26, m_27, m_28, m_29, m_30, m_31, m_32, m_33, .int lw, .ref e0, m_36, .ref q0, .int bro, .long val, .long sm, m_41, m_42, m_43, m_44, m_45, m_46, m_47, m_48, m_49, m_50, m_51, m_52, m_53, m_54, m_55, m_56, m_57, m_58, m_59])), (w0, .inl (K 0, 5500, .inl fw)), (e0, .inl (K 2, 13, .inr (.inl fe))), (q0, .inl (K 2, 400, .inr (.inl frs)))]) [0, 1, 2, 3] (by decide) rfl
    exact W.lret (v := v) hx hb hr (fun t ht hW => ⟨⟨v, ((fun _ => 0, fun _ => fun _ => 0, fun i => match i with | 0 => fe | _ => frs, fun i => match i with | 0 => lw | _ => bro, fun i => match i with | 0 => val | _ => sm, fun _ => fun _ => none) : Su), rfl, ⟨(show 0 ≤ (bro : Int32).toInt ∧ (bro : Int32).toInt ≤ 1 by omega), trivial⟩, (⟨by rw [ht]; exact hP9, hD9⟩ : Wd D A _ t)⟩, hS.F ht⟩) hS.2.2 dX12_tells_7
