section
theorem dL_law_33 : decode cL_law 33 = .ok (.tableswitch 1077 0 35 #[159, 222, 255, 288, 311, 344, 407, 430, 443, 456, 469, 482, 495, 508, 531, 544, 567, 590, 623, 656, 669, 682, 735, 758, 791, 814, 827, 850, 873, 896, 929, 962, 995, 1018, 1041, 1064], 159) := by decide +kernel
theorem BL_law_0 : bsegs (ByteArray.data cL_law |>.toList.drop 0) 0 [(0, [187, 0, 7]), (3, [89]), (4, [183, 0, 9]), (7, [76]), (8, [187, 0, 10]), (11, [89]), (12, [183, 0, 12]), (15, [77]), (16, [3]), (17, [62]), (18, [29]), (19, [42]), (20, [190]), (21, [16, 6]), (23, [100]), (24, [163, 4, 68]), (27, [42]), (28, [29]), (29, [46]), (30, [16, 63]), (32, [126]), (192, [43]), (193, [42]), (194, [29])] = true := by decide +kernel
theorem dL_law_0 : decode cL_law 0 = .ok (.new 7, 3) := dk_187 0 7 (bs_at BL_law_0 0 rfl) rfl
theorem dL_law_3 : decode cL_law 3 = .ok (.dup, 1) := dk_89 (bs_at BL_law_0 1 rfl)
theorem dL_law_4 : decode cL_law 4 = .ok (.invokespecial 9, 3) := dk_183 0 9 (bs_at BL_law_0 2 rfl) rfl
theorem dL_law_7 : decode cL_law 7 = .ok (.astore_n 1, 1) := dk_76 (bs_at BL_law_0 3 rfl)
theorem dL_law_8 : decode cL_law 8 = .ok (.new 10, 3) := dk_187 0 10 (bs_at BL_law_0 4 rfl) rfl
theorem dL_law_11 : decode cL_law 11 = .ok (.dup, 1) := dk_89 (bs_at BL_law_0 5 rfl)
theorem dL_law_12 : decode cL_law 12 = .ok (.invokespecial 12, 3) := dk_183 0 12 (bs_at BL_law_0 6 rfl) rfl
theorem dL_law_15 : decode cL_law 15 = .ok (.astore_n 2, 1) := dk_77 (bs_at BL_law_0 7 rfl)
theorem dL_law_16 : decode cL_law 16 = .ok (.iconst 0, 1) := dk_3 (bs_at BL_law_0 8 rfl)
theorem dL_law_17 : decode cL_law 17 = .ok (.istore_n 3, 1) := dk_62 (bs_at BL_law_0 9 rfl)
theorem dL_law_18 : decode cL_law 18 = .ok (.iload_n 3, 1) := dk_29 (bs_at BL_law_0 10 rfl)
theorem dL_law_19 : decode cL_law 19 = .ok (.aload_n 0, 1) := dk_42 (bs_at BL_law_0 11 rfl)
theorem dL_law_20 : decode cL_law 20 = .ok (.arraylength, 1) := dk_190 (bs_at BL_law_0 12 rfl)
theorem dL_law_21 : decode cL_law 21 = .ok (.bipush 6, 2) := dk_16 6 (bs_at BL_law_0 13 rfl) rfl
theorem dL_law_23 : decode cL_law 23 = .ok (.isub, 1) := dk_100 (bs_at BL_law_0 14 rfl)
theorem dL_law_24 : decode cL_law 24 = .ok (.if_icmp .gt 1092, 3) := dk_163 4 68 (bs_at BL_law_0 15 rfl) rfl
theorem dL_law_27 : decode cL_law 27 = .ok (.aload_n 0, 1) := dk_42 (bs_at BL_law_0 16 rfl)
theorem dL_law_28 : decode cL_law 28 = .ok (.iload_n 3, 1) := dk_29 (bs_at BL_law_0 17 rfl)
theorem dL_law_29 : decode cL_law 29 = .ok (.iaload, 1) := dk_46 (bs_at BL_law_0 18 rfl)
theorem dL_law_30 : decode cL_law 30 = .ok (.bipush 63, 2) := dk_16 63 (bs_at BL_law_0 19 rfl) rfl
theorem dL_law_32 : decode cL_law 32 = .ok (.iand, 1) := dk_126 (bs_at BL_law_0 20 rfl)
theorem dL_law_192 : decode cL_law 192 = .ok (.aload_n 1, 1) := dk_43 (bs_at BL_law_0 21 rfl)
theorem dL_law_193 : decode cL_law 193 = .ok (.aload_n 0, 1) := dk_42 (bs_at BL_law_0 22 rfl)
theorem dL_law_194 : decode cL_law 194 = .ok (.iload_n 3, 1) := dk_29 (bs_at BL_law_0 23 rfl)
theorem BL_law_195 : bsegs (ByteArray.data cL_law |>.toList.drop 195) 195 [(195, [4]), (196, [96]), (197, [46]), (198, [42]), (199, [29]), (200, [5]), (201, [96]), (202, [46]), (203, [42]), (204, [29]), (205, [6]), (206, [96]), (207, [46]), (208, [42]), (209, [29]), (210, [7]), (211, [96]), (212, [46]), (213, [42]), (214, [29]), (215, [8]), (216, [96]), (217, [46]), (218, [182, 0, 13])] = true := by decide +kernel
theorem dL_law_195 : decode cL_law 195 = .ok (.iconst 1, 1) := dk_4 (bs_at BL_law_195 0 rfl)
theorem dL_law_196 : decode cL_law 196 = .ok (.iadd, 1) := dk_96 (bs_at BL_law_195 1 rfl)
theorem dL_law_197 : decode cL_law 197 = .ok (.iaload, 1) := dk_46 (bs_at BL_law_195 2 rfl)
theorem dL_law_198 : decode cL_law 198 = .ok (.aload_n 0, 1) := dk_42 (bs_at BL_law_195 3 rfl)
theorem dL_law_199 : decode cL_law 199 = .ok (.iload_n 3, 1) := dk_29 (bs_at BL_law_195 4 rfl)
theorem dL_law_200 : decode cL_law 200 = .ok (.iconst 2, 1) := dk_5 (bs_at BL_law_195 5 rfl)
theorem dL_law_201 : decode cL_law 201 = .ok (.iadd, 1) := dk_96 (bs_at BL_law_195 6 rfl)
theorem dL_law_202 : decode cL_law 202 = .ok (.iaload, 1) := dk_46 (bs_at BL_law_195 7 rfl)
theorem dL_law_203 : decode cL_law 203 = .ok (.aload_n 0, 1) := dk_42 (bs_at BL_law_195 8 rfl)
theorem dL_law_204 : decode cL_law 204 = .ok (.iload_n 3, 1) := dk_29 (bs_at BL_law_195 9 rfl)
theorem dL_law_205 : decode cL_law 205 = .ok (.iconst 3, 1) := dk_6 (bs_at BL_law_195 10 rfl)
theorem dL_law_206 : decode cL_law 206 = .ok (.iadd, 1) := dk_96 (bs_at BL_law_195 11 rfl)
theorem dL_law_207 : decode cL_law 207 = .ok (.iaload, 1) := dk_46 (bs_at BL_law_195 12 rfl)
theorem dL_law_208 : decode cL_law 208 = .ok (.aload_n 0, 1) := dk_42 (bs_at BL_law_195 13 rfl)
theorem dL_law_209 : decode cL_law 209 = .ok (.iload_n 3, 1) := dk_29 (bs_at BL_law_195 14 rfl)
theorem dL_law_210 : decode cL_law 210 = .ok (.iconst 4, 1) := dk_7 (bs_at BL_law_195 15 rfl)
theorem dL_law_211 : decode cL_law 211 = .ok (.iadd, 1) := dk_96 (bs_at BL_law_195 16 rfl)
theorem dL_law_212 : decode cL_law 212 = .ok (.iaload, 1) := dk_46 (bs_at BL_law_195 17 rfl)
theorem dL_law_213 : decode cL_law 213 = .ok (.aload_n 0, 1) := dk_42 (bs_at BL_law_195 18 rfl)
theorem dL_law_214 : decode cL_law 214 = .ok (.iload_n 3, 1) := dk_29 (bs_at BL_law_195 19 rfl)
theorem dL_law_215 : decode cL_law 215 = .ok (.iconst 5, 1) := dk_8 (bs_at BL_law_195 20 rfl)
theorem dL_law_216 : decode cL_law 216 = .ok (.iadd, 1) := dk_96 (bs_at BL_law_195 21 rfl)
theorem dL_law_217 : decode cL_law 217 = .ok (.iaload, 1) := dk_46 (bs_at BL_law_195 22 rfl)
theorem dL_law_218 : decode cL_law 218 = .ok (.invokevirtual 13, 3) := dk_182 0 13 (bs_at BL_law_195 23 rfl) rfl
theorem BL_law_221 : bsegs (ByteArray.data cL_law |>.toList.drop 221) 221 [(221, [87]), (222, [44]), (223, [42]), (224, [29]), (225, [4]), (226, [96]), (227, [46]), (228, [42]), (229, [29]), (230, [5]), (231, [96]), (232, [46]), (233, [42]), (234, [29]), (235, [6]), (236, [96]), (237, [46]), (238, [42]), (239, [29]), (240, [7]), (241, [96]), (242, [46]), (243, [42]), (244, [29])] = true := by decide +kernel
theorem dL_law_221 : decode cL_law 221 = .ok (.pop, 1) := dk_87 (bs_at BL_law_221 0 rfl)
theorem dL_law_222 : decode cL_law 222 = .ok (.aload_n 2, 1) := dk_44 (bs_at BL_law_221 1 rfl)
theorem dL_law_223 : decode cL_law 223 = .ok (.aload_n 0, 1) := dk_42 (bs_at BL_law_221 2 rfl)
theorem dL_law_224 : decode cL_law 224 = .ok (.iload_n 3, 1) := dk_29 (bs_at BL_law_221 3 rfl)
theorem dL_law_225 : decode cL_law 225 = .ok (.iconst 1, 1) := dk_4 (bs_at BL_law_221 4 rfl)
theorem dL_law_226 : decode cL_law 226 = .ok (.iadd, 1) := dk_96 (bs_at BL_law_221 5 rfl)
theorem dL_law_227 : decode cL_law 227 = .ok (.iaload, 1) := dk_46 (bs_at BL_law_221 6 rfl)
theorem dL_law_228 : decode cL_law 228 = .ok (.aload_n 0, 1) := dk_42 (bs_at BL_law_221 7 rfl)
theorem dL_law_229 : decode cL_law 229 = .ok (.iload_n 3, 1) := dk_29 (bs_at BL_law_221 8 rfl)
theorem dL_law_230 : decode cL_law 230 = .ok (.iconst 2, 1) := dk_5 (bs_at BL_law_221 9 rfl)
theorem dL_law_231 : decode cL_law 231 = .ok (.iadd, 1) := dk_96 (bs_at BL_law_221 10 rfl)
theorem dL_law_232 : decode cL_law 232 = .ok (.iaload, 1) := dk_46 (bs_at BL_law_221 11 rfl)
theorem dL_law_233 : decode cL_law 233 = .ok (.aload_n 0, 1) := dk_42 (bs_at BL_law_221 12 rfl)
theorem dL_law_234 : decode cL_law 234 = .ok (.iload_n 3, 1) := dk_29 (bs_at BL_law_221 13 rfl)
theorem dL_law_235 : decode cL_law 235 = .ok (.iconst 3, 1) := dk_6 (bs_at BL_law_221 14 rfl)
theorem dL_law_236 : decode cL_law 236 = .ok (.iadd, 1) := dk_96 (bs_at BL_law_221 15 rfl)
theorem dL_law_237 : decode cL_law 237 = .ok (.iaload, 1) := dk_46 (bs_at BL_law_221 16 rfl)
theorem dL_law_238 : decode cL_law 238 = .ok (.aload_n 0, 1) := dk_42 (bs_at BL_law_221 17 rfl)
theorem dL_law_239 : decode cL_law 239 = .ok (.iload_n 3, 1) := dk_29 (bs_at BL_law_221 18 rfl)
theorem dL_law_240 : decode cL_law 240 = .ok (.iconst 4, 1) := dk_7 (bs_at BL_law_221 19 rfl)
theorem dL_law_241 : decode cL_law 241 = .ok (.iadd, 1) := dk_96 (bs_at BL_law_221 20 rfl)
theorem dL_law_242 : decode cL_law 242 = .ok (.iaload, 1) := dk_46 (bs_at BL_law_221 21 rfl)
theorem dL_law_243 : decode cL_law 243 = .ok (.aload_n 0, 1) := dk_42 (bs_at BL_law_221 22 rfl)
theorem dL_law_244 : decode cL_law 244 = .ok (.iload_n 3, 1) := dk_29 (bs_at BL_law_221 23 rfl)
theorem BL_law_245 : bsegs (ByteArray.data cL_law |>.toList.drop 245) 245 [(245, [8]), (246, [96]), (247, [46]), (248, [182, 0, 17]), (251, [87]), (252, [167, 3, 90]), (255, [43]), (256, [42]), (257, [29]), (258, [4]), (259, [96]), (260, [46]), (261, [42]), (262, [29]), (263, [5]), (264, [96]), (265, [46]), (266, [182, 0, 18]), (269, [87]), (270, [44]), (271, [42]), (272, [29]), (273, [4]), (274, [96])] = true := by decide +kernel
theorem dL_law_245 : decode cL_law 245 = .ok (.iconst 5, 1) := dk_8 (bs_at BL_law_245 0 rfl)
theorem dL_law_246 : decode cL_law 246 = .ok (.iadd, 1) := dk_96 (bs_at BL_law_245 1 rfl)
theorem dL_law_247 : decode cL_law 247 = .ok (.iaload, 1) := dk_46 (bs_at BL_law_245 2 rfl)
theorem dL_law_248 : decode cL_law 248 = .ok (.invokevirtual 17, 3) := dk_182 0 17 (bs_at BL_law_245 3 rfl) rfl
theorem dL_law_251 : decode cL_law 251 = .ok (.pop, 1) := dk_87 (bs_at BL_law_245 4 rfl)
theorem dL_law_252 : decode cL_law 252 = .ok (.goto 858, 3) := dk_167 3 90 (bs_at BL_law_245 5 rfl) rfl
theorem dL_law_255 : decode cL_law 255 = .ok (.aload_n 1, 1) := dk_43 (bs_at BL_law_245 6 rfl)
theorem dL_law_256 : decode cL_law 256 = .ok (.aload_n 0, 1) := dk_42 (bs_at BL_law_245 7 rfl)
theorem dL_law_257 : decode cL_law 257 = .ok (.iload_n 3, 1) := dk_29 (bs_at BL_law_245 8 rfl)
theorem dL_law_258 : decode cL_law 258 = .ok (.iconst 1, 1) := dk_4 (bs_at BL_law_245 9 rfl)
theorem dL_law_259 : decode cL_law 259 = .ok (.iadd, 1) := dk_96 (bs_at BL_law_245 10 rfl)
theorem dL_law_260 : decode cL_law 260 = .ok (.iaload, 1) := dk_46 (bs_at BL_law_245 11 rfl)
theorem dL_law_261 : decode cL_law 261 = .ok (.aload_n 0, 1) := dk_42 (bs_at BL_law_245 12 rfl)
theorem dL_law_262 : decode cL_law 262 = .ok (.iload_n 3, 1) := dk_29 (bs_at BL_law_245 13 rfl)
theorem dL_law_263 : decode cL_law 263 = .ok (.iconst 2, 1) := dk_5 (bs_at BL_law_245 14 rfl)
theorem dL_law_264 : decode cL_law 264 = .ok (.iadd, 1) := dk_96 (bs_at BL_law_245 15 rfl)
theorem dL_law_265 : decode cL_law 265 = .ok (.iaload, 1) := dk_46 (bs_at BL_law_245 16 rfl)
theorem dL_law_266 : decode cL_law 266 = .ok (.invokevirtual 18, 3) := dk_182 0 18 (bs_at BL_law_245 17 rfl) rfl
theorem dL_law_269 : decode cL_law 269 = .ok (.pop, 1) := dk_87 (bs_at BL_law_245 18 rfl)
theorem dL_law_270 : decode cL_law 270 = .ok (.aload_n 2, 1) := dk_44 (bs_at BL_law_245 19 rfl)
theorem dL_law_271 : decode cL_law 271 = .ok (.aload_n 0, 1) := dk_42 (bs_at BL_law_245 20 rfl)
theorem dL_law_272 : decode cL_law 272 = .ok (.iload_n 3, 1) := dk_29 (bs_at BL_law_245 21 rfl)
theorem dL_law_273 : decode cL_law 273 = .ok (.iconst 1, 1) := dk_4 (bs_at BL_law_245 22 rfl)
theorem dL_law_274 : decode cL_law 274 = .ok (.iadd, 1) := dk_96 (bs_at BL_law_245 23 rfl)
theorem BL_law_275 : bsegs (ByteArray.data cL_law |>.toList.drop 275) 275 [(275, [46]), (276, [42]), (277, [29]), (278, [5]), (279, [96]), (280, [46]), (281, [182, 0, 22]), (284, [87]), (285, [167, 3, 57]), (288, [43]), (289, [42]), (290, [29]), (291, [4]), (292, [96]), (293, [46]), (294, [42]), (295, [29]), (296, [5]), (297, [96]), (298, [46]), (299, [182, 0, 23]), (302, [87]), (303, [44]), (304, [42])] = true := by decide +kernel
theorem dL_law_275 : decode cL_law 275 = .ok (.iaload, 1) := dk_46 (bs_at BL_law_275 0 rfl)
theorem dL_law_276 : decode cL_law 276 = .ok (.aload_n 0, 1) := dk_42 (bs_at BL_law_275 1 rfl)
theorem dL_law_277 : decode cL_law 277 = .ok (.iload_n 3, 1) := dk_29 (bs_at BL_law_275 2 rfl)
theorem dL_law_278 : decode cL_law 278 = .ok (.iconst 2, 1) := dk_5 (bs_at BL_law_275 3 rfl)
theorem dL_law_279 : decode cL_law 279 = .ok (.iadd, 1) := dk_96 (bs_at BL_law_275 4 rfl)
theorem dL_law_280 : decode cL_law 280 = .ok (.iaload, 1) := dk_46 (bs_at BL_law_275 5 rfl)
theorem dL_law_281 : decode cL_law 281 = .ok (.invokevirtual 22, 3) := dk_182 0 22 (bs_at BL_law_275 6 rfl) rfl
theorem dL_law_284 : decode cL_law 284 = .ok (.pop, 1) := dk_87 (bs_at BL_law_275 7 rfl)
theorem dL_law_285 : decode cL_law 285 = .ok (.goto 825, 3) := dk_167 3 57 (bs_at BL_law_275 8 rfl) rfl
theorem dL_law_288 : decode cL_law 288 = .ok (.aload_n 1, 1) := dk_43 (bs_at BL_law_275 9 rfl)
theorem dL_law_289 : decode cL_law 289 = .ok (.aload_n 0, 1) := dk_42 (bs_at BL_law_275 10 rfl)
theorem dL_law_290 : decode cL_law 290 = .ok (.iload_n 3, 1) := dk_29 (bs_at BL_law_275 11 rfl)
theorem dL_law_291 : decode cL_law 291 = .ok (.iconst 1, 1) := dk_4 (bs_at BL_law_275 12 rfl)
theorem dL_law_292 : decode cL_law 292 = .ok (.iadd, 1) := dk_96 (bs_at BL_law_275 13 rfl)
theorem dL_law_293 : decode cL_law 293 = .ok (.iaload, 1) := dk_46 (bs_at BL_law_275 14 rfl)
theorem dL_law_294 : decode cL_law 294 = .ok (.aload_n 0, 1) := dk_42 (bs_at BL_law_275 15 rfl)
theorem dL_law_295 : decode cL_law 295 = .ok (.iload_n 3, 1) := dk_29 (bs_at BL_law_275 16 rfl)
theorem dL_law_296 : decode cL_law 296 = .ok (.iconst 2, 1) := dk_5 (bs_at BL_law_275 17 rfl)
theorem dL_law_297 : decode cL_law 297 = .ok (.iadd, 1) := dk_96 (bs_at BL_law_275 18 rfl)
theorem dL_law_298 : decode cL_law 298 = .ok (.iaload, 1) := dk_46 (bs_at BL_law_275 19 rfl)
theorem dL_law_299 : decode cL_law 299 = .ok (.invokevirtual 23, 3) := dk_182 0 23 (bs_at BL_law_275 20 rfl) rfl
theorem dL_law_302 : decode cL_law 302 = .ok (.pop, 1) := dk_87 (bs_at BL_law_275 21 rfl)
theorem dL_law_303 : decode cL_law 303 = .ok (.aload_n 2, 1) := dk_44 (bs_at BL_law_275 22 rfl)
theorem dL_law_304 : decode cL_law 304 = .ok (.aload_n 0, 1) := dk_42 (bs_at BL_law_275 23 rfl)
theorem BL_law_305 : bsegs (ByteArray.data cL_law |>.toList.drop 305) 305 [(305, [29]), (306, [4]), (307, [96]), (308, [46]), (309, [42]), (310, [29]), (311, [5]), (312, [96]), (313, [46]), (314, [182, 0, 26]), (317, [87]), (318, [167, 3, 24]), (321, [43]), (322, [42]), (323, [29]), (324, [4]), (325, [96]), (326, [46]), (327, [182, 0, 27]), (330, [87]), (331, [44]), (332, [42]), (333, [29]), (334, [4])] = true := by decide +kernel
theorem dL_law_305 : decode cL_law 305 = .ok (.iload_n 3, 1) := dk_29 (bs_at BL_law_305 0 rfl)
theorem dL_law_306 : decode cL_law 306 = .ok (.iconst 1, 1) := dk_4 (bs_at BL_law_305 1 rfl)
theorem dL_law_307 : decode cL_law 307 = .ok (.iadd, 1) := dk_96 (bs_at BL_law_305 2 rfl)
theorem dL_law_308 : decode cL_law 308 = .ok (.iaload, 1) := dk_46 (bs_at BL_law_305 3 rfl)
theorem dL_law_309 : decode cL_law 309 = .ok (.aload_n 0, 1) := dk_42 (bs_at BL_law_305 4 rfl)
theorem dL_law_310 : decode cL_law 310 = .ok (.iload_n 3, 1) := dk_29 (bs_at BL_law_305 5 rfl)
theorem dL_law_311 : decode cL_law 311 = .ok (.iconst 2, 1) := dk_5 (bs_at BL_law_305 6 rfl)
theorem dL_law_312 : decode cL_law 312 = .ok (.iadd, 1) := dk_96 (bs_at BL_law_305 7 rfl)
theorem dL_law_313 : decode cL_law 313 = .ok (.iaload, 1) := dk_46 (bs_at BL_law_305 8 rfl)
theorem dL_law_314 : decode cL_law 314 = .ok (.invokevirtual 26, 3) := dk_182 0 26 (bs_at BL_law_305 9 rfl) rfl
theorem dL_law_317 : decode cL_law 317 = .ok (.pop, 1) := dk_87 (bs_at BL_law_305 10 rfl)
theorem dL_law_318 : decode cL_law 318 = .ok (.goto 792, 3) := dk_167 3 24 (bs_at BL_law_305 11 rfl) rfl
theorem dL_law_321 : decode cL_law 321 = .ok (.aload_n 1, 1) := dk_43 (bs_at BL_law_305 12 rfl)
theorem dL_law_322 : decode cL_law 322 = .ok (.aload_n 0, 1) := dk_42 (bs_at BL_law_305 13 rfl)
theorem dL_law_323 : decode cL_law 323 = .ok (.iload_n 3, 1) := dk_29 (bs_at BL_law_305 14 rfl)
theorem dL_law_324 : decode cL_law 324 = .ok (.iconst 1, 1) := dk_4 (bs_at BL_law_305 15 rfl)
theorem dL_law_325 : decode cL_law 325 = .ok (.iadd, 1) := dk_96 (bs_at BL_law_305 16 rfl)
theorem dL_law_326 : decode cL_law 326 = .ok (.iaload, 1) := dk_46 (bs_at BL_law_305 17 rfl)
theorem dL_law_327 : decode cL_law 327 = .ok (.invokevirtual 27, 3) := dk_182 0 27 (bs_at BL_law_305 18 rfl) rfl
theorem dL_law_330 : decode cL_law 330 = .ok (.pop, 1) := dk_87 (bs_at BL_law_305 19 rfl)
theorem dL_law_331 : decode cL_law 331 = .ok (.aload_n 2, 1) := dk_44 (bs_at BL_law_305 20 rfl)
theorem dL_law_332 : decode cL_law 332 = .ok (.aload_n 0, 1) := dk_42 (bs_at BL_law_305 21 rfl)
theorem dL_law_333 : decode cL_law 333 = .ok (.iload_n 3, 1) := dk_29 (bs_at BL_law_305 22 rfl)
theorem dL_law_334 : decode cL_law 334 = .ok (.iconst 1, 1) := dk_4 (bs_at BL_law_305 23 rfl)
theorem BL_law_335 : bsegs (ByteArray.data cL_law |>.toList.drop 335) 335 [(335, [96]), (336, [46]), (337, [182, 0, 31]), (340, [87]), (341, [167, 3, 1]), (344, [43]), (345, [42]), (346, [29]), (347, [4]), (348, [96]), (349, [46]), (350, [42]), (351, [29]), (352, [5]), (353, [96]), (354, [46]), (355, [182, 0, 32]), (358, [87]), (359, [44]), (360, [42]), (361, [29]), (362, [4]), (363, [96]), (364, [46])] = true := by decide +kernel
theorem dL_law_335 : decode cL_law 335 = .ok (.iadd, 1) := dk_96 (bs_at BL_law_335 0 rfl)
theorem dL_law_336 : decode cL_law 336 = .ok (.iaload, 1) := dk_46 (bs_at BL_law_335 1 rfl)
theorem dL_law_337 : decode cL_law 337 = .ok (.invokevirtual 31, 3) := dk_182 0 31 (bs_at BL_law_335 2 rfl) rfl
theorem dL_law_340 : decode cL_law 340 = .ok (.pop, 1) := dk_87 (bs_at BL_law_335 3 rfl)
theorem dL_law_341 : decode cL_law 341 = .ok (.goto 769, 3) := dk_167 3 1 (bs_at BL_law_335 4 rfl) rfl
theorem dL_law_344 : decode cL_law 344 = .ok (.aload_n 1, 1) := dk_43 (bs_at BL_law_335 5 rfl)
theorem dL_law_345 : decode cL_law 345 = .ok (.aload_n 0, 1) := dk_42 (bs_at BL_law_335 6 rfl)
theorem dL_law_346 : decode cL_law 346 = .ok (.iload_n 3, 1) := dk_29 (bs_at BL_law_335 7 rfl)
theorem dL_law_347 : decode cL_law 347 = .ok (.iconst 1, 1) := dk_4 (bs_at BL_law_335 8 rfl)
theorem dL_law_348 : decode cL_law 348 = .ok (.iadd, 1) := dk_96 (bs_at BL_law_335 9 rfl)
theorem dL_law_349 : decode cL_law 349 = .ok (.iaload, 1) := dk_46 (bs_at BL_law_335 10 rfl)
theorem dL_law_350 : decode cL_law 350 = .ok (.aload_n 0, 1) := dk_42 (bs_at BL_law_335 11 rfl)
theorem dL_law_351 : decode cL_law 351 = .ok (.iload_n 3, 1) := dk_29 (bs_at BL_law_335 12 rfl)
theorem dL_law_352 : decode cL_law 352 = .ok (.iconst 2, 1) := dk_5 (bs_at BL_law_335 13 rfl)
theorem dL_law_353 : decode cL_law 353 = .ok (.iadd, 1) := dk_96 (bs_at BL_law_335 14 rfl)
theorem dL_law_354 : decode cL_law 354 = .ok (.iaload, 1) := dk_46 (bs_at BL_law_335 15 rfl)
theorem dL_law_355 : decode cL_law 355 = .ok (.invokevirtual 32, 3) := dk_182 0 32 (bs_at BL_law_335 16 rfl) rfl
theorem dL_law_358 : decode cL_law 358 = .ok (.pop, 1) := dk_87 (bs_at BL_law_335 17 rfl)
theorem dL_law_359 : decode cL_law 359 = .ok (.aload_n 2, 1) := dk_44 (bs_at BL_law_335 18 rfl)
theorem dL_law_360 : decode cL_law 360 = .ok (.aload_n 0, 1) := dk_42 (bs_at BL_law_335 19 rfl)
theorem dL_law_361 : decode cL_law 361 = .ok (.iload_n 3, 1) := dk_29 (bs_at BL_law_335 20 rfl)
theorem dL_law_362 : decode cL_law 362 = .ok (.iconst 1, 1) := dk_4 (bs_at BL_law_335 21 rfl)
theorem dL_law_363 : decode cL_law 363 = .ok (.iadd, 1) := dk_96 (bs_at BL_law_335 22 rfl)
theorem dL_law_364 : decode cL_law 364 = .ok (.iaload, 1) := dk_46 (bs_at BL_law_335 23 rfl)
theorem BL_law_365 : bsegs (ByteArray.data cL_law |>.toList.drop 365) 365 [(365, [42]), (366, [29]), (367, [5]), (368, [96]), (369, [46]), (370, [182, 0, 35]), (373, [87]), (374, [167, 2, 224]), (377, [43]), (378, [42]), (379, [29])] = true := by decide +kernel
theorem dL_law_365 : decode cL_law 365 = .ok (.aload_n 0, 1) := dk_42 (bs_at BL_law_365 0 rfl)
theorem dL_law_366 : decode cL_law 366 = .ok (.iload_n 3, 1) := dk_29 (bs_at BL_law_365 1 rfl)
theorem dL_law_367 : decode cL_law 367 = .ok (.iconst 2, 1) := dk_5 (bs_at BL_law_365 2 rfl)
theorem dL_law_368 : decode cL_law 368 = .ok (.iadd, 1) := dk_96 (bs_at BL_law_365 3 rfl)
theorem dL_law_369 : decode cL_law 369 = .ok (.iaload, 1) := dk_46 (bs_at BL_law_365 4 rfl)
theorem dL_law_370 : decode cL_law 370 = .ok (.invokevirtual 35, 3) := dk_182 0 35 (bs_at BL_law_365 5 rfl) rfl
theorem dL_law_373 : decode cL_law 373 = .ok (.pop, 1) := dk_87 (bs_at BL_law_365 6 rfl)
theorem dL_law_374 : decode cL_law 374 = .ok (.goto 736, 3) := dk_167 2 224 (bs_at BL_law_365 7 rfl) rfl
theorem dL_law_377 : decode cL_law 377 = .ok (.aload_n 1, 1) := dk_43 (bs_at BL_law_365 8 rfl)
theorem dL_law_378 : decode cL_law 378 = .ok (.aload_n 0, 1) := dk_42 (bs_at BL_law_365 9 rfl)
theorem dL_law_379 : decode cL_law 379 = .ok (.iload_n 3, 1) := dk_29 (bs_at BL_law_365 10 rfl)
end
section
theorem BL_law_380 : bsegs (ByteArray.data cL_law |>.toList.drop 380) 380 [(380, [4]), (381, [96]), (382, [46]), (383, [42]), (384, [29]), (385, [5]), (386, [96]), (387, [46]), (388, [42]), (389, [29]), (390, [6]), (391, [96]), (392, [46]), (393, [42]), (394, [29]), (395, [7]), (396, [96]), (397, [46]), (398, [42]), (399, [29]), (400, [8]), (401, [96]), (402, [46]), (403, [182, 0, 36])] = true := by decide +kernel
theorem dL_law_380 : decode cL_law 380 = .ok (.iconst 1, 1) := dk_4 (bs_at BL_law_380 0 rfl)
theorem dL_law_381 : decode cL_law 381 = .ok (.iadd, 1) := dk_96 (bs_at BL_law_380 1 rfl)
theorem dL_law_382 : decode cL_law 382 = .ok (.iaload, 1) := dk_46 (bs_at BL_law_380 2 rfl)
theorem dL_law_383 : decode cL_law 383 = .ok (.aload_n 0, 1) := dk_42 (bs_at BL_law_380 3 rfl)
theorem dL_law_384 : decode cL_law 384 = .ok (.iload_n 3, 1) := dk_29 (bs_at BL_law_380 4 rfl)
theorem dL_law_385 : decode cL_law 385 = .ok (.iconst 2, 1) := dk_5 (bs_at BL_law_380 5 rfl)
theorem dL_law_386 : decode cL_law 386 = .ok (.iadd, 1) := dk_96 (bs_at BL_law_380 6 rfl)
theorem dL_law_387 : decode cL_law 387 = .ok (.iaload, 1) := dk_46 (bs_at BL_law_380 7 rfl)
theorem dL_law_388 : decode cL_law 388 = .ok (.aload_n 0, 1) := dk_42 (bs_at BL_law_380 8 rfl)
theorem dL_law_389 : decode cL_law 389 = .ok (.iload_n 3, 1) := dk_29 (bs_at BL_law_380 9 rfl)
theorem dL_law_390 : decode cL_law 390 = .ok (.iconst 3, 1) := dk_6 (bs_at BL_law_380 10 rfl)
theorem dL_law_391 : decode cL_law 391 = .ok (.iadd, 1) := dk_96 (bs_at BL_law_380 11 rfl)
theorem dL_law_392 : decode cL_law 392 = .ok (.iaload, 1) := dk_46 (bs_at BL_law_380 12 rfl)
theorem dL_law_393 : decode cL_law 393 = .ok (.aload_n 0, 1) := dk_42 (bs_at BL_law_380 13 rfl)
theorem dL_law_394 : decode cL_law 394 = .ok (.iload_n 3, 1) := dk_29 (bs_at BL_law_380 14 rfl)
theorem dL_law_395 : decode cL_law 395 = .ok (.iconst 4, 1) := dk_7 (bs_at BL_law_380 15 rfl)
theorem dL_law_396 : decode cL_law 396 = .ok (.iadd, 1) := dk_96 (bs_at BL_law_380 16 rfl)
theorem dL_law_397 : decode cL_law 397 = .ok (.iaload, 1) := dk_46 (bs_at BL_law_380 17 rfl)
theorem dL_law_398 : decode cL_law 398 = .ok (.aload_n 0, 1) := dk_42 (bs_at BL_law_380 18 rfl)
theorem dL_law_399 : decode cL_law 399 = .ok (.iload_n 3, 1) := dk_29 (bs_at BL_law_380 19 rfl)
theorem dL_law_400 : decode cL_law 400 = .ok (.iconst 5, 1) := dk_8 (bs_at BL_law_380 20 rfl)
theorem dL_law_401 : decode cL_law 401 = .ok (.iadd, 1) := dk_96 (bs_at BL_law_380 21 rfl)
theorem dL_law_402 : decode cL_law 402 = .ok (.iaload, 1) := dk_46 (bs_at BL_law_380 22 rfl)
theorem dL_law_403 : decode cL_law 403 = .ok (.invokevirtual 36, 3) := dk_182 0 36 (bs_at BL_law_380 23 rfl) rfl
theorem BL_law_406 : bsegs (ByteArray.data cL_law |>.toList.drop 406) 406 [(406, [87]), (407, [44]), (408, [42]), (409, [29]), (410, [4]), (411, [96]), (412, [46]), (413, [42]), (414, [29]), (415, [5]), (416, [96]), (417, [46]), (418, [42]), (419, [29]), (420, [6]), (421, [96]), (422, [46]), (423, [42]), (424, [29]), (425, [7]), (426, [96]), (427, [46]), (428, [42]), (429, [29])] = true := by decide +kernel
theorem dL_law_406 : decode cL_law 406 = .ok (.pop, 1) := dk_87 (bs_at BL_law_406 0 rfl)
theorem dL_law_407 : decode cL_law 407 = .ok (.aload_n 2, 1) := dk_44 (bs_at BL_law_406 1 rfl)
theorem dL_law_408 : decode cL_law 408 = .ok (.aload_n 0, 1) := dk_42 (bs_at BL_law_406 2 rfl)
theorem dL_law_409 : decode cL_law 409 = .ok (.iload_n 3, 1) := dk_29 (bs_at BL_law_406 3 rfl)
theorem dL_law_410 : decode cL_law 410 = .ok (.iconst 1, 1) := dk_4 (bs_at BL_law_406 4 rfl)
theorem dL_law_411 : decode cL_law 411 = .ok (.iadd, 1) := dk_96 (bs_at BL_law_406 5 rfl)
theorem dL_law_412 : decode cL_law 412 = .ok (.iaload, 1) := dk_46 (bs_at BL_law_406 6 rfl)
theorem dL_law_413 : decode cL_law 413 = .ok (.aload_n 0, 1) := dk_42 (bs_at BL_law_406 7 rfl)
theorem dL_law_414 : decode cL_law 414 = .ok (.iload_n 3, 1) := dk_29 (bs_at BL_law_406 8 rfl)
theorem dL_law_415 : decode cL_law 415 = .ok (.iconst 2, 1) := dk_5 (bs_at BL_law_406 9 rfl)
theorem dL_law_416 : decode cL_law 416 = .ok (.iadd, 1) := dk_96 (bs_at BL_law_406 10 rfl)
theorem dL_law_417 : decode cL_law 417 = .ok (.iaload, 1) := dk_46 (bs_at BL_law_406 11 rfl)
theorem dL_law_418 : decode cL_law 418 = .ok (.aload_n 0, 1) := dk_42 (bs_at BL_law_406 12 rfl)
theorem dL_law_419 : decode cL_law 419 = .ok (.iload_n 3, 1) := dk_29 (bs_at BL_law_406 13 rfl)
theorem dL_law_420 : decode cL_law 420 = .ok (.iconst 3, 1) := dk_6 (bs_at BL_law_406 14 rfl)
theorem dL_law_421 : decode cL_law 421 = .ok (.iadd, 1) := dk_96 (bs_at BL_law_406 15 rfl)
theorem dL_law_422 : decode cL_law 422 = .ok (.iaload, 1) := dk_46 (bs_at BL_law_406 16 rfl)
theorem dL_law_423 : decode cL_law 423 = .ok (.aload_n 0, 1) := dk_42 (bs_at BL_law_406 17 rfl)
theorem dL_law_424 : decode cL_law 424 = .ok (.iload_n 3, 1) := dk_29 (bs_at BL_law_406 18 rfl)
theorem dL_law_425 : decode cL_law 425 = .ok (.iconst 4, 1) := dk_7 (bs_at BL_law_406 19 rfl)
theorem dL_law_426 : decode cL_law 426 = .ok (.iadd, 1) := dk_96 (bs_at BL_law_406 20 rfl)
theorem dL_law_427 : decode cL_law 427 = .ok (.iaload, 1) := dk_46 (bs_at BL_law_406 21 rfl)
theorem dL_law_428 : decode cL_law 428 = .ok (.aload_n 0, 1) := dk_42 (bs_at BL_law_406 22 rfl)
theorem dL_law_429 : decode cL_law 429 = .ok (.iload_n 3, 1) := dk_29 (bs_at BL_law_406 23 rfl)
theorem BL_law_430 : bsegs (ByteArray.data cL_law |>.toList.drop 430) 430 [(430, [8]), (431, [96]), (432, [46]), (433, [182, 0, 39]), (436, [87]), (437, [167, 2, 161]), (440, [43]), (441, [42]), (442, [29]), (443, [4]), (444, [96]), (445, [46]), (446, [182, 0, 40]), (449, [87]), (450, [44]), (451, [42]), (452, [29]), (453, [4]), (454, [96]), (455, [46]), (456, [182, 0, 43]), (459, [87]), (460, [167, 2, 138]), (463, [43])] = true := by decide +kernel
theorem dL_law_430 : decode cL_law 430 = .ok (.iconst 5, 1) := dk_8 (bs_at BL_law_430 0 rfl)
theorem dL_law_431 : decode cL_law 431 = .ok (.iadd, 1) := dk_96 (bs_at BL_law_430 1 rfl)
theorem dL_law_432 : decode cL_law 432 = .ok (.iaload, 1) := dk_46 (bs_at BL_law_430 2 rfl)
theorem dL_law_433 : decode cL_law 433 = .ok (.invokevirtual 39, 3) := dk_182 0 39 (bs_at BL_law_430 3 rfl) rfl
theorem dL_law_436 : decode cL_law 436 = .ok (.pop, 1) := dk_87 (bs_at BL_law_430 4 rfl)
theorem dL_law_437 : decode cL_law 437 = .ok (.goto 673, 3) := dk_167 2 161 (bs_at BL_law_430 5 rfl) rfl
theorem dL_law_440 : decode cL_law 440 = .ok (.aload_n 1, 1) := dk_43 (bs_at BL_law_430 6 rfl)
theorem dL_law_441 : decode cL_law 441 = .ok (.aload_n 0, 1) := dk_42 (bs_at BL_law_430 7 rfl)
theorem dL_law_442 : decode cL_law 442 = .ok (.iload_n 3, 1) := dk_29 (bs_at BL_law_430 8 rfl)
theorem dL_law_443 : decode cL_law 443 = .ok (.iconst 1, 1) := dk_4 (bs_at BL_law_430 9 rfl)
theorem dL_law_444 : decode cL_law 444 = .ok (.iadd, 1) := dk_96 (bs_at BL_law_430 10 rfl)
theorem dL_law_445 : decode cL_law 445 = .ok (.iaload, 1) := dk_46 (bs_at BL_law_430 11 rfl)
theorem dL_law_446 : decode cL_law 446 = .ok (.invokevirtual 40, 3) := dk_182 0 40 (bs_at BL_law_430 12 rfl) rfl
theorem dL_law_449 : decode cL_law 449 = .ok (.pop, 1) := dk_87 (bs_at BL_law_430 13 rfl)
theorem dL_law_450 : decode cL_law 450 = .ok (.aload_n 2, 1) := dk_44 (bs_at BL_law_430 14 rfl)
theorem dL_law_451 : decode cL_law 451 = .ok (.aload_n 0, 1) := dk_42 (bs_at BL_law_430 15 rfl)
theorem dL_law_452 : decode cL_law 452 = .ok (.iload_n 3, 1) := dk_29 (bs_at BL_law_430 16 rfl)
theorem dL_law_453 : decode cL_law 453 = .ok (.iconst 1, 1) := dk_4 (bs_at BL_law_430 17 rfl)
theorem dL_law_454 : decode cL_law 454 = .ok (.iadd, 1) := dk_96 (bs_at BL_law_430 18 rfl)
theorem dL_law_455 : decode cL_law 455 = .ok (.iaload, 1) := dk_46 (bs_at BL_law_430 19 rfl)
theorem dL_law_456 : decode cL_law 456 = .ok (.invokevirtual 43, 3) := dk_182 0 43 (bs_at BL_law_430 20 rfl) rfl
theorem dL_law_459 : decode cL_law 459 = .ok (.pop, 1) := dk_87 (bs_at BL_law_430 21 rfl)
theorem dL_law_460 : decode cL_law 460 = .ok (.goto 650, 3) := dk_167 2 138 (bs_at BL_law_430 22 rfl) rfl
theorem dL_law_463 : decode cL_law 463 = .ok (.aload_n 1, 1) := dk_43 (bs_at BL_law_430 23 rfl)
theorem BL_law_464 : bsegs (ByteArray.data cL_law |>.toList.drop 464) 464 [(464, [182, 0, 44]), (467, [87]), (468, [44]), (469, [182, 0, 48]), (472, [87]), (473, [167, 2, 125]), (476, [43]), (477, [182, 0, 49]), (480, [87]), (481, [44]), (482, [182, 0, 52]), (485, [87]), (486, [167, 2, 112]), (489, [43]), (490, [182, 0, 53]), (493, [87]), (494, [44]), (495, [182, 0, 56]), (498, [87]), (499, [167, 2, 99]), (502, [43]), (503, [182, 0, 57]), (506, [87]), (507, [44])] = true := by decide +kernel
theorem dL_law_464 : decode cL_law 464 = .ok (.invokevirtual 44, 3) := dk_182 0 44 (bs_at BL_law_464 0 rfl) rfl
theorem dL_law_467 : decode cL_law 467 = .ok (.pop, 1) := dk_87 (bs_at BL_law_464 1 rfl)
theorem dL_law_468 : decode cL_law 468 = .ok (.aload_n 2, 1) := dk_44 (bs_at BL_law_464 2 rfl)
theorem dL_law_469 : decode cL_law 469 = .ok (.invokevirtual 48, 3) := dk_182 0 48 (bs_at BL_law_464 3 rfl) rfl
theorem dL_law_472 : decode cL_law 472 = .ok (.pop, 1) := dk_87 (bs_at BL_law_464 4 rfl)
theorem dL_law_473 : decode cL_law 473 = .ok (.goto 637, 3) := dk_167 2 125 (bs_at BL_law_464 5 rfl) rfl
theorem dL_law_476 : decode cL_law 476 = .ok (.aload_n 1, 1) := dk_43 (bs_at BL_law_464 6 rfl)
theorem dL_law_477 : decode cL_law 477 = .ok (.invokevirtual 49, 3) := dk_182 0 49 (bs_at BL_law_464 7 rfl) rfl
theorem dL_law_480 : decode cL_law 480 = .ok (.pop, 1) := dk_87 (bs_at BL_law_464 8 rfl)
theorem dL_law_481 : decode cL_law 481 = .ok (.aload_n 2, 1) := dk_44 (bs_at BL_law_464 9 rfl)
theorem dL_law_482 : decode cL_law 482 = .ok (.invokevirtual 52, 3) := dk_182 0 52 (bs_at BL_law_464 10 rfl) rfl
theorem dL_law_485 : decode cL_law 485 = .ok (.pop, 1) := dk_87 (bs_at BL_law_464 11 rfl)
theorem dL_law_486 : decode cL_law 486 = .ok (.goto 624, 3) := dk_167 2 112 (bs_at BL_law_464 12 rfl) rfl
theorem dL_law_489 : decode cL_law 489 = .ok (.aload_n 1, 1) := dk_43 (bs_at BL_law_464 13 rfl)
theorem dL_law_490 : decode cL_law 490 = .ok (.invokevirtual 53, 3) := dk_182 0 53 (bs_at BL_law_464 14 rfl) rfl
theorem dL_law_493 : decode cL_law 493 = .ok (.pop, 1) := dk_87 (bs_at BL_law_464 15 rfl)
theorem dL_law_494 : decode cL_law 494 = .ok (.aload_n 2, 1) := dk_44 (bs_at BL_law_464 16 rfl)
theorem dL_law_495 : decode cL_law 495 = .ok (.invokevirtual 56, 3) := dk_182 0 56 (bs_at BL_law_464 17 rfl) rfl
theorem dL_law_498 : decode cL_law 498 = .ok (.pop, 1) := dk_87 (bs_at BL_law_464 18 rfl)
theorem dL_law_499 : decode cL_law 499 = .ok (.goto 611, 3) := dk_167 2 99 (bs_at BL_law_464 19 rfl) rfl
theorem dL_law_502 : decode cL_law 502 = .ok (.aload_n 1, 1) := dk_43 (bs_at BL_law_464 20 rfl)
theorem dL_law_503 : decode cL_law 503 = .ok (.invokevirtual 57, 3) := dk_182 0 57 (bs_at BL_law_464 21 rfl) rfl
theorem dL_law_506 : decode cL_law 506 = .ok (.pop, 1) := dk_87 (bs_at BL_law_464 22 rfl)
theorem dL_law_507 : decode cL_law 507 = .ok (.aload_n 2, 1) := dk_44 (bs_at BL_law_464 23 rfl)
theorem BL_law_508 : bsegs (ByteArray.data cL_law |>.toList.drop 508) 508 [(508, [182, 0, 60]), (511, [87]), (512, [167, 2, 86]), (515, [43]), (516, [182, 0, 61]), (519, [87]), (520, [44]), (521, [182, 0, 64]), (524, [87]), (525, [167, 2, 73]), (528, [43]), (529, [182, 0, 65]), (532, [87]), (533, [44]), (534, [182, 0, 68]), (537, [87]), (538, [167, 2, 60]), (541, [43]), (542, [42]), (543, [29]), (544, [4]), (545, [96]), (546, [46]), (547, [182, 0, 69])] = true := by decide +kernel
theorem dL_law_508 : decode cL_law 508 = .ok (.invokevirtual 60, 3) := dk_182 0 60 (bs_at BL_law_508 0 rfl) rfl
theorem dL_law_511 : decode cL_law 511 = .ok (.pop, 1) := dk_87 (bs_at BL_law_508 1 rfl)
theorem dL_law_512 : decode cL_law 512 = .ok (.goto 598, 3) := dk_167 2 86 (bs_at BL_law_508 2 rfl) rfl
theorem dL_law_515 : decode cL_law 515 = .ok (.aload_n 1, 1) := dk_43 (bs_at BL_law_508 3 rfl)
theorem dL_law_516 : decode cL_law 516 = .ok (.invokevirtual 61, 3) := dk_182 0 61 (bs_at BL_law_508 4 rfl) rfl
theorem dL_law_519 : decode cL_law 519 = .ok (.pop, 1) := dk_87 (bs_at BL_law_508 5 rfl)
theorem dL_law_520 : decode cL_law 520 = .ok (.aload_n 2, 1) := dk_44 (bs_at BL_law_508 6 rfl)
theorem dL_law_521 : decode cL_law 521 = .ok (.invokevirtual 64, 3) := dk_182 0 64 (bs_at BL_law_508 7 rfl) rfl
theorem dL_law_524 : decode cL_law 524 = .ok (.pop, 1) := dk_87 (bs_at BL_law_508 8 rfl)
theorem dL_law_525 : decode cL_law 525 = .ok (.goto 585, 3) := dk_167 2 73 (bs_at BL_law_508 9 rfl) rfl
theorem dL_law_528 : decode cL_law 528 = .ok (.aload_n 1, 1) := dk_43 (bs_at BL_law_508 10 rfl)
theorem dL_law_529 : decode cL_law 529 = .ok (.invokevirtual 65, 3) := dk_182 0 65 (bs_at BL_law_508 11 rfl) rfl
theorem dL_law_532 : decode cL_law 532 = .ok (.pop, 1) := dk_87 (bs_at BL_law_508 12 rfl)
theorem dL_law_533 : decode cL_law 533 = .ok (.aload_n 2, 1) := dk_44 (bs_at BL_law_508 13 rfl)
theorem dL_law_534 : decode cL_law 534 = .ok (.invokevirtual 68, 3) := dk_182 0 68 (bs_at BL_law_508 14 rfl) rfl
theorem dL_law_537 : decode cL_law 537 = .ok (.pop, 1) := dk_87 (bs_at BL_law_508 15 rfl)
theorem dL_law_538 : decode cL_law 538 = .ok (.goto 572, 3) := dk_167 2 60 (bs_at BL_law_508 16 rfl) rfl
theorem dL_law_541 : decode cL_law 541 = .ok (.aload_n 1, 1) := dk_43 (bs_at BL_law_508 17 rfl)
theorem dL_law_542 : decode cL_law 542 = .ok (.aload_n 0, 1) := dk_42 (bs_at BL_law_508 18 rfl)
theorem dL_law_543 : decode cL_law 543 = .ok (.iload_n 3, 1) := dk_29 (bs_at BL_law_508 19 rfl)
theorem dL_law_544 : decode cL_law 544 = .ok (.iconst 1, 1) := dk_4 (bs_at BL_law_508 20 rfl)
theorem dL_law_545 : decode cL_law 545 = .ok (.iadd, 1) := dk_96 (bs_at BL_law_508 21 rfl)
theorem dL_law_546 : decode cL_law 546 = .ok (.iaload, 1) := dk_46 (bs_at BL_law_508 22 rfl)
theorem dL_law_547 : decode cL_law 547 = .ok (.invokevirtual 69, 3) := dk_182 0 69 (bs_at BL_law_508 23 rfl) rfl
theorem BL_law_550 : bsegs (ByteArray.data cL_law |>.toList.drop 550) 550 [(550, [87]), (551, [44]), (552, [42]), (553, [29]), (554, [4]), (555, [96]), (556, [46]), (557, [182, 0, 72]), (560, [87]), (561, [167, 2, 37]), (564, [43]), (565, [182, 0, 73]), (568, [87]), (569, [44]), (570, [182, 0, 76]), (573, [87]), (574, [167, 2, 24]), (577, [43]), (578, [42]), (579, [29]), (580, [4]), (581, [96]), (582, [46]), (583, [182, 0, 77])] = true := by decide +kernel
theorem dL_law_550 : decode cL_law 550 = .ok (.pop, 1) := dk_87 (bs_at BL_law_550 0 rfl)
theorem dL_law_551 : decode cL_law 551 = .ok (.aload_n 2, 1) := dk_44 (bs_at BL_law_550 1 rfl)
theorem dL_law_552 : decode cL_law 552 = .ok (.aload_n 0, 1) := dk_42 (bs_at BL_law_550 2 rfl)
theorem dL_law_553 : decode cL_law 553 = .ok (.iload_n 3, 1) := dk_29 (bs_at BL_law_550 3 rfl)
theorem dL_law_554 : decode cL_law 554 = .ok (.iconst 1, 1) := dk_4 (bs_at BL_law_550 4 rfl)
theorem dL_law_555 : decode cL_law 555 = .ok (.iadd, 1) := dk_96 (bs_at BL_law_550 5 rfl)
theorem dL_law_556 : decode cL_law 556 = .ok (.iaload, 1) := dk_46 (bs_at BL_law_550 6 rfl)
theorem dL_law_557 : decode cL_law 557 = .ok (.invokevirtual 72, 3) := dk_182 0 72 (bs_at BL_law_550 7 rfl) rfl
theorem dL_law_560 : decode cL_law 560 = .ok (.pop, 1) := dk_87 (bs_at BL_law_550 8 rfl)
theorem dL_law_561 : decode cL_law 561 = .ok (.goto 549, 3) := dk_167 2 37 (bs_at BL_law_550 9 rfl) rfl
theorem dL_law_564 : decode cL_law 564 = .ok (.aload_n 1, 1) := dk_43 (bs_at BL_law_550 10 rfl)
theorem dL_law_565 : decode cL_law 565 = .ok (.invokevirtual 73, 3) := dk_182 0 73 (bs_at BL_law_550 11 rfl) rfl
theorem dL_law_568 : decode cL_law 568 = .ok (.pop, 1) := dk_87 (bs_at BL_law_550 12 rfl)
theorem dL_law_569 : decode cL_law 569 = .ok (.aload_n 2, 1) := dk_44 (bs_at BL_law_550 13 rfl)
theorem dL_law_570 : decode cL_law 570 = .ok (.invokevirtual 76, 3) := dk_182 0 76 (bs_at BL_law_550 14 rfl) rfl
theorem dL_law_573 : decode cL_law 573 = .ok (.pop, 1) := dk_87 (bs_at BL_law_550 15 rfl)
theorem dL_law_574 : decode cL_law 574 = .ok (.goto 536, 3) := dk_167 2 24 (bs_at BL_law_550 16 rfl) rfl
theorem dL_law_577 : decode cL_law 577 = .ok (.aload_n 1, 1) := dk_43 (bs_at BL_law_550 17 rfl)
theorem dL_law_578 : decode cL_law 578 = .ok (.aload_n 0, 1) := dk_42 (bs_at BL_law_550 18 rfl)
theorem dL_law_579 : decode cL_law 579 = .ok (.iload_n 3, 1) := dk_29 (bs_at BL_law_550 19 rfl)
theorem dL_law_580 : decode cL_law 580 = .ok (.iconst 1, 1) := dk_4 (bs_at BL_law_550 20 rfl)
theorem dL_law_581 : decode cL_law 581 = .ok (.iadd, 1) := dk_96 (bs_at BL_law_550 21 rfl)
theorem dL_law_582 : decode cL_law 582 = .ok (.iaload, 1) := dk_46 (bs_at BL_law_550 22 rfl)
theorem dL_law_583 : decode cL_law 583 = .ok (.invokevirtual 77, 3) := dk_182 0 77 (bs_at BL_law_550 23 rfl) rfl
theorem BL_law_586 : bsegs (ByteArray.data cL_law |>.toList.drop 586) 586 [(586, [87]), (587, [44]), (588, [42]), (589, [29]), (590, [4]), (591, [96]), (592, [46]), (593, [182, 0, 80]), (596, [87]), (597, [167, 2, 1]), (600, [43]), (601, [42]), (602, [29]), (603, [4]), (604, [96]), (605, [46]), (606, [182, 0, 81]), (609, [87]), (610, [44]), (611, [42]), (612, [29]), (613, [4]), (614, [96]), (615, [46])] = true := by decide +kernel
theorem dL_law_586 : decode cL_law 586 = .ok (.pop, 1) := dk_87 (bs_at BL_law_586 0 rfl)
theorem dL_law_587 : decode cL_law 587 = .ok (.aload_n 2, 1) := dk_44 (bs_at BL_law_586 1 rfl)
theorem dL_law_588 : decode cL_law 588 = .ok (.aload_n 0, 1) := dk_42 (bs_at BL_law_586 2 rfl)
theorem dL_law_589 : decode cL_law 589 = .ok (.iload_n 3, 1) := dk_29 (bs_at BL_law_586 3 rfl)
theorem dL_law_590 : decode cL_law 590 = .ok (.iconst 1, 1) := dk_4 (bs_at BL_law_586 4 rfl)
theorem dL_law_591 : decode cL_law 591 = .ok (.iadd, 1) := dk_96 (bs_at BL_law_586 5 rfl)
theorem dL_law_592 : decode cL_law 592 = .ok (.iaload, 1) := dk_46 (bs_at BL_law_586 6 rfl)
theorem dL_law_593 : decode cL_law 593 = .ok (.invokevirtual 80, 3) := dk_182 0 80 (bs_at BL_law_586 7 rfl) rfl
theorem dL_law_596 : decode cL_law 596 = .ok (.pop, 1) := dk_87 (bs_at BL_law_586 8 rfl)
theorem dL_law_597 : decode cL_law 597 = .ok (.goto 513, 3) := dk_167 2 1 (bs_at BL_law_586 9 rfl) rfl
theorem dL_law_600 : decode cL_law 600 = .ok (.aload_n 1, 1) := dk_43 (bs_at BL_law_586 10 rfl)
theorem dL_law_601 : decode cL_law 601 = .ok (.aload_n 0, 1) := dk_42 (bs_at BL_law_586 11 rfl)
theorem dL_law_602 : decode cL_law 602 = .ok (.iload_n 3, 1) := dk_29 (bs_at BL_law_586 12 rfl)
theorem dL_law_603 : decode cL_law 603 = .ok (.iconst 1, 1) := dk_4 (bs_at BL_law_586 13 rfl)
theorem dL_law_604 : decode cL_law 604 = .ok (.iadd, 1) := dk_96 (bs_at BL_law_586 14 rfl)
theorem dL_law_605 : decode cL_law 605 = .ok (.iaload, 1) := dk_46 (bs_at BL_law_586 15 rfl)
theorem dL_law_606 : decode cL_law 606 = .ok (.invokevirtual 81, 3) := dk_182 0 81 (bs_at BL_law_586 16 rfl) rfl
theorem dL_law_609 : decode cL_law 609 = .ok (.pop, 1) := dk_87 (bs_at BL_law_586 17 rfl)
theorem dL_law_610 : decode cL_law 610 = .ok (.aload_n 2, 1) := dk_44 (bs_at BL_law_586 18 rfl)
theorem dL_law_611 : decode cL_law 611 = .ok (.aload_n 0, 1) := dk_42 (bs_at BL_law_586 19 rfl)
theorem dL_law_612 : decode cL_law 612 = .ok (.iload_n 3, 1) := dk_29 (bs_at BL_law_586 20 rfl)
theorem dL_law_613 : decode cL_law 613 = .ok (.iconst 1, 1) := dk_4 (bs_at BL_law_586 21 rfl)
theorem dL_law_614 : decode cL_law 614 = .ok (.iadd, 1) := dk_96 (bs_at BL_law_586 22 rfl)
theorem dL_law_615 : decode cL_law 615 = .ok (.iaload, 1) := dk_46 (bs_at BL_law_586 23 rfl)
theorem BL_law_616 : bsegs (ByteArray.data cL_law |>.toList.drop 616) 616 [(616, [182, 0, 84]), (619, [87]), (620, [167, 1, 234]), (623, [43]), (624, [42]), (625, [29]), (626, [4]), (627, [96]), (628, [46]), (629, [42]), (630, [29]), (631, [5])] = true := by decide +kernel
theorem dL_law_616 : decode cL_law 616 = .ok (.invokevirtual 84, 3) := dk_182 0 84 (bs_at BL_law_616 0 rfl) rfl
theorem dL_law_619 : decode cL_law 619 = .ok (.pop, 1) := dk_87 (bs_at BL_law_616 1 rfl)
theorem dL_law_620 : decode cL_law 620 = .ok (.goto 490, 3) := dk_167 1 234 (bs_at BL_law_616 2 rfl) rfl
theorem dL_law_623 : decode cL_law 623 = .ok (.aload_n 1, 1) := dk_43 (bs_at BL_law_616 3 rfl)
theorem dL_law_624 : decode cL_law 624 = .ok (.aload_n 0, 1) := dk_42 (bs_at BL_law_616 4 rfl)
theorem dL_law_625 : decode cL_law 625 = .ok (.iload_n 3, 1) := dk_29 (bs_at BL_law_616 5 rfl)
theorem dL_law_626 : decode cL_law 626 = .ok (.iconst 1, 1) := dk_4 (bs_at BL_law_616 6 rfl)
theorem dL_law_627 : decode cL_law 627 = .ok (.iadd, 1) := dk_96 (bs_at BL_law_616 7 rfl)
theorem dL_law_628 : decode cL_law 628 = .ok (.iaload, 1) := dk_46 (bs_at BL_law_616 8 rfl)
theorem dL_law_629 : decode cL_law 629 = .ok (.aload_n 0, 1) := dk_42 (bs_at BL_law_616 9 rfl)
theorem dL_law_630 : decode cL_law 630 = .ok (.iload_n 3, 1) := dk_29 (bs_at BL_law_616 10 rfl)
theorem dL_law_631 : decode cL_law 631 = .ok (.iconst 2, 1) := dk_5 (bs_at BL_law_616 11 rfl)
end
section
theorem BL_law_632 : bsegs (ByteArray.data cL_law |>.toList.drop 632) 632 [(632, [96]), (633, [46]), (634, [182, 0, 85]), (637, [87]), (638, [44]), (639, [42]), (640, [29]), (641, [4]), (642, [96]), (643, [46]), (644, [42]), (645, [29]), (646, [5]), (647, [96]), (648, [46]), (649, [182, 0, 88]), (652, [87]), (653, [167, 1, 201]), (656, [43]), (657, [42]), (658, [29]), (659, [4]), (660, [96]), (661, [46])] = true := by decide +kernel
theorem dL_law_632 : decode cL_law 632 = .ok (.iadd, 1) := dk_96 (bs_at BL_law_632 0 rfl)
theorem dL_law_633 : decode cL_law 633 = .ok (.iaload, 1) := dk_46 (bs_at BL_law_632 1 rfl)
theorem dL_law_634 : decode cL_law 634 = .ok (.invokevirtual 85, 3) := dk_182 0 85 (bs_at BL_law_632 2 rfl) rfl
theorem dL_law_637 : decode cL_law 637 = .ok (.pop, 1) := dk_87 (bs_at BL_law_632 3 rfl)
theorem dL_law_638 : decode cL_law 638 = .ok (.aload_n 2, 1) := dk_44 (bs_at BL_law_632 4 rfl)
theorem dL_law_639 : decode cL_law 639 = .ok (.aload_n 0, 1) := dk_42 (bs_at BL_law_632 5 rfl)
theorem dL_law_640 : decode cL_law 640 = .ok (.iload_n 3, 1) := dk_29 (bs_at BL_law_632 6 rfl)
theorem dL_law_641 : decode cL_law 641 = .ok (.iconst 1, 1) := dk_4 (bs_at BL_law_632 7 rfl)
theorem dL_law_642 : decode cL_law 642 = .ok (.iadd, 1) := dk_96 (bs_at BL_law_632 8 rfl)
theorem dL_law_643 : decode cL_law 643 = .ok (.iaload, 1) := dk_46 (bs_at BL_law_632 9 rfl)
theorem dL_law_644 : decode cL_law 644 = .ok (.aload_n 0, 1) := dk_42 (bs_at BL_law_632 10 rfl)
theorem dL_law_645 : decode cL_law 645 = .ok (.iload_n 3, 1) := dk_29 (bs_at BL_law_632 11 rfl)
theorem dL_law_646 : decode cL_law 646 = .ok (.iconst 2, 1) := dk_5 (bs_at BL_law_632 12 rfl)
theorem dL_law_647 : decode cL_law 647 = .ok (.iadd, 1) := dk_96 (bs_at BL_law_632 13 rfl)
theorem dL_law_648 : decode cL_law 648 = .ok (.iaload, 1) := dk_46 (bs_at BL_law_632 14 rfl)
theorem dL_law_649 : decode cL_law 649 = .ok (.invokevirtual 88, 3) := dk_182 0 88 (bs_at BL_law_632 15 rfl) rfl
theorem dL_law_652 : decode cL_law 652 = .ok (.pop, 1) := dk_87 (bs_at BL_law_632 16 rfl)
theorem dL_law_653 : decode cL_law 653 = .ok (.goto 457, 3) := dk_167 1 201 (bs_at BL_law_632 17 rfl) rfl
theorem dL_law_656 : decode cL_law 656 = .ok (.aload_n 1, 1) := dk_43 (bs_at BL_law_632 18 rfl)
theorem dL_law_657 : decode cL_law 657 = .ok (.aload_n 0, 1) := dk_42 (bs_at BL_law_632 19 rfl)
theorem dL_law_658 : decode cL_law 658 = .ok (.iload_n 3, 1) := dk_29 (bs_at BL_law_632 20 rfl)
theorem dL_law_659 : decode cL_law 659 = .ok (.iconst 1, 1) := dk_4 (bs_at BL_law_632 21 rfl)
theorem dL_law_660 : decode cL_law 660 = .ok (.iadd, 1) := dk_96 (bs_at BL_law_632 22 rfl)
theorem dL_law_661 : decode cL_law 661 = .ok (.iaload, 1) := dk_46 (bs_at BL_law_632 23 rfl)
theorem BL_law_662 : bsegs (ByteArray.data cL_law |>.toList.drop 662) 662 [(662, [42]), (663, [29]), (664, [5]), (665, [96]), (666, [46]), (667, [182, 0, 89]), (670, [87]), (671, [44]), (672, [42]), (673, [29]), (674, [4]), (675, [96]), (676, [46]), (677, [42]), (678, [29]), (679, [5]), (680, [96]), (681, [46]), (682, [182, 0, 92]), (685, [87]), (686, [167, 1, 168]), (689, [43]), (690, [182, 0, 93]), (693, [44])] = true := by decide +kernel
theorem dL_law_662 : decode cL_law 662 = .ok (.aload_n 0, 1) := dk_42 (bs_at BL_law_662 0 rfl)
theorem dL_law_663 : decode cL_law 663 = .ok (.iload_n 3, 1) := dk_29 (bs_at BL_law_662 1 rfl)
theorem dL_law_664 : decode cL_law 664 = .ok (.iconst 2, 1) := dk_5 (bs_at BL_law_662 2 rfl)
theorem dL_law_665 : decode cL_law 665 = .ok (.iadd, 1) := dk_96 (bs_at BL_law_662 3 rfl)
theorem dL_law_666 : decode cL_law 666 = .ok (.iaload, 1) := dk_46 (bs_at BL_law_662 4 rfl)
theorem dL_law_667 : decode cL_law 667 = .ok (.invokevirtual 89, 3) := dk_182 0 89 (bs_at BL_law_662 5 rfl) rfl
theorem dL_law_670 : decode cL_law 670 = .ok (.pop, 1) := dk_87 (bs_at BL_law_662 6 rfl)
theorem dL_law_671 : decode cL_law 671 = .ok (.aload_n 2, 1) := dk_44 (bs_at BL_law_662 7 rfl)
theorem dL_law_672 : decode cL_law 672 = .ok (.aload_n 0, 1) := dk_42 (bs_at BL_law_662 8 rfl)
theorem dL_law_673 : decode cL_law 673 = .ok (.iload_n 3, 1) := dk_29 (bs_at BL_law_662 9 rfl)
theorem dL_law_674 : decode cL_law 674 = .ok (.iconst 1, 1) := dk_4 (bs_at BL_law_662 10 rfl)
theorem dL_law_675 : decode cL_law 675 = .ok (.iadd, 1) := dk_96 (bs_at BL_law_662 11 rfl)
theorem dL_law_676 : decode cL_law 676 = .ok (.iaload, 1) := dk_46 (bs_at BL_law_662 12 rfl)
theorem dL_law_677 : decode cL_law 677 = .ok (.aload_n 0, 1) := dk_42 (bs_at BL_law_662 13 rfl)
theorem dL_law_678 : decode cL_law 678 = .ok (.iload_n 3, 1) := dk_29 (bs_at BL_law_662 14 rfl)
theorem dL_law_679 : decode cL_law 679 = .ok (.iconst 2, 1) := dk_5 (bs_at BL_law_662 15 rfl)
theorem dL_law_680 : decode cL_law 680 = .ok (.iadd, 1) := dk_96 (bs_at BL_law_662 16 rfl)
theorem dL_law_681 : decode cL_law 681 = .ok (.iaload, 1) := dk_46 (bs_at BL_law_662 17 rfl)
theorem dL_law_682 : decode cL_law 682 = .ok (.invokevirtual 92, 3) := dk_182 0 92 (bs_at BL_law_662 18 rfl) rfl
theorem dL_law_685 : decode cL_law 685 = .ok (.pop, 1) := dk_87 (bs_at BL_law_662 19 rfl)
theorem dL_law_686 : decode cL_law 686 = .ok (.goto 424, 3) := dk_167 1 168 (bs_at BL_law_662 20 rfl) rfl
theorem dL_law_689 : decode cL_law 689 = .ok (.aload_n 1, 1) := dk_43 (bs_at BL_law_662 21 rfl)
theorem dL_law_690 : decode cL_law 690 = .ok (.invokevirtual 93, 3) := dk_182 0 93 (bs_at BL_law_662 22 rfl) rfl
theorem dL_law_693 : decode cL_law 693 = .ok (.aload_n 2, 1) := dk_44 (bs_at BL_law_662 23 rfl)
theorem BL_law_694 : bsegs (ByteArray.data cL_law |>.toList.drop 694) 694 [(694, [182, 0, 96]), (697, [159, 1, 157]), (702, [43]), (703, [182, 0, 97]), (706, [87]), (707, [44]), (708, [182, 0, 100]), (711, [87]), (712, [167, 1, 142]), (715, [43]), (716, [42]), (717, [29]), (718, [4]), (719, [96]), (720, [46]), (721, [42]), (722, [29]), (723, [5]), (724, [96]), (725, [46]), (726, [42]), (727, [29]), (728, [6]), (729, [96])] = true := by decide +kernel
theorem dL_law_694 : decode cL_law 694 = .ok (.invokevirtual 96, 3) := dk_182 0 96 (bs_at BL_law_694 0 rfl) rfl
theorem dL_law_697 : decode cL_law 697 = .ok (.if_icmp .eq 413, 3) := dk_159 1 157 (bs_at BL_law_694 1 rfl) rfl
theorem dL_law_702 : decode cL_law 702 = .ok (.aload_n 1, 1) := dk_43 (bs_at BL_law_694 2 rfl)
theorem dL_law_703 : decode cL_law 703 = .ok (.invokevirtual 97, 3) := dk_182 0 97 (bs_at BL_law_694 3 rfl) rfl
theorem dL_law_706 : decode cL_law 706 = .ok (.pop, 1) := dk_87 (bs_at BL_law_694 4 rfl)
theorem dL_law_707 : decode cL_law 707 = .ok (.aload_n 2, 1) := dk_44 (bs_at BL_law_694 5 rfl)
theorem dL_law_708 : decode cL_law 708 = .ok (.invokevirtual 100, 3) := dk_182 0 100 (bs_at BL_law_694 6 rfl) rfl
theorem dL_law_711 : decode cL_law 711 = .ok (.pop, 1) := dk_87 (bs_at BL_law_694 7 rfl)
theorem dL_law_712 : decode cL_law 712 = .ok (.goto 398, 3) := dk_167 1 142 (bs_at BL_law_694 8 rfl) rfl
theorem dL_law_715 : decode cL_law 715 = .ok (.aload_n 1, 1) := dk_43 (bs_at BL_law_694 9 rfl)
theorem dL_law_716 : decode cL_law 716 = .ok (.aload_n 0, 1) := dk_42 (bs_at BL_law_694 10 rfl)
theorem dL_law_717 : decode cL_law 717 = .ok (.iload_n 3, 1) := dk_29 (bs_at BL_law_694 11 rfl)
theorem dL_law_718 : decode cL_law 718 = .ok (.iconst 1, 1) := dk_4 (bs_at BL_law_694 12 rfl)
theorem dL_law_719 : decode cL_law 719 = .ok (.iadd, 1) := dk_96 (bs_at BL_law_694 13 rfl)
theorem dL_law_720 : decode cL_law 720 = .ok (.iaload, 1) := dk_46 (bs_at BL_law_694 14 rfl)
theorem dL_law_721 : decode cL_law 721 = .ok (.aload_n 0, 1) := dk_42 (bs_at BL_law_694 15 rfl)
theorem dL_law_722 : decode cL_law 722 = .ok (.iload_n 3, 1) := dk_29 (bs_at BL_law_694 16 rfl)
theorem dL_law_723 : decode cL_law 723 = .ok (.iconst 2, 1) := dk_5 (bs_at BL_law_694 17 rfl)
theorem dL_law_724 : decode cL_law 724 = .ok (.iadd, 1) := dk_96 (bs_at BL_law_694 18 rfl)
theorem dL_law_725 : decode cL_law 725 = .ok (.iaload, 1) := dk_46 (bs_at BL_law_694 19 rfl)
theorem dL_law_726 : decode cL_law 726 = .ok (.aload_n 0, 1) := dk_42 (bs_at BL_law_694 20 rfl)
theorem dL_law_727 : decode cL_law 727 = .ok (.iload_n 3, 1) := dk_29 (bs_at BL_law_694 21 rfl)
theorem dL_law_728 : decode cL_law 728 = .ok (.iconst 3, 1) := dk_6 (bs_at BL_law_694 22 rfl)
theorem dL_law_729 : decode cL_law 729 = .ok (.iadd, 1) := dk_96 (bs_at BL_law_694 23 rfl)
theorem BL_law_730 : bsegs (ByteArray.data cL_law |>.toList.drop 730) 730 [(730, [46]), (731, [42]), (732, [29]), (733, [7]), (734, [96]), (735, [46]), (736, [182, 0, 101]), (739, [87]), (740, [44]), (741, [42]), (742, [29]), (743, [4]), (744, [96]), (745, [46]), (746, [42]), (747, [29]), (748, [5]), (749, [96]), (750, [46]), (751, [42]), (752, [29]), (753, [6]), (754, [96]), (755, [46])] = true := by decide +kernel
theorem dL_law_730 : decode cL_law 730 = .ok (.iaload, 1) := dk_46 (bs_at BL_law_730 0 rfl)
theorem dL_law_731 : decode cL_law 731 = .ok (.aload_n 0, 1) := dk_42 (bs_at BL_law_730 1 rfl)
theorem dL_law_732 : decode cL_law 732 = .ok (.iload_n 3, 1) := dk_29 (bs_at BL_law_730 2 rfl)
theorem dL_law_733 : decode cL_law 733 = .ok (.iconst 4, 1) := dk_7 (bs_at BL_law_730 3 rfl)
theorem dL_law_734 : decode cL_law 734 = .ok (.iadd, 1) := dk_96 (bs_at BL_law_730 4 rfl)
theorem dL_law_735 : decode cL_law 735 = .ok (.iaload, 1) := dk_46 (bs_at BL_law_730 5 rfl)
theorem dL_law_736 : decode cL_law 736 = .ok (.invokevirtual 101, 3) := dk_182 0 101 (bs_at BL_law_730 6 rfl) rfl
theorem dL_law_739 : decode cL_law 739 = .ok (.pop, 1) := dk_87 (bs_at BL_law_730 7 rfl)
theorem dL_law_740 : decode cL_law 740 = .ok (.aload_n 2, 1) := dk_44 (bs_at BL_law_730 8 rfl)
theorem dL_law_741 : decode cL_law 741 = .ok (.aload_n 0, 1) := dk_42 (bs_at BL_law_730 9 rfl)
theorem dL_law_742 : decode cL_law 742 = .ok (.iload_n 3, 1) := dk_29 (bs_at BL_law_730 10 rfl)
theorem dL_law_743 : decode cL_law 743 = .ok (.iconst 1, 1) := dk_4 (bs_at BL_law_730 11 rfl)
theorem dL_law_744 : decode cL_law 744 = .ok (.iadd, 1) := dk_96 (bs_at BL_law_730 12 rfl)
theorem dL_law_745 : decode cL_law 745 = .ok (.iaload, 1) := dk_46 (bs_at BL_law_730 13 rfl)
theorem dL_law_746 : decode cL_law 746 = .ok (.aload_n 0, 1) := dk_42 (bs_at BL_law_730 14 rfl)
theorem dL_law_747 : decode cL_law 747 = .ok (.iload_n 3, 1) := dk_29 (bs_at BL_law_730 15 rfl)
theorem dL_law_748 : decode cL_law 748 = .ok (.iconst 2, 1) := dk_5 (bs_at BL_law_730 16 rfl)
theorem dL_law_749 : decode cL_law 749 = .ok (.iadd, 1) := dk_96 (bs_at BL_law_730 17 rfl)
theorem dL_law_750 : decode cL_law 750 = .ok (.iaload, 1) := dk_46 (bs_at BL_law_730 18 rfl)
theorem dL_law_751 : decode cL_law 751 = .ok (.aload_n 0, 1) := dk_42 (bs_at BL_law_730 19 rfl)
theorem dL_law_752 : decode cL_law 752 = .ok (.iload_n 3, 1) := dk_29 (bs_at BL_law_730 20 rfl)
theorem dL_law_753 : decode cL_law 753 = .ok (.iconst 3, 1) := dk_6 (bs_at BL_law_730 21 rfl)
theorem dL_law_754 : decode cL_law 754 = .ok (.iadd, 1) := dk_96 (bs_at BL_law_730 22 rfl)
theorem dL_law_755 : decode cL_law 755 = .ok (.iaload, 1) := dk_46 (bs_at BL_law_730 23 rfl)
theorem BL_law_756 : bsegs (ByteArray.data cL_law |>.toList.drop 756) 756 [(756, [42]), (757, [29]), (758, [7]), (759, [96]), (760, [46]), (761, [182, 0, 105]), (764, [87]), (765, [167, 1, 89]), (768, [43]), (769, [42]), (770, [29]), (771, [4]), (772, [96]), (773, [46]), (774, [182, 0, 106]), (777, [87]), (778, [44]), (779, [42]), (780, [29]), (781, [4]), (782, [96]), (783, [46]), (784, [182, 0, 109]), (787, [87])] = true := by decide +kernel
theorem dL_law_756 : decode cL_law 756 = .ok (.aload_n 0, 1) := dk_42 (bs_at BL_law_756 0 rfl)
theorem dL_law_757 : decode cL_law 757 = .ok (.iload_n 3, 1) := dk_29 (bs_at BL_law_756 1 rfl)
theorem dL_law_758 : decode cL_law 758 = .ok (.iconst 4, 1) := dk_7 (bs_at BL_law_756 2 rfl)
theorem dL_law_759 : decode cL_law 759 = .ok (.iadd, 1) := dk_96 (bs_at BL_law_756 3 rfl)
theorem dL_law_760 : decode cL_law 760 = .ok (.iaload, 1) := dk_46 (bs_at BL_law_756 4 rfl)
theorem dL_law_761 : decode cL_law 761 = .ok (.invokevirtual 105, 3) := dk_182 0 105 (bs_at BL_law_756 5 rfl) rfl
theorem dL_law_764 : decode cL_law 764 = .ok (.pop, 1) := dk_87 (bs_at BL_law_756 6 rfl)
theorem dL_law_765 : decode cL_law 765 = .ok (.goto 345, 3) := dk_167 1 89 (bs_at BL_law_756 7 rfl) rfl
theorem dL_law_768 : decode cL_law 768 = .ok (.aload_n 1, 1) := dk_43 (bs_at BL_law_756 8 rfl)
theorem dL_law_769 : decode cL_law 769 = .ok (.aload_n 0, 1) := dk_42 (bs_at BL_law_756 9 rfl)
theorem dL_law_770 : decode cL_law 770 = .ok (.iload_n 3, 1) := dk_29 (bs_at BL_law_756 10 rfl)
theorem dL_law_771 : decode cL_law 771 = .ok (.iconst 1, 1) := dk_4 (bs_at BL_law_756 11 rfl)
theorem dL_law_772 : decode cL_law 772 = .ok (.iadd, 1) := dk_96 (bs_at BL_law_756 12 rfl)
theorem dL_law_773 : decode cL_law 773 = .ok (.iaload, 1) := dk_46 (bs_at BL_law_756 13 rfl)
theorem dL_law_774 : decode cL_law 774 = .ok (.invokevirtual 106, 3) := dk_182 0 106 (bs_at BL_law_756 14 rfl) rfl
theorem dL_law_777 : decode cL_law 777 = .ok (.pop, 1) := dk_87 (bs_at BL_law_756 15 rfl)
theorem dL_law_778 : decode cL_law 778 = .ok (.aload_n 2, 1) := dk_44 (bs_at BL_law_756 16 rfl)
theorem dL_law_779 : decode cL_law 779 = .ok (.aload_n 0, 1) := dk_42 (bs_at BL_law_756 17 rfl)
theorem dL_law_780 : decode cL_law 780 = .ok (.iload_n 3, 1) := dk_29 (bs_at BL_law_756 18 rfl)
theorem dL_law_781 : decode cL_law 781 = .ok (.iconst 1, 1) := dk_4 (bs_at BL_law_756 19 rfl)
theorem dL_law_782 : decode cL_law 782 = .ok (.iadd, 1) := dk_96 (bs_at BL_law_756 20 rfl)
theorem dL_law_783 : decode cL_law 783 = .ok (.iaload, 1) := dk_46 (bs_at BL_law_756 21 rfl)
theorem dL_law_784 : decode cL_law 784 = .ok (.invokevirtual 109, 3) := dk_182 0 109 (bs_at BL_law_756 22 rfl) rfl
theorem dL_law_787 : decode cL_law 787 = .ok (.pop, 1) := dk_87 (bs_at BL_law_756 23 rfl)
theorem BL_law_788 : bsegs (ByteArray.data cL_law |>.toList.drop 788) 788 [(788, [167, 1, 66]), (791, [43]), (792, [42]), (793, [29]), (794, [4]), (795, [96]), (796, [46]), (797, [42]), (798, [29]), (799, [5]), (800, [96]), (801, [46]), (802, [182, 0, 110]), (805, [87]), (806, [44]), (807, [42]), (808, [29]), (809, [4]), (810, [96]), (811, [46]), (812, [42]), (813, [29]), (814, [5]), (815, [96])] = true := by decide +kernel
theorem dL_law_788 : decode cL_law 788 = .ok (.goto 322, 3) := dk_167 1 66 (bs_at BL_law_788 0 rfl) rfl
theorem dL_law_791 : decode cL_law 791 = .ok (.aload_n 1, 1) := dk_43 (bs_at BL_law_788 1 rfl)
theorem dL_law_792 : decode cL_law 792 = .ok (.aload_n 0, 1) := dk_42 (bs_at BL_law_788 2 rfl)
theorem dL_law_793 : decode cL_law 793 = .ok (.iload_n 3, 1) := dk_29 (bs_at BL_law_788 3 rfl)
theorem dL_law_794 : decode cL_law 794 = .ok (.iconst 1, 1) := dk_4 (bs_at BL_law_788 4 rfl)
theorem dL_law_795 : decode cL_law 795 = .ok (.iadd, 1) := dk_96 (bs_at BL_law_788 5 rfl)
theorem dL_law_796 : decode cL_law 796 = .ok (.iaload, 1) := dk_46 (bs_at BL_law_788 6 rfl)
theorem dL_law_797 : decode cL_law 797 = .ok (.aload_n 0, 1) := dk_42 (bs_at BL_law_788 7 rfl)
theorem dL_law_798 : decode cL_law 798 = .ok (.iload_n 3, 1) := dk_29 (bs_at BL_law_788 8 rfl)
theorem dL_law_799 : decode cL_law 799 = .ok (.iconst 2, 1) := dk_5 (bs_at BL_law_788 9 rfl)
theorem dL_law_800 : decode cL_law 800 = .ok (.iadd, 1) := dk_96 (bs_at BL_law_788 10 rfl)
theorem dL_law_801 : decode cL_law 801 = .ok (.iaload, 1) := dk_46 (bs_at BL_law_788 11 rfl)
theorem dL_law_802 : decode cL_law 802 = .ok (.invokevirtual 110, 3) := dk_182 0 110 (bs_at BL_law_788 12 rfl) rfl
theorem dL_law_805 : decode cL_law 805 = .ok (.pop, 1) := dk_87 (bs_at BL_law_788 13 rfl)
theorem dL_law_806 : decode cL_law 806 = .ok (.aload_n 2, 1) := dk_44 (bs_at BL_law_788 14 rfl)
theorem dL_law_807 : decode cL_law 807 = .ok (.aload_n 0, 1) := dk_42 (bs_at BL_law_788 15 rfl)
theorem dL_law_808 : decode cL_law 808 = .ok (.iload_n 3, 1) := dk_29 (bs_at BL_law_788 16 rfl)
theorem dL_law_809 : decode cL_law 809 = .ok (.iconst 1, 1) := dk_4 (bs_at BL_law_788 17 rfl)
theorem dL_law_810 : decode cL_law 810 = .ok (.iadd, 1) := dk_96 (bs_at BL_law_788 18 rfl)
theorem dL_law_811 : decode cL_law 811 = .ok (.iaload, 1) := dk_46 (bs_at BL_law_788 19 rfl)
theorem dL_law_812 : decode cL_law 812 = .ok (.aload_n 0, 1) := dk_42 (bs_at BL_law_788 20 rfl)
theorem dL_law_813 : decode cL_law 813 = .ok (.iload_n 3, 1) := dk_29 (bs_at BL_law_788 21 rfl)
theorem dL_law_814 : decode cL_law 814 = .ok (.iconst 2, 1) := dk_5 (bs_at BL_law_788 22 rfl)
theorem dL_law_815 : decode cL_law 815 = .ok (.iadd, 1) := dk_96 (bs_at BL_law_788 23 rfl)
theorem BL_law_816 : bsegs (ByteArray.data cL_law |>.toList.drop 816) 816 [(816, [46]), (817, [182, 0, 113]), (820, [87]), (821, [167, 1, 33]), (824, [43]), (825, [42]), (826, [29]), (827, [4]), (828, [96]), (829, [46]), (830, [182, 0, 114]), (833, [87]), (834, [44]), (835, [42]), (836, [29]), (837, [4]), (838, [96]), (839, [46]), (840, [182, 0, 117]), (843, [87]), (844, [167, 1, 10]), (847, [43]), (848, [182, 0, 118]), (851, [87])] = true := by decide +kernel
theorem dL_law_816 : decode cL_law 816 = .ok (.iaload, 1) := dk_46 (bs_at BL_law_816 0 rfl)
theorem dL_law_817 : decode cL_law 817 = .ok (.invokevirtual 113, 3) := dk_182 0 113 (bs_at BL_law_816 1 rfl) rfl
theorem dL_law_820 : decode cL_law 820 = .ok (.pop, 1) := dk_87 (bs_at BL_law_816 2 rfl)
theorem dL_law_821 : decode cL_law 821 = .ok (.goto 289, 3) := dk_167 1 33 (bs_at BL_law_816 3 rfl) rfl
theorem dL_law_824 : decode cL_law 824 = .ok (.aload_n 1, 1) := dk_43 (bs_at BL_law_816 4 rfl)
theorem dL_law_825 : decode cL_law 825 = .ok (.aload_n 0, 1) := dk_42 (bs_at BL_law_816 5 rfl)
theorem dL_law_826 : decode cL_law 826 = .ok (.iload_n 3, 1) := dk_29 (bs_at BL_law_816 6 rfl)
theorem dL_law_827 : decode cL_law 827 = .ok (.iconst 1, 1) := dk_4 (bs_at BL_law_816 7 rfl)
theorem dL_law_828 : decode cL_law 828 = .ok (.iadd, 1) := dk_96 (bs_at BL_law_816 8 rfl)
theorem dL_law_829 : decode cL_law 829 = .ok (.iaload, 1) := dk_46 (bs_at BL_law_816 9 rfl)
theorem dL_law_830 : decode cL_law 830 = .ok (.invokevirtual 114, 3) := dk_182 0 114 (bs_at BL_law_816 10 rfl) rfl
theorem dL_law_833 : decode cL_law 833 = .ok (.pop, 1) := dk_87 (bs_at BL_law_816 11 rfl)
theorem dL_law_834 : decode cL_law 834 = .ok (.aload_n 2, 1) := dk_44 (bs_at BL_law_816 12 rfl)
theorem dL_law_835 : decode cL_law 835 = .ok (.aload_n 0, 1) := dk_42 (bs_at BL_law_816 13 rfl)
theorem dL_law_836 : decode cL_law 836 = .ok (.iload_n 3, 1) := dk_29 (bs_at BL_law_816 14 rfl)
theorem dL_law_837 : decode cL_law 837 = .ok (.iconst 1, 1) := dk_4 (bs_at BL_law_816 15 rfl)
theorem dL_law_838 : decode cL_law 838 = .ok (.iadd, 1) := dk_96 (bs_at BL_law_816 16 rfl)
theorem dL_law_839 : decode cL_law 839 = .ok (.iaload, 1) := dk_46 (bs_at BL_law_816 17 rfl)
theorem dL_law_840 : decode cL_law 840 = .ok (.invokevirtual 117, 3) := dk_182 0 117 (bs_at BL_law_816 18 rfl) rfl
theorem dL_law_843 : decode cL_law 843 = .ok (.pop, 1) := dk_87 (bs_at BL_law_816 19 rfl)
theorem dL_law_844 : decode cL_law 844 = .ok (.goto 266, 3) := dk_167 1 10 (bs_at BL_law_816 20 rfl) rfl
theorem dL_law_847 : decode cL_law 847 = .ok (.aload_n 1, 1) := dk_43 (bs_at BL_law_816 21 rfl)
theorem dL_law_848 : decode cL_law 848 = .ok (.invokevirtual 118, 3) := dk_182 0 118 (bs_at BL_law_816 22 rfl) rfl
theorem dL_law_851 : decode cL_law 851 = .ok (.pop, 1) := dk_87 (bs_at BL_law_816 23 rfl)
theorem BL_law_852 : bsegs (ByteArray.data cL_law |>.toList.drop 852) 852 [(852, [44]), (853, [182, 0, 121]), (856, [87]), (857, [167, 0, 253]), (860, [43]), (861, [42]), (862, [29]), (863, [4]), (864, [96]), (865, [46]), (866, [182, 0, 122]), (869, [87])] = true := by decide +kernel
theorem dL_law_852 : decode cL_law 852 = .ok (.aload_n 2, 1) := dk_44 (bs_at BL_law_852 0 rfl)
theorem dL_law_853 : decode cL_law 853 = .ok (.invokevirtual 121, 3) := dk_182 0 121 (bs_at BL_law_852 1 rfl) rfl
theorem dL_law_856 : decode cL_law 856 = .ok (.pop, 1) := dk_87 (bs_at BL_law_852 2 rfl)
theorem dL_law_857 : decode cL_law 857 = .ok (.goto 253, 3) := dk_167 0 253 (bs_at BL_law_852 3 rfl) rfl
theorem dL_law_860 : decode cL_law 860 = .ok (.aload_n 1, 1) := dk_43 (bs_at BL_law_852 4 rfl)
theorem dL_law_861 : decode cL_law 861 = .ok (.aload_n 0, 1) := dk_42 (bs_at BL_law_852 5 rfl)
theorem dL_law_862 : decode cL_law 862 = .ok (.iload_n 3, 1) := dk_29 (bs_at BL_law_852 6 rfl)
theorem dL_law_863 : decode cL_law 863 = .ok (.iconst 1, 1) := dk_4 (bs_at BL_law_852 7 rfl)
theorem dL_law_864 : decode cL_law 864 = .ok (.iadd, 1) := dk_96 (bs_at BL_law_852 8 rfl)
theorem dL_law_865 : decode cL_law 865 = .ok (.iaload, 1) := dk_46 (bs_at BL_law_852 9 rfl)
theorem dL_law_866 : decode cL_law 866 = .ok (.invokevirtual 122, 3) := dk_182 0 122 (bs_at BL_law_852 10 rfl) rfl
theorem dL_law_869 : decode cL_law 869 = .ok (.pop, 1) := dk_87 (bs_at BL_law_852 11 rfl)
end
section
theorem BL_law_870 : bsegs (ByteArray.data cL_law |>.toList.drop 870) 870 [(870, [44]), (871, [42]), (872, [29]), (873, [4]), (874, [96]), (875, [46]), (876, [182, 0, 125]), (879, [87]), (880, [167, 0, 230]), (883, [43]), (884, [42]), (885, [29]), (886, [4]), (887, [96]), (888, [46]), (889, [182, 0, 126]), (892, [87]), (893, [44]), (894, [42]), (895, [29]), (896, [4]), (897, [96]), (898, [46]), (899, [182, 0, 129])] = true := by decide +kernel
theorem dL_law_870 : decode cL_law 870 = .ok (.aload_n 2, 1) := dk_44 (bs_at BL_law_870 0 rfl)
theorem dL_law_871 : decode cL_law 871 = .ok (.aload_n 0, 1) := dk_42 (bs_at BL_law_870 1 rfl)
theorem dL_law_872 : decode cL_law 872 = .ok (.iload_n 3, 1) := dk_29 (bs_at BL_law_870 2 rfl)
theorem dL_law_873 : decode cL_law 873 = .ok (.iconst 1, 1) := dk_4 (bs_at BL_law_870 3 rfl)
theorem dL_law_874 : decode cL_law 874 = .ok (.iadd, 1) := dk_96 (bs_at BL_law_870 4 rfl)
theorem dL_law_875 : decode cL_law 875 = .ok (.iaload, 1) := dk_46 (bs_at BL_law_870 5 rfl)
theorem dL_law_876 : decode cL_law 876 = .ok (.invokevirtual 125, 3) := dk_182 0 125 (bs_at BL_law_870 6 rfl) rfl
theorem dL_law_879 : decode cL_law 879 = .ok (.pop, 1) := dk_87 (bs_at BL_law_870 7 rfl)
theorem dL_law_880 : decode cL_law 880 = .ok (.goto 230, 3) := dk_167 0 230 (bs_at BL_law_870 8 rfl) rfl
theorem dL_law_883 : decode cL_law 883 = .ok (.aload_n 1, 1) := dk_43 (bs_at BL_law_870 9 rfl)
theorem dL_law_884 : decode cL_law 884 = .ok (.aload_n 0, 1) := dk_42 (bs_at BL_law_870 10 rfl)
theorem dL_law_885 : decode cL_law 885 = .ok (.iload_n 3, 1) := dk_29 (bs_at BL_law_870 11 rfl)
theorem dL_law_886 : decode cL_law 886 = .ok (.iconst 1, 1) := dk_4 (bs_at BL_law_870 12 rfl)
theorem dL_law_887 : decode cL_law 887 = .ok (.iadd, 1) := dk_96 (bs_at BL_law_870 13 rfl)
theorem dL_law_888 : decode cL_law 888 = .ok (.iaload, 1) := dk_46 (bs_at BL_law_870 14 rfl)
theorem dL_law_889 : decode cL_law 889 = .ok (.invokevirtual 126, 3) := dk_182 0 126 (bs_at BL_law_870 15 rfl) rfl
theorem dL_law_892 : decode cL_law 892 = .ok (.pop, 1) := dk_87 (bs_at BL_law_870 16 rfl)
theorem dL_law_893 : decode cL_law 893 = .ok (.aload_n 2, 1) := dk_44 (bs_at BL_law_870 17 rfl)
theorem dL_law_894 : decode cL_law 894 = .ok (.aload_n 0, 1) := dk_42 (bs_at BL_law_870 18 rfl)
theorem dL_law_895 : decode cL_law 895 = .ok (.iload_n 3, 1) := dk_29 (bs_at BL_law_870 19 rfl)
theorem dL_law_896 : decode cL_law 896 = .ok (.iconst 1, 1) := dk_4 (bs_at BL_law_870 20 rfl)
theorem dL_law_897 : decode cL_law 897 = .ok (.iadd, 1) := dk_96 (bs_at BL_law_870 21 rfl)
theorem dL_law_898 : decode cL_law 898 = .ok (.iaload, 1) := dk_46 (bs_at BL_law_870 22 rfl)
theorem dL_law_899 : decode cL_law 899 = .ok (.invokevirtual 129, 3) := dk_182 0 129 (bs_at BL_law_870 23 rfl) rfl
theorem BL_law_902 : bsegs (ByteArray.data cL_law |>.toList.drop 902) 902 [(902, [87]), (903, [167, 0, 207]), (906, [43]), (907, [42]), (908, [29]), (909, [4]), (910, [96]), (911, [46]), (912, [182, 0, 130]), (915, [88]), (916, [44]), (917, [42]), (918, [29]), (919, [4]), (920, [96]), (921, [46]), (922, [182, 0, 134]), (925, [88]), (926, [167, 0, 184]), (929, [43]), (930, [42]), (931, [29]), (932, [4]), (933, [96])] = true := by decide +kernel
theorem dL_law_902 : decode cL_law 902 = .ok (.pop, 1) := dk_87 (bs_at BL_law_902 0 rfl)
theorem dL_law_903 : decode cL_law 903 = .ok (.goto 207, 3) := dk_167 0 207 (bs_at BL_law_902 1 rfl) rfl
theorem dL_law_906 : decode cL_law 906 = .ok (.aload_n 1, 1) := dk_43 (bs_at BL_law_902 2 rfl)
theorem dL_law_907 : decode cL_law 907 = .ok (.aload_n 0, 1) := dk_42 (bs_at BL_law_902 3 rfl)
theorem dL_law_908 : decode cL_law 908 = .ok (.iload_n 3, 1) := dk_29 (bs_at BL_law_902 4 rfl)
theorem dL_law_909 : decode cL_law 909 = .ok (.iconst 1, 1) := dk_4 (bs_at BL_law_902 5 rfl)
theorem dL_law_910 : decode cL_law 910 = .ok (.iadd, 1) := dk_96 (bs_at BL_law_902 6 rfl)
theorem dL_law_911 : decode cL_law 911 = .ok (.iaload, 1) := dk_46 (bs_at BL_law_902 7 rfl)
theorem dL_law_912 : decode cL_law 912 = .ok (.invokevirtual 130, 3) := dk_182 0 130 (bs_at BL_law_902 8 rfl) rfl
theorem dL_law_915 : decode cL_law 915 = .ok (.pop2, 1) := dk_88 (bs_at BL_law_902 9 rfl)
theorem dL_law_916 : decode cL_law 916 = .ok (.aload_n 2, 1) := dk_44 (bs_at BL_law_902 10 rfl)
theorem dL_law_917 : decode cL_law 917 = .ok (.aload_n 0, 1) := dk_42 (bs_at BL_law_902 11 rfl)
theorem dL_law_918 : decode cL_law 918 = .ok (.iload_n 3, 1) := dk_29 (bs_at BL_law_902 12 rfl)
theorem dL_law_919 : decode cL_law 919 = .ok (.iconst 1, 1) := dk_4 (bs_at BL_law_902 13 rfl)
theorem dL_law_920 : decode cL_law 920 = .ok (.iadd, 1) := dk_96 (bs_at BL_law_902 14 rfl)
theorem dL_law_921 : decode cL_law 921 = .ok (.iaload, 1) := dk_46 (bs_at BL_law_902 15 rfl)
theorem dL_law_922 : decode cL_law 922 = .ok (.invokevirtual 134, 3) := dk_182 0 134 (bs_at BL_law_902 16 rfl) rfl
theorem dL_law_925 : decode cL_law 925 = .ok (.pop2, 1) := dk_88 (bs_at BL_law_902 17 rfl)
theorem dL_law_926 : decode cL_law 926 = .ok (.goto 184, 3) := dk_167 0 184 (bs_at BL_law_902 18 rfl) rfl
theorem dL_law_929 : decode cL_law 929 = .ok (.aload_n 1, 1) := dk_43 (bs_at BL_law_902 19 rfl)
theorem dL_law_930 : decode cL_law 930 = .ok (.aload_n 0, 1) := dk_42 (bs_at BL_law_902 20 rfl)
theorem dL_law_931 : decode cL_law 931 = .ok (.iload_n 3, 1) := dk_29 (bs_at BL_law_902 21 rfl)
theorem dL_law_932 : decode cL_law 932 = .ok (.iconst 1, 1) := dk_4 (bs_at BL_law_902 22 rfl)
theorem dL_law_933 : decode cL_law 933 = .ok (.iadd, 1) := dk_96 (bs_at BL_law_902 23 rfl)
theorem BL_law_934 : bsegs (ByteArray.data cL_law |>.toList.drop 934) 934 [(934, [46]), (935, [42]), (936, [29]), (937, [5]), (938, [96]), (939, [46]), (940, [182, 0, 135]), (943, [87]), (944, [44]), (945, [42]), (946, [29]), (947, [4]), (948, [96]), (949, [46]), (950, [42]), (951, [29]), (952, [5]), (953, [96]), (954, [46]), (955, [182, 0, 138]), (958, [87]), (959, [167, 0, 151]), (962, [43]), (963, [42])] = true := by decide +kernel
theorem dL_law_934 : decode cL_law 934 = .ok (.iaload, 1) := dk_46 (bs_at BL_law_934 0 rfl)
theorem dL_law_935 : decode cL_law 935 = .ok (.aload_n 0, 1) := dk_42 (bs_at BL_law_934 1 rfl)
theorem dL_law_936 : decode cL_law 936 = .ok (.iload_n 3, 1) := dk_29 (bs_at BL_law_934 2 rfl)
theorem dL_law_937 : decode cL_law 937 = .ok (.iconst 2, 1) := dk_5 (bs_at BL_law_934 3 rfl)
theorem dL_law_938 : decode cL_law 938 = .ok (.iadd, 1) := dk_96 (bs_at BL_law_934 4 rfl)
theorem dL_law_939 : decode cL_law 939 = .ok (.iaload, 1) := dk_46 (bs_at BL_law_934 5 rfl)
theorem dL_law_940 : decode cL_law 940 = .ok (.invokevirtual 135, 3) := dk_182 0 135 (bs_at BL_law_934 6 rfl) rfl
theorem dL_law_943 : decode cL_law 943 = .ok (.pop, 1) := dk_87 (bs_at BL_law_934 7 rfl)
theorem dL_law_944 : decode cL_law 944 = .ok (.aload_n 2, 1) := dk_44 (bs_at BL_law_934 8 rfl)
theorem dL_law_945 : decode cL_law 945 = .ok (.aload_n 0, 1) := dk_42 (bs_at BL_law_934 9 rfl)
theorem dL_law_946 : decode cL_law 946 = .ok (.iload_n 3, 1) := dk_29 (bs_at BL_law_934 10 rfl)
theorem dL_law_947 : decode cL_law 947 = .ok (.iconst 1, 1) := dk_4 (bs_at BL_law_934 11 rfl)
theorem dL_law_948 : decode cL_law 948 = .ok (.iadd, 1) := dk_96 (bs_at BL_law_934 12 rfl)
theorem dL_law_949 : decode cL_law 949 = .ok (.iaload, 1) := dk_46 (bs_at BL_law_934 13 rfl)
theorem dL_law_950 : decode cL_law 950 = .ok (.aload_n 0, 1) := dk_42 (bs_at BL_law_934 14 rfl)
theorem dL_law_951 : decode cL_law 951 = .ok (.iload_n 3, 1) := dk_29 (bs_at BL_law_934 15 rfl)
theorem dL_law_952 : decode cL_law 952 = .ok (.iconst 2, 1) := dk_5 (bs_at BL_law_934 16 rfl)
theorem dL_law_953 : decode cL_law 953 = .ok (.iadd, 1) := dk_96 (bs_at BL_law_934 17 rfl)
theorem dL_law_954 : decode cL_law 954 = .ok (.iaload, 1) := dk_46 (bs_at BL_law_934 18 rfl)
theorem dL_law_955 : decode cL_law 955 = .ok (.invokevirtual 138, 3) := dk_182 0 138 (bs_at BL_law_934 19 rfl) rfl
theorem dL_law_958 : decode cL_law 958 = .ok (.pop, 1) := dk_87 (bs_at BL_law_934 20 rfl)
theorem dL_law_959 : decode cL_law 959 = .ok (.goto 151, 3) := dk_167 0 151 (bs_at BL_law_934 21 rfl) rfl
theorem dL_law_962 : decode cL_law 962 = .ok (.aload_n 1, 1) := dk_43 (bs_at BL_law_934 22 rfl)
theorem dL_law_963 : decode cL_law 963 = .ok (.aload_n 0, 1) := dk_42 (bs_at BL_law_934 23 rfl)
theorem BL_law_964 : bsegs (ByteArray.data cL_law |>.toList.drop 964) 964 [(964, [29]), (965, [4]), (966, [96]), (967, [46]), (968, [42]), (969, [29]), (970, [5]), (971, [96]), (972, [46]), (973, [182, 0, 139]), (976, [87]), (977, [44]), (978, [42]), (979, [29]), (980, [4]), (981, [96]), (982, [46]), (983, [42]), (984, [29]), (985, [5]), (986, [96]), (987, [46]), (988, [182, 0, 142]), (991, [87])] = true := by decide +kernel
theorem dL_law_964 : decode cL_law 964 = .ok (.iload_n 3, 1) := dk_29 (bs_at BL_law_964 0 rfl)
theorem dL_law_965 : decode cL_law 965 = .ok (.iconst 1, 1) := dk_4 (bs_at BL_law_964 1 rfl)
theorem dL_law_966 : decode cL_law 966 = .ok (.iadd, 1) := dk_96 (bs_at BL_law_964 2 rfl)
theorem dL_law_967 : decode cL_law 967 = .ok (.iaload, 1) := dk_46 (bs_at BL_law_964 3 rfl)
theorem dL_law_968 : decode cL_law 968 = .ok (.aload_n 0, 1) := dk_42 (bs_at BL_law_964 4 rfl)
theorem dL_law_969 : decode cL_law 969 = .ok (.iload_n 3, 1) := dk_29 (bs_at BL_law_964 5 rfl)
theorem dL_law_970 : decode cL_law 970 = .ok (.iconst 2, 1) := dk_5 (bs_at BL_law_964 6 rfl)
theorem dL_law_971 : decode cL_law 971 = .ok (.iadd, 1) := dk_96 (bs_at BL_law_964 7 rfl)
theorem dL_law_972 : decode cL_law 972 = .ok (.iaload, 1) := dk_46 (bs_at BL_law_964 8 rfl)
theorem dL_law_973 : decode cL_law 973 = .ok (.invokevirtual 139, 3) := dk_182 0 139 (bs_at BL_law_964 9 rfl) rfl
theorem dL_law_976 : decode cL_law 976 = .ok (.pop, 1) := dk_87 (bs_at BL_law_964 10 rfl)
theorem dL_law_977 : decode cL_law 977 = .ok (.aload_n 2, 1) := dk_44 (bs_at BL_law_964 11 rfl)
theorem dL_law_978 : decode cL_law 978 = .ok (.aload_n 0, 1) := dk_42 (bs_at BL_law_964 12 rfl)
theorem dL_law_979 : decode cL_law 979 = .ok (.iload_n 3, 1) := dk_29 (bs_at BL_law_964 13 rfl)
theorem dL_law_980 : decode cL_law 980 = .ok (.iconst 1, 1) := dk_4 (bs_at BL_law_964 14 rfl)
theorem dL_law_981 : decode cL_law 981 = .ok (.iadd, 1) := dk_96 (bs_at BL_law_964 15 rfl)
theorem dL_law_982 : decode cL_law 982 = .ok (.iaload, 1) := dk_46 (bs_at BL_law_964 16 rfl)
theorem dL_law_983 : decode cL_law 983 = .ok (.aload_n 0, 1) := dk_42 (bs_at BL_law_964 17 rfl)
theorem dL_law_984 : decode cL_law 984 = .ok (.iload_n 3, 1) := dk_29 (bs_at BL_law_964 18 rfl)
theorem dL_law_985 : decode cL_law 985 = .ok (.iconst 2, 1) := dk_5 (bs_at BL_law_964 19 rfl)
theorem dL_law_986 : decode cL_law 986 = .ok (.iadd, 1) := dk_96 (bs_at BL_law_964 20 rfl)
theorem dL_law_987 : decode cL_law 987 = .ok (.iaload, 1) := dk_46 (bs_at BL_law_964 21 rfl)
theorem dL_law_988 : decode cL_law 988 = .ok (.invokevirtual 142, 3) := dk_182 0 142 (bs_at BL_law_964 22 rfl) rfl
theorem dL_law_991 : decode cL_law 991 = .ok (.pop, 1) := dk_87 (bs_at BL_law_964 23 rfl)
theorem BL_law_992 : bsegs (ByteArray.data cL_law |>.toList.drop 992) 992 [(992, [167, 0, 118]), (995, [43]), (996, [42]), (997, [29]), (998, [4]), (999, [96]), (1000, [46]), (1001, [42]), (1002, [29]), (1003, [5]), (1004, [96]), (1005, [46]), (1006, [182, 0, 143]), (1009, [87]), (1010, [44]), (1011, [42]), (1012, [29]), (1013, [4]), (1014, [96]), (1015, [46]), (1016, [42]), (1017, [29]), (1018, [5]), (1019, [96])] = true := by decide +kernel
theorem dL_law_992 : decode cL_law 992 = .ok (.goto 118, 3) := dk_167 0 118 (bs_at BL_law_992 0 rfl) rfl
theorem dL_law_995 : decode cL_law 995 = .ok (.aload_n 1, 1) := dk_43 (bs_at BL_law_992 1 rfl)
theorem dL_law_996 : decode cL_law 996 = .ok (.aload_n 0, 1) := dk_42 (bs_at BL_law_992 2 rfl)
theorem dL_law_997 : decode cL_law 997 = .ok (.iload_n 3, 1) := dk_29 (bs_at BL_law_992 3 rfl)
theorem dL_law_998 : decode cL_law 998 = .ok (.iconst 1, 1) := dk_4 (bs_at BL_law_992 4 rfl)
theorem dL_law_999 : decode cL_law 999 = .ok (.iadd, 1) := dk_96 (bs_at BL_law_992 5 rfl)
theorem dL_law_1000 : decode cL_law 1000 = .ok (.iaload, 1) := dk_46 (bs_at BL_law_992 6 rfl)
theorem dL_law_1001 : decode cL_law 1001 = .ok (.aload_n 0, 1) := dk_42 (bs_at BL_law_992 7 rfl)
theorem dL_law_1002 : decode cL_law 1002 = .ok (.iload_n 3, 1) := dk_29 (bs_at BL_law_992 8 rfl)
theorem dL_law_1003 : decode cL_law 1003 = .ok (.iconst 2, 1) := dk_5 (bs_at BL_law_992 9 rfl)
theorem dL_law_1004 : decode cL_law 1004 = .ok (.iadd, 1) := dk_96 (bs_at BL_law_992 10 rfl)
theorem dL_law_1005 : decode cL_law 1005 = .ok (.iaload, 1) := dk_46 (bs_at BL_law_992 11 rfl)
theorem dL_law_1006 : decode cL_law 1006 = .ok (.invokevirtual 143, 3) := dk_182 0 143 (bs_at BL_law_992 12 rfl) rfl
theorem dL_law_1009 : decode cL_law 1009 = .ok (.pop, 1) := dk_87 (bs_at BL_law_992 13 rfl)
theorem dL_law_1010 : decode cL_law 1010 = .ok (.aload_n 2, 1) := dk_44 (bs_at BL_law_992 14 rfl)
theorem dL_law_1011 : decode cL_law 1011 = .ok (.aload_n 0, 1) := dk_42 (bs_at BL_law_992 15 rfl)
theorem dL_law_1012 : decode cL_law 1012 = .ok (.iload_n 3, 1) := dk_29 (bs_at BL_law_992 16 rfl)
theorem dL_law_1013 : decode cL_law 1013 = .ok (.iconst 1, 1) := dk_4 (bs_at BL_law_992 17 rfl)
theorem dL_law_1014 : decode cL_law 1014 = .ok (.iadd, 1) := dk_96 (bs_at BL_law_992 18 rfl)
theorem dL_law_1015 : decode cL_law 1015 = .ok (.iaload, 1) := dk_46 (bs_at BL_law_992 19 rfl)
theorem dL_law_1016 : decode cL_law 1016 = .ok (.aload_n 0, 1) := dk_42 (bs_at BL_law_992 20 rfl)
theorem dL_law_1017 : decode cL_law 1017 = .ok (.iload_n 3, 1) := dk_29 (bs_at BL_law_992 21 rfl)
theorem dL_law_1018 : decode cL_law 1018 = .ok (.iconst 2, 1) := dk_5 (bs_at BL_law_992 22 rfl)
theorem dL_law_1019 : decode cL_law 1019 = .ok (.iadd, 1) := dk_96 (bs_at BL_law_992 23 rfl)
theorem BL_law_1020 : bsegs (ByteArray.data cL_law |>.toList.drop 1020) 1020 [(1020, [46]), (1021, [182, 0, 146]), (1024, [87]), (1025, [167, 0, 85]), (1028, [43]), (1029, [42]), (1030, [29]), (1031, [4]), (1032, [96]), (1033, [46]), (1034, [182, 0, 147]), (1037, [87]), (1038, [44]), (1039, [42]), (1040, [29]), (1041, [4]), (1042, [96]), (1043, [46]), (1044, [182, 0, 150]), (1047, [87]), (1048, [167, 0, 62]), (1051, [43]), (1052, [42]), (1053, [29])] = true := by decide +kernel
theorem dL_law_1020 : decode cL_law 1020 = .ok (.iaload, 1) := dk_46 (bs_at BL_law_1020 0 rfl)
theorem dL_law_1021 : decode cL_law 1021 = .ok (.invokevirtual 146, 3) := dk_182 0 146 (bs_at BL_law_1020 1 rfl) rfl
theorem dL_law_1024 : decode cL_law 1024 = .ok (.pop, 1) := dk_87 (bs_at BL_law_1020 2 rfl)
theorem dL_law_1025 : decode cL_law 1025 = .ok (.goto 85, 3) := dk_167 0 85 (bs_at BL_law_1020 3 rfl) rfl
theorem dL_law_1028 : decode cL_law 1028 = .ok (.aload_n 1, 1) := dk_43 (bs_at BL_law_1020 4 rfl)
theorem dL_law_1029 : decode cL_law 1029 = .ok (.aload_n 0, 1) := dk_42 (bs_at BL_law_1020 5 rfl)
theorem dL_law_1030 : decode cL_law 1030 = .ok (.iload_n 3, 1) := dk_29 (bs_at BL_law_1020 6 rfl)
theorem dL_law_1031 : decode cL_law 1031 = .ok (.iconst 1, 1) := dk_4 (bs_at BL_law_1020 7 rfl)
theorem dL_law_1032 : decode cL_law 1032 = .ok (.iadd, 1) := dk_96 (bs_at BL_law_1020 8 rfl)
theorem dL_law_1033 : decode cL_law 1033 = .ok (.iaload, 1) := dk_46 (bs_at BL_law_1020 9 rfl)
theorem dL_law_1034 : decode cL_law 1034 = .ok (.invokevirtual 147, 3) := dk_182 0 147 (bs_at BL_law_1020 10 rfl) rfl
theorem dL_law_1037 : decode cL_law 1037 = .ok (.pop, 1) := dk_87 (bs_at BL_law_1020 11 rfl)
theorem dL_law_1038 : decode cL_law 1038 = .ok (.aload_n 2, 1) := dk_44 (bs_at BL_law_1020 12 rfl)
theorem dL_law_1039 : decode cL_law 1039 = .ok (.aload_n 0, 1) := dk_42 (bs_at BL_law_1020 13 rfl)
theorem dL_law_1040 : decode cL_law 1040 = .ok (.iload_n 3, 1) := dk_29 (bs_at BL_law_1020 14 rfl)
theorem dL_law_1041 : decode cL_law 1041 = .ok (.iconst 1, 1) := dk_4 (bs_at BL_law_1020 15 rfl)
theorem dL_law_1042 : decode cL_law 1042 = .ok (.iadd, 1) := dk_96 (bs_at BL_law_1020 16 rfl)
theorem dL_law_1043 : decode cL_law 1043 = .ok (.iaload, 1) := dk_46 (bs_at BL_law_1020 17 rfl)
theorem dL_law_1044 : decode cL_law 1044 = .ok (.invokevirtual 150, 3) := dk_182 0 150 (bs_at BL_law_1020 18 rfl) rfl
theorem dL_law_1047 : decode cL_law 1047 = .ok (.pop, 1) := dk_87 (bs_at BL_law_1020 19 rfl)
theorem dL_law_1048 : decode cL_law 1048 = .ok (.goto 62, 3) := dk_167 0 62 (bs_at BL_law_1020 20 rfl) rfl
theorem dL_law_1051 : decode cL_law 1051 = .ok (.aload_n 1, 1) := dk_43 (bs_at BL_law_1020 21 rfl)
theorem dL_law_1052 : decode cL_law 1052 = .ok (.aload_n 0, 1) := dk_42 (bs_at BL_law_1020 22 rfl)
theorem dL_law_1053 : decode cL_law 1053 = .ok (.iload_n 3, 1) := dk_29 (bs_at BL_law_1020 23 rfl)
theorem BL_law_1054 : bsegs (ByteArray.data cL_law |>.toList.drop 1054) 1054 [(1054, [4]), (1055, [96]), (1056, [46]), (1057, [182, 0, 151]), (1060, [87]), (1061, [44]), (1062, [42]), (1063, [29]), (1064, [4]), (1065, [96]), (1066, [46]), (1067, [182, 0, 154]), (1070, [87]), (1071, [167, 0, 39]), (1074, [43]), (1075, [42]), (1076, [29]), (1077, [4]), (1078, [96]), (1079, [46]), (1080, [182, 0, 155]), (1083, [87]), (1084, [44]), (1085, [42])] = true := by decide +kernel
theorem dL_law_1054 : decode cL_law 1054 = .ok (.iconst 1, 1) := dk_4 (bs_at BL_law_1054 0 rfl)
theorem dL_law_1055 : decode cL_law 1055 = .ok (.iadd, 1) := dk_96 (bs_at BL_law_1054 1 rfl)
theorem dL_law_1056 : decode cL_law 1056 = .ok (.iaload, 1) := dk_46 (bs_at BL_law_1054 2 rfl)
theorem dL_law_1057 : decode cL_law 1057 = .ok (.invokevirtual 151, 3) := dk_182 0 151 (bs_at BL_law_1054 3 rfl) rfl
theorem dL_law_1060 : decode cL_law 1060 = .ok (.pop, 1) := dk_87 (bs_at BL_law_1054 4 rfl)
theorem dL_law_1061 : decode cL_law 1061 = .ok (.aload_n 2, 1) := dk_44 (bs_at BL_law_1054 5 rfl)
theorem dL_law_1062 : decode cL_law 1062 = .ok (.aload_n 0, 1) := dk_42 (bs_at BL_law_1054 6 rfl)
theorem dL_law_1063 : decode cL_law 1063 = .ok (.iload_n 3, 1) := dk_29 (bs_at BL_law_1054 7 rfl)
theorem dL_law_1064 : decode cL_law 1064 = .ok (.iconst 1, 1) := dk_4 (bs_at BL_law_1054 8 rfl)
theorem dL_law_1065 : decode cL_law 1065 = .ok (.iadd, 1) := dk_96 (bs_at BL_law_1054 9 rfl)
theorem dL_law_1066 : decode cL_law 1066 = .ok (.iaload, 1) := dk_46 (bs_at BL_law_1054 10 rfl)
theorem dL_law_1067 : decode cL_law 1067 = .ok (.invokevirtual 154, 3) := dk_182 0 154 (bs_at BL_law_1054 11 rfl) rfl
theorem dL_law_1070 : decode cL_law 1070 = .ok (.pop, 1) := dk_87 (bs_at BL_law_1054 12 rfl)
theorem dL_law_1071 : decode cL_law 1071 = .ok (.goto 39, 3) := dk_167 0 39 (bs_at BL_law_1054 13 rfl) rfl
theorem dL_law_1074 : decode cL_law 1074 = .ok (.aload_n 1, 1) := dk_43 (bs_at BL_law_1054 14 rfl)
theorem dL_law_1075 : decode cL_law 1075 = .ok (.aload_n 0, 1) := dk_42 (bs_at BL_law_1054 15 rfl)
theorem dL_law_1076 : decode cL_law 1076 = .ok (.iload_n 3, 1) := dk_29 (bs_at BL_law_1054 16 rfl)
theorem dL_law_1077 : decode cL_law 1077 = .ok (.iconst 1, 1) := dk_4 (bs_at BL_law_1054 17 rfl)
theorem dL_law_1078 : decode cL_law 1078 = .ok (.iadd, 1) := dk_96 (bs_at BL_law_1054 18 rfl)
theorem dL_law_1079 : decode cL_law 1079 = .ok (.iaload, 1) := dk_46 (bs_at BL_law_1054 19 rfl)
theorem dL_law_1080 : decode cL_law 1080 = .ok (.invokevirtual 155, 3) := dk_182 0 155 (bs_at BL_law_1054 20 rfl) rfl
theorem dL_law_1083 : decode cL_law 1083 = .ok (.pop, 1) := dk_87 (bs_at BL_law_1054 21 rfl)
theorem dL_law_1084 : decode cL_law 1084 = .ok (.aload_n 2, 1) := dk_44 (bs_at BL_law_1054 22 rfl)
theorem dL_law_1085 : decode cL_law 1085 = .ok (.aload_n 0, 1) := dk_42 (bs_at BL_law_1054 23 rfl)
theorem BL_law_1086 : bsegs (ByteArray.data cL_law |>.toList.drop 1086) 1086 [(1086, [29]), (1087, [4]), (1088, [96]), (1089, [46]), (1090, [182, 0, 158]), (1093, [87]), (1094, [167, 0, 16]), (1097, [43]), (1098, [182, 0, 159]), (1101, [87]), (1102, [44]), (1103, [182, 0, 162])] = true := by decide +kernel
theorem dL_law_1086 : decode cL_law 1086 = .ok (.iload_n 3, 1) := dk_29 (bs_at BL_law_1086 0 rfl)
theorem dL_law_1087 : decode cL_law 1087 = .ok (.iconst 1, 1) := dk_4 (bs_at BL_law_1086 1 rfl)
theorem dL_law_1088 : decode cL_law 1088 = .ok (.iadd, 1) := dk_96 (bs_at BL_law_1086 2 rfl)
theorem dL_law_1089 : decode cL_law 1089 = .ok (.iaload, 1) := dk_46 (bs_at BL_law_1086 3 rfl)
theorem dL_law_1090 : decode cL_law 1090 = .ok (.invokevirtual 158, 3) := dk_182 0 158 (bs_at BL_law_1086 4 rfl) rfl
theorem dL_law_1093 : decode cL_law 1093 = .ok (.pop, 1) := dk_87 (bs_at BL_law_1086 5 rfl)
theorem dL_law_1094 : decode cL_law 1094 = .ok (.goto 16, 3) := dk_167 0 16 (bs_at BL_law_1086 6 rfl) rfl
theorem dL_law_1097 : decode cL_law 1097 = .ok (.aload_n 1, 1) := dk_43 (bs_at BL_law_1086 7 rfl)
theorem dL_law_1098 : decode cL_law 1098 = .ok (.invokevirtual 159, 3) := dk_182 0 159 (bs_at BL_law_1086 8 rfl) rfl
theorem dL_law_1101 : decode cL_law 1101 = .ok (.pop, 1) := dk_87 (bs_at BL_law_1086 9 rfl)
theorem dL_law_1102 : decode cL_law 1102 = .ok (.aload_n 2, 1) := dk_44 (bs_at BL_law_1086 10 rfl)
theorem dL_law_1103 : decode cL_law 1103 = .ok (.invokevirtual 162, 3) := dk_182 0 162 (bs_at BL_law_1086 11 rfl) rfl
end
section
theorem BL_law_1106 : bsegs (ByteArray.data cL_law |>.toList.drop 1106) 1106 [(1106, [87]), (1107, [167, 0, 3]), (1110, [132, 3, 6]), (1113, [167, 251, 185]), (1116, [4]), (1117, [172])] = true := by decide +kernel
theorem dL_law_1106 : decode cL_law 1106 = .ok (.pop, 1) := dk_87 (bs_at BL_law_1106 0 rfl)
theorem dL_law_1107 : decode cL_law 1107 = .ok (.goto 3, 3) := dk_167 0 3 (bs_at BL_law_1106 1 rfl) rfl
theorem dL_law_1110 : decode cL_law 1110 = .ok (.iinc 3 6, 3) := dk_132 3 6 (bs_at BL_law_1106 2 rfl) rfl
theorem dL_law_1113 : decode cL_law 1113 = .ok (.goto (-1095), 3) := dk_167 251 185 (bs_at BL_law_1106 3 rfl) rfl
theorem dL_law_1116 : decode cL_law 1116 = .ok (.iconst 1, 1) := dk_4 (bs_at BL_law_1106 4 rfl)
theorem dL_law_1117 : decode cL_law 1117 = .ok (.ireturn, 1) := dk_172 (bs_at BL_law_1106 5 rfl)
end
section
/-- the cells at these places -/
noncomputable def sel (ws : va_W) (is : List Nat) : va_W := is.map (fun i => (ws[i]?).getD (0, .inr (0, [])))
theorem sel_ok {ws : va_W} {is : List Nat} {N : Nat} (hN : ws.length = N) (h : is.all (fun i => Nat.ble (i + 1) N) = true) : is.map (fun i => ws[i]?) = (sel ws is).map some := by
  unfold sel
  rw [List.map_map]
  apply List.map_congr_left
  intro i hi
  have h1 : i < ws.length := by rw [hN]; exact Nat.le_of_ble_eq_true (List.all_eq_true.mp h i hi)
  show ws[i]? = some ((ws[i]?).getD (0, .inr (0, [])))
  rw [List.getElem?_eq_getElem h1]
  rfl
theorem sel_f {ws w : va_W} {is : List Nat} (h : is.map (fun i => ws[i]?) = w.map some) : is.map (fun i => (ws.map Prod.fst)[i]?) = w.map (fun x => some x.1) := by
  have h2 := congrArg (List.map (Option.map Prod.fst)) h
  rw [List.map_map, List.map_map] at h2
  have e : (fun i : Nat => (ws.map Prod.fst)[i]?) = (Option.map Prod.fst) ∘ (fun i : Nat => ws[i]?) := by
    funext i
    exact List.getElem?_map
  rw [e, h2]
  rfl
theorem sel_1 {ws wc wr b : va_W} {isC isR : List Nat} (hC : isC.map (fun i => ws[i]?) = wc.map some) (hR : isR.map (fun i => ws[i]?) = wr.map some) (hB : b.map Prod.fst = wc.map Prod.fst) : (isR ++ isC).map (fun i => (ws.map Prod.fst)[i]?) = (wr ++ b).map (fun x => some x.1) := by
  rw [List.map_append, List.map_append, sel_f hR, sel_f hC]
  have e : ∀ w : va_W, w.map (fun x => some x.1) = (w.map Prod.fst).map some := fun w => by rw [List.map_map]; rfl
  rw [e wc, e b, hB]
section LVS
variable {p : Program} {l : Launch} {e : Env} {R : Room} {s : State} {m : MethodId} {args : Array Value} {below : List Frame} {meth : Method} {c : Code} {H : Heap} {locs : List Loc} {cells slots : Nat} {Q : State → Prop}
variable {pc : Nat} {ls : Array Slot} {rest st0 : List Value} {a : Array Value} {A0 : Nat → Prop} {H0 : Heap} {mc ms : Nat} {D : va_G} {K : Nat → ClassId} {L : Nat → Prop} {G : Nat → LC} {ws wc : va_W}
theorem kciS {S : Type} {post : Int32 → S → Prop} {B : S → va_W} (hr : va_Run p l e R s m args below meth c H locs cells slots mc ms (F0 m pc ls st0) rest (va_Qi post (fun u t => Wd D (va_A wc H.size) (B u) t) (va_A wc H.size) a) (va_A wc H.size))
    (hP : va_P D vwCl ws H) (hD : va_D A0 ws) (hS : va_S A0 H0 H locs) (hA : ∀ q, H0.size ≤ q → A0 q) (hPl : Pool D K L G (va_A ws H.size) H) {N : Nat} (isC isR : List Nat) (hN9 : ws.length = N) (hC : isC.map (fun i => ws[i]?) = wc.map some) (hR : isR.all (fun i => Nat.ble (i + 1) N) = true) (hn : va_nd isR = true) (hdis : ∀ i ∈ isR, i ∉ isC) (hB9 : ∀ u, (B u).map Prod.fst = wc.map Prod.fst)
    (kk : ∀ (r : Int32) (u : S) (H1 : Heap) (locs1 : List Loc), post r u → va_P D vwCl (sel ws isR ++ B u) H1 → va_D A0 (sel ws isR ++ B u) → va_S A0 H0 H1 locs1 → Pool D K L G (va_A (sel ws isR ++ B u) H1.size) H1 → W p l e R s m args below meth c H1 locs1 (cells + mc) (slots + ms) Q (F0 m (pc + 3) ls (.int r :: rest))) : W p l e R s m args below meth c H locs cells slots Q (F0 m pc ls st0) :=
  kciP hr hP hD hS hA hPl isC isR (isR ++ isC) hC (sel_ok hN9 hR) hn hdis (fun u => sel_1 hC (sel_ok hN9 hR) (hB9 u)) kk
theorem kclS {S : Type} {post : Int64 → S → Prop} {B : S → va_W} (hr : va_Run p l e R s m args below meth c H locs cells slots mc ms (F0 m pc ls st0) rest (va_Ql post (fun u t => Wd D (va_A wc H.size) (B u) t) (va_A wc H.size) a) (va_A wc H.size))
    (hP : va_P D vwCl ws H) (hD : va_D A0 ws) (hS : va_S A0 H0 H locs) (hA : ∀ q, H0.size ≤ q → A0 q) (hPl : Pool D K L G (va_A ws H.size) H) {N : Nat} (isC isR : List Nat) (hN9 : ws.length = N) (hC : isC.map (fun i => ws[i]?) = wc.map some) (hR : isR.all (fun i => Nat.ble (i + 1) N) = true) (hn : va_nd isR = true) (hdis : ∀ i ∈ isR, i ∉ isC) (hB9 : ∀ u, (B u).map Prod.fst = wc.map Prod.fst)
    (kk : ∀ (r : Int64) (u : S) (H1 : Heap) (locs1 : List Loc), post r u → va_P D vwCl (sel ws isR ++ B u) H1 → va_D A0 (sel ws isR ++ B u) → va_S A0 H0 H1 locs1 → Pool D K L G (va_A (sel ws isR ++ B u) H1.size) H1 → W p l e R s m args below meth c H1 locs1 (cells + mc) (slots + ms) Q (F0 m (pc + 3) ls (.long r :: rest))) : W p l e R s m args below meth c H locs cells slots Q (F0 m pc ls st0) :=
  kclP hr hP hD hS hA hPl isC isR (isR ++ isC) hC (sel_ok hN9 hR) hn hdis (fun u => sel_1 hC (sel_ok hN9 hR) (hB9 u)) kk
end LVS
end
