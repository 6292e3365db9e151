set_option maxRecDepth 100000 in
theorem dB_L_law_0 : okD_ cL_law [(0, .new 8, 3), (3, .dup, 1), (4, .invokespecial 105, 3), (7, .astore_n 1, 1), (8, .new 106, 3), (11, .dup, 1), (12, .invokespecial 108, 3), (15, .astore_n 2, 1), (16, .iconst 1, 1), (17, .newarray .long, 2), (19, .astore_n 3, 1), (20, .iconst 1, 1), (21, .newarray .double, 2), (23, .astore 4, 2), (25, .iconst 0, 1), (26, .istore 5, 2), (28, .iload 5, 2), (30, .aload_n 0, 1), (31, .arraylength, 1), (32, .iconst 5, 1), (33, .isub, 1), (34, .if_icmp .gt 1257, 3), (37, .aload_n 0, 1), (38, .iload 5, 2), (40, .iaload, 1), (41, .bipush 31, 2), (43, .iand, 1), (44, .tableswitch 1241 0 31 #[144, 184, 212, 240, 292, 344, 372, 400, 428, 492, 532, 572, 612, 664, 692, 732, 760, 800, 840, 880, 920, 972, 1000, 1013, 1026, 1039, 1091, 1104, 1132, 1145, 1211, 1228], 144), (188, .aload_n 1, 1), (189, .aload_n 0, 1), (190, .iload 5, 2), (192, .iconst 1, 1), (193, .iadd, 1), (194, .iaload, 1), (195, .aload_n 0, 1), (196, .iload 5, 2), (198, .iconst 2, 1), (199, .iadd, 1), (200, .iaload, 1), (201, .aload_n 3, 1), (202, .invokestatic 109, 3), (205, .istore 6, 2), (207, .aload_n 2, 1), (208, .aload_n 0, 1), (209, .iload 5, 2), (211, .iconst 1, 1), (212, .iadd, 1), (213, .iaload, 1), (214, .aload_n 0, 1), (215, .iload 5, 2)] = true := by decide +kernel
theorem dL_law_0 : decode cL_law 0 = .ok (.new 8, 3) := okD_at (i := 0) dB_L_law_0 rfl
theorem dL_law_3 : decode cL_law 3 = .ok (.dup, 1) := okD_at (i := 1) dB_L_law_0 rfl
theorem dL_law_4 : decode cL_law 4 = .ok (.invokespecial 105, 3) := okD_at (i := 2) dB_L_law_0 rfl
theorem dL_law_7 : decode cL_law 7 = .ok (.astore_n 1, 1) := okD_at (i := 3) dB_L_law_0 rfl
theorem dL_law_8 : decode cL_law 8 = .ok (.new 106, 3) := okD_at (i := 4) dB_L_law_0 rfl
theorem dL_law_11 : decode cL_law 11 = .ok (.dup, 1) := okD_at (i := 5) dB_L_law_0 rfl
theorem dL_law_12 : decode cL_law 12 = .ok (.invokespecial 108, 3) := okD_at (i := 6) dB_L_law_0 rfl
theorem dL_law_15 : decode cL_law 15 = .ok (.astore_n 2, 1) := okD_at (i := 7) dB_L_law_0 rfl
theorem dL_law_16 : decode cL_law 16 = .ok (.iconst 1, 1) := okD_at (i := 8) dB_L_law_0 rfl
theorem dL_law_17 : decode cL_law 17 = .ok (.newarray .long, 2) := okD_at (i := 9) dB_L_law_0 rfl
theorem dL_law_19 : decode cL_law 19 = .ok (.astore_n 3, 1) := okD_at (i := 10) dB_L_law_0 rfl
theorem dL_law_20 : decode cL_law 20 = .ok (.iconst 1, 1) := okD_at (i := 11) dB_L_law_0 rfl
theorem dL_law_21 : decode cL_law 21 = .ok (.newarray .double, 2) := okD_at (i := 12) dB_L_law_0 rfl
theorem dL_law_23 : decode cL_law 23 = .ok (.astore 4, 2) := okD_at (i := 13) dB_L_law_0 rfl
theorem dL_law_25 : decode cL_law 25 = .ok (.iconst 0, 1) := okD_at (i := 14) dB_L_law_0 rfl
theorem dL_law_26 : decode cL_law 26 = .ok (.istore 5, 2) := okD_at (i := 15) dB_L_law_0 rfl
theorem dL_law_28 : decode cL_law 28 = .ok (.iload 5, 2) := okD_at (i := 16) dB_L_law_0 rfl
theorem dL_law_30 : decode cL_law 30 = .ok (.aload_n 0, 1) := okD_at (i := 17) dB_L_law_0 rfl
theorem dL_law_31 : decode cL_law 31 = .ok (.arraylength, 1) := okD_at (i := 18) dB_L_law_0 rfl
theorem dL_law_32 : decode cL_law 32 = .ok (.iconst 5, 1) := okD_at (i := 19) dB_L_law_0 rfl
theorem dL_law_33 : decode cL_law 33 = .ok (.isub, 1) := okD_at (i := 20) dB_L_law_0 rfl
theorem dL_law_34 : decode cL_law 34 = .ok (.if_icmp .gt 1257, 3) := okD_at (i := 21) dB_L_law_0 rfl
theorem dL_law_37 : decode cL_law 37 = .ok (.aload_n 0, 1) := okD_at (i := 22) dB_L_law_0 rfl
theorem dL_law_38 : decode cL_law 38 = .ok (.iload 5, 2) := okD_at (i := 23) dB_L_law_0 rfl
theorem dL_law_40 : decode cL_law 40 = .ok (.iaload, 1) := okD_at (i := 24) dB_L_law_0 rfl
theorem dL_law_41 : decode cL_law 41 = .ok (.bipush 31, 2) := okD_at (i := 25) dB_L_law_0 rfl
theorem dL_law_43 : decode cL_law 43 = .ok (.iand, 1) := okD_at (i := 26) dB_L_law_0 rfl
theorem dL_law_44 : decode cL_law 44 = .ok (.tableswitch 1241 0 31 #[144, 184, 212, 240, 292, 344, 372, 400, 428, 492, 532, 572, 612, 664, 692, 732, 760, 800, 840, 880, 920, 972, 1000, 1013, 1026, 1039, 1091, 1104, 1132, 1145, 1211, 1228], 144) := okD_at (i := 27) dB_L_law_0 rfl
theorem dL_law_188 : decode cL_law 188 = .ok (.aload_n 1, 1) := okD_at (i := 28) dB_L_law_0 rfl
theorem dL_law_189 : decode cL_law 189 = .ok (.aload_n 0, 1) := okD_at (i := 29) dB_L_law_0 rfl
theorem dL_law_190 : decode cL_law 190 = .ok (.iload 5, 2) := okD_at (i := 30) dB_L_law_0 rfl
theorem dL_law_192 : decode cL_law 192 = .ok (.iconst 1, 1) := okD_at (i := 31) dB_L_law_0 rfl
theorem dL_law_193 : decode cL_law 193 = .ok (.iadd, 1) := okD_at (i := 32) dB_L_law_0 rfl
theorem dL_law_194 : decode cL_law 194 = .ok (.iaload, 1) := okD_at (i := 33) dB_L_law_0 rfl
theorem dL_law_195 : decode cL_law 195 = .ok (.aload_n 0, 1) := okD_at (i := 34) dB_L_law_0 rfl
theorem dL_law_196 : decode cL_law 196 = .ok (.iload 5, 2) := okD_at (i := 35) dB_L_law_0 rfl
theorem dL_law_198 : decode cL_law 198 = .ok (.iconst 2, 1) := okD_at (i := 36) dB_L_law_0 rfl
theorem dL_law_199 : decode cL_law 199 = .ok (.iadd, 1) := okD_at (i := 37) dB_L_law_0 rfl
theorem dL_law_200 : decode cL_law 200 = .ok (.iaload, 1) := okD_at (i := 38) dB_L_law_0 rfl
theorem dL_law_201 : decode cL_law 201 = .ok (.aload_n 3, 1) := okD_at (i := 39) dB_L_law_0 rfl
theorem dL_law_202 : decode cL_law 202 = .ok (.invokestatic 109, 3) := okD_at (i := 40) dB_L_law_0 rfl
theorem dL_law_205 : decode cL_law 205 = .ok (.istore 6, 2) := okD_at (i := 41) dB_L_law_0 rfl
theorem dL_law_207 : decode cL_law 207 = .ok (.aload_n 2, 1) := okD_at (i := 42) dB_L_law_0 rfl
theorem dL_law_208 : decode cL_law 208 = .ok (.aload_n 0, 1) := okD_at (i := 43) dB_L_law_0 rfl
theorem dL_law_209 : decode cL_law 209 = .ok (.iload 5, 2) := okD_at (i := 44) dB_L_law_0 rfl
theorem dL_law_211 : decode cL_law 211 = .ok (.iconst 1, 1) := okD_at (i := 45) dB_L_law_0 rfl
theorem dL_law_212 : decode cL_law 212 = .ok (.iadd, 1) := okD_at (i := 46) dB_L_law_0 rfl
theorem dL_law_213 : decode cL_law 213 = .ok (.iaload, 1) := okD_at (i := 47) dB_L_law_0 rfl
theorem dL_law_214 : decode cL_law 214 = .ok (.aload_n 0, 1) := okD_at (i := 48) dB_L_law_0 rfl
theorem dL_law_215 : decode cL_law 215 = .ok (.iload 5, 2) := okD_at (i := 49) dB_L_law_0 rfl
set_option maxRecDepth 100000 in
theorem dB_L_law_1 : okD_ cL_law [(217, .iconst 2, 1), (218, .iadd, 1), (219, .iaload, 1), (220, .invokevirtual 114, 3), (223, .istore 7, 2), (225, .goto 1060, 3), (228, .aload_n 1, 1), (229, .aload_n 0, 1), (230, .iload 5, 2), (232, .iconst 1, 1), (233, .iadd, 1), (234, .iaload, 1), (235, .aload_n 3, 1), (236, .invokestatic 115, 3), (239, .istore 6, 2), (241, .aload_n 2, 1), (242, .aload_n 0, 1), (243, .iload 5, 2), (245, .iconst 1, 1), (246, .iadd, 1), (247, .iaload, 1), (248, .invokevirtual 118, 3), (251, .istore 7, 2), (253, .goto 1032, 3), (256, .aload_n 1, 1), (257, .aload_n 0, 1), (258, .iload 5, 2), (260, .iconst 1, 1), (261, .iadd, 1), (262, .iaload, 1), (263, .aload_n 3, 1), (264, .invokestatic 119, 3), (267, .istore 6, 2), (269, .aload_n 2, 1), (270, .aload_n 0, 1), (271, .iload 5, 2), (273, .iconst 1, 1), (274, .iadd, 1), (275, .iaload, 1), (276, .invokevirtual 121, 3), (279, .istore 7, 2), (281, .goto 1004, 3), (284, .aload_n 1, 1), (285, .aload_n 0, 1), (286, .iload 5, 2), (288, .iconst 1, 1), (289, .iadd, 1), (290, .iaload, 1), (291, .aload_n 0, 1), (292, .iload 5, 2)] = true := by decide +kernel
theorem dL_law_217 : decode cL_law 217 = .ok (.iconst 2, 1) := okD_at (i := 0) dB_L_law_1 rfl
theorem dL_law_218 : decode cL_law 218 = .ok (.iadd, 1) := okD_at (i := 1) dB_L_law_1 rfl
theorem dL_law_219 : decode cL_law 219 = .ok (.iaload, 1) := okD_at (i := 2) dB_L_law_1 rfl
theorem dL_law_220 : decode cL_law 220 = .ok (.invokevirtual 114, 3) := okD_at (i := 3) dB_L_law_1 rfl
theorem dL_law_223 : decode cL_law 223 = .ok (.istore 7, 2) := okD_at (i := 4) dB_L_law_1 rfl
theorem dL_law_225 : decode cL_law 225 = .ok (.goto 1060, 3) := okD_at (i := 5) dB_L_law_1 rfl
theorem dL_law_228 : decode cL_law 228 = .ok (.aload_n 1, 1) := okD_at (i := 6) dB_L_law_1 rfl
theorem dL_law_229 : decode cL_law 229 = .ok (.aload_n 0, 1) := okD_at (i := 7) dB_L_law_1 rfl
theorem dL_law_230 : decode cL_law 230 = .ok (.iload 5, 2) := okD_at (i := 8) dB_L_law_1 rfl
theorem dL_law_232 : decode cL_law 232 = .ok (.iconst 1, 1) := okD_at (i := 9) dB_L_law_1 rfl
theorem dL_law_233 : decode cL_law 233 = .ok (.iadd, 1) := okD_at (i := 10) dB_L_law_1 rfl
theorem dL_law_234 : decode cL_law 234 = .ok (.iaload, 1) := okD_at (i := 11) dB_L_law_1 rfl
theorem dL_law_235 : decode cL_law 235 = .ok (.aload_n 3, 1) := okD_at (i := 12) dB_L_law_1 rfl
theorem dL_law_236 : decode cL_law 236 = .ok (.invokestatic 115, 3) := okD_at (i := 13) dB_L_law_1 rfl
theorem dL_law_239 : decode cL_law 239 = .ok (.istore 6, 2) := okD_at (i := 14) dB_L_law_1 rfl
theorem dL_law_241 : decode cL_law 241 = .ok (.aload_n 2, 1) := okD_at (i := 15) dB_L_law_1 rfl
theorem dL_law_242 : decode cL_law 242 = .ok (.aload_n 0, 1) := okD_at (i := 16) dB_L_law_1 rfl
theorem dL_law_243 : decode cL_law 243 = .ok (.iload 5, 2) := okD_at (i := 17) dB_L_law_1 rfl
theorem dL_law_245 : decode cL_law 245 = .ok (.iconst 1, 1) := okD_at (i := 18) dB_L_law_1 rfl
theorem dL_law_246 : decode cL_law 246 = .ok (.iadd, 1) := okD_at (i := 19) dB_L_law_1 rfl
theorem dL_law_247 : decode cL_law 247 = .ok (.iaload, 1) := okD_at (i := 20) dB_L_law_1 rfl
theorem dL_law_248 : decode cL_law 248 = .ok (.invokevirtual 118, 3) := okD_at (i := 21) dB_L_law_1 rfl
theorem dL_law_251 : decode cL_law 251 = .ok (.istore 7, 2) := okD_at (i := 22) dB_L_law_1 rfl
theorem dL_law_253 : decode cL_law 253 = .ok (.goto 1032, 3) := okD_at (i := 23) dB_L_law_1 rfl
theorem dL_law_256 : decode cL_law 256 = .ok (.aload_n 1, 1) := okD_at (i := 24) dB_L_law_1 rfl
theorem dL_law_257 : decode cL_law 257 = .ok (.aload_n 0, 1) := okD_at (i := 25) dB_L_law_1 rfl
theorem dL_law_258 : decode cL_law 258 = .ok (.iload 5, 2) := okD_at (i := 26) dB_L_law_1 rfl
theorem dL_law_260 : decode cL_law 260 = .ok (.iconst 1, 1) := okD_at (i := 27) dB_L_law_1 rfl
theorem dL_law_261 : decode cL_law 261 = .ok (.iadd, 1) := okD_at (i := 28) dB_L_law_1 rfl
theorem dL_law_262 : decode cL_law 262 = .ok (.iaload, 1) := okD_at (i := 29) dB_L_law_1 rfl
theorem dL_law_263 : decode cL_law 263 = .ok (.aload_n 3, 1) := okD_at (i := 30) dB_L_law_1 rfl
theorem dL_law_264 : decode cL_law 264 = .ok (.invokestatic 119, 3) := okD_at (i := 31) dB_L_law_1 rfl
theorem dL_law_267 : decode cL_law 267 = .ok (.istore 6, 2) := okD_at (i := 32) dB_L_law_1 rfl
theorem dL_law_269 : decode cL_law 269 = .ok (.aload_n 2, 1) := okD_at (i := 33) dB_L_law_1 rfl
theorem dL_law_270 : decode cL_law 270 = .ok (.aload_n 0, 1) := okD_at (i := 34) dB_L_law_1 rfl
theorem dL_law_271 : decode cL_law 271 = .ok (.iload 5, 2) := okD_at (i := 35) dB_L_law_1 rfl
theorem dL_law_273 : decode cL_law 273 = .ok (.iconst 1, 1) := okD_at (i := 36) dB_L_law_1 rfl
theorem dL_law_274 : decode cL_law 274 = .ok (.iadd, 1) := okD_at (i := 37) dB_L_law_1 rfl
theorem dL_law_275 : decode cL_law 275 = .ok (.iaload, 1) := okD_at (i := 38) dB_L_law_1 rfl
theorem dL_law_276 : decode cL_law 276 = .ok (.invokevirtual 121, 3) := okD_at (i := 39) dB_L_law_1 rfl
theorem dL_law_279 : decode cL_law 279 = .ok (.istore 7, 2) := okD_at (i := 40) dB_L_law_1 rfl
theorem dL_law_281 : decode cL_law 281 = .ok (.goto 1004, 3) := okD_at (i := 41) dB_L_law_1 rfl
theorem dL_law_284 : decode cL_law 284 = .ok (.aload_n 1, 1) := okD_at (i := 42) dB_L_law_1 rfl
theorem dL_law_285 : decode cL_law 285 = .ok (.aload_n 0, 1) := okD_at (i := 43) dB_L_law_1 rfl
theorem dL_law_286 : decode cL_law 286 = .ok (.iload 5, 2) := okD_at (i := 44) dB_L_law_1 rfl
theorem dL_law_288 : decode cL_law 288 = .ok (.iconst 1, 1) := okD_at (i := 45) dB_L_law_1 rfl
theorem dL_law_289 : decode cL_law 289 = .ok (.iadd, 1) := okD_at (i := 46) dB_L_law_1 rfl
theorem dL_law_290 : decode cL_law 290 = .ok (.iaload, 1) := okD_at (i := 47) dB_L_law_1 rfl
theorem dL_law_291 : decode cL_law 291 = .ok (.aload_n 0, 1) := okD_at (i := 48) dB_L_law_1 rfl
theorem dL_law_292 : decode cL_law 292 = .ok (.iload 5, 2) := okD_at (i := 49) dB_L_law_1 rfl
set_option maxRecDepth 100000 in
theorem dB_L_law_2 : okD_ cL_law [(294, .iconst 2, 1), (295, .iadd, 1), (296, .iaload, 1), (297, .aload_n 0, 1), (298, .iload 5, 2), (300, .iconst 3, 1), (301, .iadd, 1), (302, .iaload, 1), (303, .aload_n 3, 1), (304, .invokestatic 122, 3), (307, .istore 6, 2), (309, .aload_n 2, 1), (310, .aload_n 0, 1), (311, .iload 5, 2), (313, .iconst 1, 1), (314, .iadd, 1), (315, .iaload, 1), (316, .aload_n 0, 1), (317, .iload 5, 2), (319, .iconst 2, 1), (320, .iadd, 1), (321, .iaload, 1), (322, .aload_n 0, 1), (323, .iload 5, 2), (325, .iconst 3, 1), (326, .iadd, 1), (327, .iaload, 1), (328, .invokevirtual 125, 3), (331, .istore 7, 2), (333, .goto 952, 3), (336, .aload_n 1, 1), (337, .aload_n 0, 1), (338, .iload 5, 2), (340, .iconst 1, 1), (341, .iadd, 1), (342, .iaload, 1), (343, .aload_n 0, 1), (344, .iload 5, 2), (346, .iconst 2, 1), (347, .iadd, 1), (348, .iaload, 1), (349, .aload_n 0, 1), (350, .iload 5, 2), (352, .iconst 3, 1), (353, .iadd, 1), (354, .iaload, 1), (355, .aload_n 3, 1), (356, .invokestatic 126, 3), (359, .istore 6, 2), (361, .aload_n 2, 1)] = true := by decide +kernel
theorem dL_law_294 : decode cL_law 294 = .ok (.iconst 2, 1) := okD_at (i := 0) dB_L_law_2 rfl
theorem dL_law_295 : decode cL_law 295 = .ok (.iadd, 1) := okD_at (i := 1) dB_L_law_2 rfl
theorem dL_law_296 : decode cL_law 296 = .ok (.iaload, 1) := okD_at (i := 2) dB_L_law_2 rfl
theorem dL_law_297 : decode cL_law 297 = .ok (.aload_n 0, 1) := okD_at (i := 3) dB_L_law_2 rfl
theorem dL_law_298 : decode cL_law 298 = .ok (.iload 5, 2) := okD_at (i := 4) dB_L_law_2 rfl
theorem dL_law_300 : decode cL_law 300 = .ok (.iconst 3, 1) := okD_at (i := 5) dB_L_law_2 rfl
theorem dL_law_301 : decode cL_law 301 = .ok (.iadd, 1) := okD_at (i := 6) dB_L_law_2 rfl
theorem dL_law_302 : decode cL_law 302 = .ok (.iaload, 1) := okD_at (i := 7) dB_L_law_2 rfl
theorem dL_law_303 : decode cL_law 303 = .ok (.aload_n 3, 1) := okD_at (i := 8) dB_L_law_2 rfl
theorem dL_law_304 : decode cL_law 304 = .ok (.invokestatic 122, 3) := okD_at (i := 9) dB_L_law_2 rfl
theorem dL_law_307 : decode cL_law 307 = .ok (.istore 6, 2) := okD_at (i := 10) dB_L_law_2 rfl
theorem dL_law_309 : decode cL_law 309 = .ok (.aload_n 2, 1) := okD_at (i := 11) dB_L_law_2 rfl
theorem dL_law_310 : decode cL_law 310 = .ok (.aload_n 0, 1) := okD_at (i := 12) dB_L_law_2 rfl
theorem dL_law_311 : decode cL_law 311 = .ok (.iload 5, 2) := okD_at (i := 13) dB_L_law_2 rfl
theorem dL_law_313 : decode cL_law 313 = .ok (.iconst 1, 1) := okD_at (i := 14) dB_L_law_2 rfl
theorem dL_law_314 : decode cL_law 314 = .ok (.iadd, 1) := okD_at (i := 15) dB_L_law_2 rfl
theorem dL_law_315 : decode cL_law 315 = .ok (.iaload, 1) := okD_at (i := 16) dB_L_law_2 rfl
theorem dL_law_316 : decode cL_law 316 = .ok (.aload_n 0, 1) := okD_at (i := 17) dB_L_law_2 rfl
theorem dL_law_317 : decode cL_law 317 = .ok (.iload 5, 2) := okD_at (i := 18) dB_L_law_2 rfl
theorem dL_law_319 : decode cL_law 319 = .ok (.iconst 2, 1) := okD_at (i := 19) dB_L_law_2 rfl
theorem dL_law_320 : decode cL_law 320 = .ok (.iadd, 1) := okD_at (i := 20) dB_L_law_2 rfl
theorem dL_law_321 : decode cL_law 321 = .ok (.iaload, 1) := okD_at (i := 21) dB_L_law_2 rfl
theorem dL_law_322 : decode cL_law 322 = .ok (.aload_n 0, 1) := okD_at (i := 22) dB_L_law_2 rfl
theorem dL_law_323 : decode cL_law 323 = .ok (.iload 5, 2) := okD_at (i := 23) dB_L_law_2 rfl
theorem dL_law_325 : decode cL_law 325 = .ok (.iconst 3, 1) := okD_at (i := 24) dB_L_law_2 rfl
theorem dL_law_326 : decode cL_law 326 = .ok (.iadd, 1) := okD_at (i := 25) dB_L_law_2 rfl
theorem dL_law_327 : decode cL_law 327 = .ok (.iaload, 1) := okD_at (i := 26) dB_L_law_2 rfl
theorem dL_law_328 : decode cL_law 328 = .ok (.invokevirtual 125, 3) := okD_at (i := 27) dB_L_law_2 rfl
theorem dL_law_331 : decode cL_law 331 = .ok (.istore 7, 2) := okD_at (i := 28) dB_L_law_2 rfl
theorem dL_law_333 : decode cL_law 333 = .ok (.goto 952, 3) := okD_at (i := 29) dB_L_law_2 rfl
theorem dL_law_336 : decode cL_law 336 = .ok (.aload_n 1, 1) := okD_at (i := 30) dB_L_law_2 rfl
theorem dL_law_337 : decode cL_law 337 = .ok (.aload_n 0, 1) := okD_at (i := 31) dB_L_law_2 rfl
theorem dL_law_338 : decode cL_law 338 = .ok (.iload 5, 2) := okD_at (i := 32) dB_L_law_2 rfl
theorem dL_law_340 : decode cL_law 340 = .ok (.iconst 1, 1) := okD_at (i := 33) dB_L_law_2 rfl
theorem dL_law_341 : decode cL_law 341 = .ok (.iadd, 1) := okD_at (i := 34) dB_L_law_2 rfl
theorem dL_law_342 : decode cL_law 342 = .ok (.iaload, 1) := okD_at (i := 35) dB_L_law_2 rfl
theorem dL_law_343 : decode cL_law 343 = .ok (.aload_n 0, 1) := okD_at (i := 36) dB_L_law_2 rfl
theorem dL_law_344 : decode cL_law 344 = .ok (.iload 5, 2) := okD_at (i := 37) dB_L_law_2 rfl
theorem dL_law_346 : decode cL_law 346 = .ok (.iconst 2, 1) := okD_at (i := 38) dB_L_law_2 rfl
theorem dL_law_347 : decode cL_law 347 = .ok (.iadd, 1) := okD_at (i := 39) dB_L_law_2 rfl
theorem dL_law_348 : decode cL_law 348 = .ok (.iaload, 1) := okD_at (i := 40) dB_L_law_2 rfl
theorem dL_law_349 : decode cL_law 349 = .ok (.aload_n 0, 1) := okD_at (i := 41) dB_L_law_2 rfl
theorem dL_law_350 : decode cL_law 350 = .ok (.iload 5, 2) := okD_at (i := 42) dB_L_law_2 rfl
theorem dL_law_352 : decode cL_law 352 = .ok (.iconst 3, 1) := okD_at (i := 43) dB_L_law_2 rfl
theorem dL_law_353 : decode cL_law 353 = .ok (.iadd, 1) := okD_at (i := 44) dB_L_law_2 rfl
theorem dL_law_354 : decode cL_law 354 = .ok (.iaload, 1) := okD_at (i := 45) dB_L_law_2 rfl
theorem dL_law_355 : decode cL_law 355 = .ok (.aload_n 3, 1) := okD_at (i := 46) dB_L_law_2 rfl
theorem dL_law_356 : decode cL_law 356 = .ok (.invokestatic 126, 3) := okD_at (i := 47) dB_L_law_2 rfl
theorem dL_law_359 : decode cL_law 359 = .ok (.istore 6, 2) := okD_at (i := 48) dB_L_law_2 rfl
theorem dL_law_361 : decode cL_law 361 = .ok (.aload_n 2, 1) := okD_at (i := 49) dB_L_law_2 rfl
set_option maxRecDepth 100000 in
theorem dB_L_law_3 : okD_ cL_law [(362, .aload_n 0, 1), (363, .iload 5, 2), (365, .iconst 1, 1), (366, .iadd, 1), (367, .iaload, 1), (368, .aload_n 0, 1), (369, .iload 5, 2), (371, .iconst 2, 1), (372, .iadd, 1), (373, .iaload, 1), (374, .aload_n 0, 1), (375, .iload 5, 2), (377, .iconst 3, 1), (378, .iadd, 1), (379, .iaload, 1), (380, .invokevirtual 128, 3), (383, .istore 7, 2), (385, .goto 900, 3), (388, .aload_n 1, 1), (389, .aload_n 0, 1), (390, .iload 5, 2), (392, .iconst 1, 1), (393, .iadd, 1), (394, .iaload, 1), (395, .aload_n 3, 1), (396, .invokestatic 129, 3), (399, .istore 6, 2), (401, .aload_n 2, 1), (402, .aload_n 0, 1), (403, .iload 5, 2), (405, .iconst 1, 1), (406, .iadd, 1), (407, .iaload, 1), (408, .invokevirtual 131, 3), (411, .istore 7, 2), (413, .goto 872, 3), (416, .aload_n 1, 1), (417, .aload_n 0, 1), (418, .iload 5, 2), (420, .iconst 1, 1), (421, .iadd, 1), (422, .iaload, 1), (423, .aload_n 3, 1), (424, .invokestatic 132, 3), (427, .istore 6, 2), (429, .aload_n 2, 1), (430, .aload_n 0, 1), (431, .iload 5, 2), (433, .iconst 1, 1), (434, .iadd, 1)] = true := by decide +kernel
theorem dL_law_362 : decode cL_law 362 = .ok (.aload_n 0, 1) := okD_at (i := 0) dB_L_law_3 rfl
theorem dL_law_363 : decode cL_law 363 = .ok (.iload 5, 2) := okD_at (i := 1) dB_L_law_3 rfl
theorem dL_law_365 : decode cL_law 365 = .ok (.iconst 1, 1) := okD_at (i := 2) dB_L_law_3 rfl
theorem dL_law_366 : decode cL_law 366 = .ok (.iadd, 1) := okD_at (i := 3) dB_L_law_3 rfl
theorem dL_law_367 : decode cL_law 367 = .ok (.iaload, 1) := okD_at (i := 4) dB_L_law_3 rfl
theorem dL_law_368 : decode cL_law 368 = .ok (.aload_n 0, 1) := okD_at (i := 5) dB_L_law_3 rfl
theorem dL_law_369 : decode cL_law 369 = .ok (.iload 5, 2) := okD_at (i := 6) dB_L_law_3 rfl
theorem dL_law_371 : decode cL_law 371 = .ok (.iconst 2, 1) := okD_at (i := 7) dB_L_law_3 rfl
theorem dL_law_372 : decode cL_law 372 = .ok (.iadd, 1) := okD_at (i := 8) dB_L_law_3 rfl
theorem dL_law_373 : decode cL_law 373 = .ok (.iaload, 1) := okD_at (i := 9) dB_L_law_3 rfl
theorem dL_law_374 : decode cL_law 374 = .ok (.aload_n 0, 1) := okD_at (i := 10) dB_L_law_3 rfl
theorem dL_law_375 : decode cL_law 375 = .ok (.iload 5, 2) := okD_at (i := 11) dB_L_law_3 rfl
theorem dL_law_377 : decode cL_law 377 = .ok (.iconst 3, 1) := okD_at (i := 12) dB_L_law_3 rfl
theorem dL_law_378 : decode cL_law 378 = .ok (.iadd, 1) := okD_at (i := 13) dB_L_law_3 rfl
theorem dL_law_379 : decode cL_law 379 = .ok (.iaload, 1) := okD_at (i := 14) dB_L_law_3 rfl
theorem dL_law_380 : decode cL_law 380 = .ok (.invokevirtual 128, 3) := okD_at (i := 15) dB_L_law_3 rfl
theorem dL_law_383 : decode cL_law 383 = .ok (.istore 7, 2) := okD_at (i := 16) dB_L_law_3 rfl
theorem dL_law_385 : decode cL_law 385 = .ok (.goto 900, 3) := okD_at (i := 17) dB_L_law_3 rfl
theorem dL_law_388 : decode cL_law 388 = .ok (.aload_n 1, 1) := okD_at (i := 18) dB_L_law_3 rfl
theorem dL_law_389 : decode cL_law 389 = .ok (.aload_n 0, 1) := okD_at (i := 19) dB_L_law_3 rfl
theorem dL_law_390 : decode cL_law 390 = .ok (.iload 5, 2) := okD_at (i := 20) dB_L_law_3 rfl
theorem dL_law_392 : decode cL_law 392 = .ok (.iconst 1, 1) := okD_at (i := 21) dB_L_law_3 rfl
theorem dL_law_393 : decode cL_law 393 = .ok (.iadd, 1) := okD_at (i := 22) dB_L_law_3 rfl
theorem dL_law_394 : decode cL_law 394 = .ok (.iaload, 1) := okD_at (i := 23) dB_L_law_3 rfl
theorem dL_law_395 : decode cL_law 395 = .ok (.aload_n 3, 1) := okD_at (i := 24) dB_L_law_3 rfl
theorem dL_law_396 : decode cL_law 396 = .ok (.invokestatic 129, 3) := okD_at (i := 25) dB_L_law_3 rfl
theorem dL_law_399 : decode cL_law 399 = .ok (.istore 6, 2) := okD_at (i := 26) dB_L_law_3 rfl
theorem dL_law_401 : decode cL_law 401 = .ok (.aload_n 2, 1) := okD_at (i := 27) dB_L_law_3 rfl
theorem dL_law_402 : decode cL_law 402 = .ok (.aload_n 0, 1) := okD_at (i := 28) dB_L_law_3 rfl
theorem dL_law_403 : decode cL_law 403 = .ok (.iload 5, 2) := okD_at (i := 29) dB_L_law_3 rfl
theorem dL_law_405 : decode cL_law 405 = .ok (.iconst 1, 1) := okD_at (i := 30) dB_L_law_3 rfl
theorem dL_law_406 : decode cL_law 406 = .ok (.iadd, 1) := okD_at (i := 31) dB_L_law_3 rfl
theorem dL_law_407 : decode cL_law 407 = .ok (.iaload, 1) := okD_at (i := 32) dB_L_law_3 rfl
theorem dL_law_408 : decode cL_law 408 = .ok (.invokevirtual 131, 3) := okD_at (i := 33) dB_L_law_3 rfl
theorem dL_law_411 : decode cL_law 411 = .ok (.istore 7, 2) := okD_at (i := 34) dB_L_law_3 rfl
theorem dL_law_413 : decode cL_law 413 = .ok (.goto 872, 3) := okD_at (i := 35) dB_L_law_3 rfl
theorem dL_law_416 : decode cL_law 416 = .ok (.aload_n 1, 1) := okD_at (i := 36) dB_L_law_3 rfl
theorem dL_law_417 : decode cL_law 417 = .ok (.aload_n 0, 1) := okD_at (i := 37) dB_L_law_3 rfl
theorem dL_law_418 : decode cL_law 418 = .ok (.iload 5, 2) := okD_at (i := 38) dB_L_law_3 rfl
theorem dL_law_420 : decode cL_law 420 = .ok (.iconst 1, 1) := okD_at (i := 39) dB_L_law_3 rfl
theorem dL_law_421 : decode cL_law 421 = .ok (.iadd, 1) := okD_at (i := 40) dB_L_law_3 rfl
theorem dL_law_422 : decode cL_law 422 = .ok (.iaload, 1) := okD_at (i := 41) dB_L_law_3 rfl
theorem dL_law_423 : decode cL_law 423 = .ok (.aload_n 3, 1) := okD_at (i := 42) dB_L_law_3 rfl
theorem dL_law_424 : decode cL_law 424 = .ok (.invokestatic 132, 3) := okD_at (i := 43) dB_L_law_3 rfl
theorem dL_law_427 : decode cL_law 427 = .ok (.istore 6, 2) := okD_at (i := 44) dB_L_law_3 rfl
theorem dL_law_429 : decode cL_law 429 = .ok (.aload_n 2, 1) := okD_at (i := 45) dB_L_law_3 rfl
theorem dL_law_430 : decode cL_law 430 = .ok (.aload_n 0, 1) := okD_at (i := 46) dB_L_law_3 rfl
theorem dL_law_431 : decode cL_law 431 = .ok (.iload 5, 2) := okD_at (i := 47) dB_L_law_3 rfl
theorem dL_law_433 : decode cL_law 433 = .ok (.iconst 1, 1) := okD_at (i := 48) dB_L_law_3 rfl
theorem dL_law_434 : decode cL_law 434 = .ok (.iadd, 1) := okD_at (i := 49) dB_L_law_3 rfl
set_option maxRecDepth 100000 in
theorem dB_L_law_4 : okD_ cL_law [(435, .iaload, 1), (436, .invokevirtual 134, 3), (439, .istore 7, 2), (441, .goto 844, 3), (444, .aload_n 1, 1), (445, .aload_n 0, 1), (446, .iload 5, 2), (448, .iconst 1, 1), (449, .iadd, 1), (450, .iaload, 1), (451, .aload_n 3, 1), (452, .invokestatic 135, 3), (455, .istore 6, 2), (457, .aload_n 2, 1), (458, .aload_n 0, 1), (459, .iload 5, 2), (461, .iconst 1, 1), (462, .iadd, 1), (463, .iaload, 1), (464, .invokevirtual 137, 3), (467, .istore 7, 2), (469, .goto 816, 3), (472, .aload_n 1, 1), (473, .aload_n 0, 1), (474, .iload 5, 2), (476, .iconst 1, 1), (477, .iadd, 1), (478, .iaload, 1), (479, .aload_n 0, 1), (480, .iload 5, 2), (482, .iconst 2, 1), (483, .iadd, 1), (484, .iaload, 1), (485, .aload_n 0, 1), (486, .iload 5, 2), (488, .iconst 3, 1), (489, .iadd, 1), (490, .iaload, 1), (491, .aload_n 0, 1), (492, .iload 5, 2), (494, .iconst 4, 1), (495, .iadd, 1), (496, .iaload, 1), (497, .aload_n 3, 1), (498, .invokestatic 138, 3), (501, .istore 6, 2), (503, .aload_n 2, 1), (504, .aload_n 0, 1), (505, .iload 5, 2), (507, .iconst 1, 1)] = true := by decide +kernel
theorem dL_law_435 : decode cL_law 435 = .ok (.iaload, 1) := okD_at (i := 0) dB_L_law_4 rfl
theorem dL_law_436 : decode cL_law 436 = .ok (.invokevirtual 134, 3) := okD_at (i := 1) dB_L_law_4 rfl
theorem dL_law_439 : decode cL_law 439 = .ok (.istore 7, 2) := okD_at (i := 2) dB_L_law_4 rfl
theorem dL_law_441 : decode cL_law 441 = .ok (.goto 844, 3) := okD_at (i := 3) dB_L_law_4 rfl
theorem dL_law_444 : decode cL_law 444 = .ok (.aload_n 1, 1) := okD_at (i := 4) dB_L_law_4 rfl
theorem dL_law_445 : decode cL_law 445 = .ok (.aload_n 0, 1) := okD_at (i := 5) dB_L_law_4 rfl
theorem dL_law_446 : decode cL_law 446 = .ok (.iload 5, 2) := okD_at (i := 6) dB_L_law_4 rfl
theorem dL_law_448 : decode cL_law 448 = .ok (.iconst 1, 1) := okD_at (i := 7) dB_L_law_4 rfl
theorem dL_law_449 : decode cL_law 449 = .ok (.iadd, 1) := okD_at (i := 8) dB_L_law_4 rfl
theorem dL_law_450 : decode cL_law 450 = .ok (.iaload, 1) := okD_at (i := 9) dB_L_law_4 rfl
theorem dL_law_451 : decode cL_law 451 = .ok (.aload_n 3, 1) := okD_at (i := 10) dB_L_law_4 rfl
theorem dL_law_452 : decode cL_law 452 = .ok (.invokestatic 135, 3) := okD_at (i := 11) dB_L_law_4 rfl
theorem dL_law_455 : decode cL_law 455 = .ok (.istore 6, 2) := okD_at (i := 12) dB_L_law_4 rfl
theorem dL_law_457 : decode cL_law 457 = .ok (.aload_n 2, 1) := okD_at (i := 13) dB_L_law_4 rfl
theorem dL_law_458 : decode cL_law 458 = .ok (.aload_n 0, 1) := okD_at (i := 14) dB_L_law_4 rfl
theorem dL_law_459 : decode cL_law 459 = .ok (.iload 5, 2) := okD_at (i := 15) dB_L_law_4 rfl
theorem dL_law_461 : decode cL_law 461 = .ok (.iconst 1, 1) := okD_at (i := 16) dB_L_law_4 rfl
theorem dL_law_462 : decode cL_law 462 = .ok (.iadd, 1) := okD_at (i := 17) dB_L_law_4 rfl
theorem dL_law_463 : decode cL_law 463 = .ok (.iaload, 1) := okD_at (i := 18) dB_L_law_4 rfl
theorem dL_law_464 : decode cL_law 464 = .ok (.invokevirtual 137, 3) := okD_at (i := 19) dB_L_law_4 rfl
theorem dL_law_467 : decode cL_law 467 = .ok (.istore 7, 2) := okD_at (i := 20) dB_L_law_4 rfl
theorem dL_law_469 : decode cL_law 469 = .ok (.goto 816, 3) := okD_at (i := 21) dB_L_law_4 rfl
theorem dL_law_472 : decode cL_law 472 = .ok (.aload_n 1, 1) := okD_at (i := 22) dB_L_law_4 rfl
theorem dL_law_473 : decode cL_law 473 = .ok (.aload_n 0, 1) := okD_at (i := 23) dB_L_law_4 rfl
theorem dL_law_474 : decode cL_law 474 = .ok (.iload 5, 2) := okD_at (i := 24) dB_L_law_4 rfl
theorem dL_law_476 : decode cL_law 476 = .ok (.iconst 1, 1) := okD_at (i := 25) dB_L_law_4 rfl
theorem dL_law_477 : decode cL_law 477 = .ok (.iadd, 1) := okD_at (i := 26) dB_L_law_4 rfl
theorem dL_law_478 : decode cL_law 478 = .ok (.iaload, 1) := okD_at (i := 27) dB_L_law_4 rfl
theorem dL_law_479 : decode cL_law 479 = .ok (.aload_n 0, 1) := okD_at (i := 28) dB_L_law_4 rfl
theorem dL_law_480 : decode cL_law 480 = .ok (.iload 5, 2) := okD_at (i := 29) dB_L_law_4 rfl
theorem dL_law_482 : decode cL_law 482 = .ok (.iconst 2, 1) := okD_at (i := 30) dB_L_law_4 rfl
theorem dL_law_483 : decode cL_law 483 = .ok (.iadd, 1) := okD_at (i := 31) dB_L_law_4 rfl
theorem dL_law_484 : decode cL_law 484 = .ok (.iaload, 1) := okD_at (i := 32) dB_L_law_4 rfl
theorem dL_law_485 : decode cL_law 485 = .ok (.aload_n 0, 1) := okD_at (i := 33) dB_L_law_4 rfl
theorem dL_law_486 : decode cL_law 486 = .ok (.iload 5, 2) := okD_at (i := 34) dB_L_law_4 rfl
theorem dL_law_488 : decode cL_law 488 = .ok (.iconst 3, 1) := okD_at (i := 35) dB_L_law_4 rfl
theorem dL_law_489 : decode cL_law 489 = .ok (.iadd, 1) := okD_at (i := 36) dB_L_law_4 rfl
theorem dL_law_490 : decode cL_law 490 = .ok (.iaload, 1) := okD_at (i := 37) dB_L_law_4 rfl
theorem dL_law_491 : decode cL_law 491 = .ok (.aload_n 0, 1) := okD_at (i := 38) dB_L_law_4 rfl
theorem dL_law_492 : decode cL_law 492 = .ok (.iload 5, 2) := okD_at (i := 39) dB_L_law_4 rfl
theorem dL_law_494 : decode cL_law 494 = .ok (.iconst 4, 1) := okD_at (i := 40) dB_L_law_4 rfl
theorem dL_law_495 : decode cL_law 495 = .ok (.iadd, 1) := okD_at (i := 41) dB_L_law_4 rfl
theorem dL_law_496 : decode cL_law 496 = .ok (.iaload, 1) := okD_at (i := 42) dB_L_law_4 rfl
theorem dL_law_497 : decode cL_law 497 = .ok (.aload_n 3, 1) := okD_at (i := 43) dB_L_law_4 rfl
theorem dL_law_498 : decode cL_law 498 = .ok (.invokestatic 138, 3) := okD_at (i := 44) dB_L_law_4 rfl
theorem dL_law_501 : decode cL_law 501 = .ok (.istore 6, 2) := okD_at (i := 45) dB_L_law_4 rfl
theorem dL_law_503 : decode cL_law 503 = .ok (.aload_n 2, 1) := okD_at (i := 46) dB_L_law_4 rfl
theorem dL_law_504 : decode cL_law 504 = .ok (.aload_n 0, 1) := okD_at (i := 47) dB_L_law_4 rfl
theorem dL_law_505 : decode cL_law 505 = .ok (.iload 5, 2) := okD_at (i := 48) dB_L_law_4 rfl
theorem dL_law_507 : decode cL_law 507 = .ok (.iconst 1, 1) := okD_at (i := 49) dB_L_law_4 rfl
set_option maxRecDepth 100000 in
theorem dB_L_law_5 : okD_ cL_law [(508, .iadd, 1), (509, .iaload, 1), (510, .aload_n 0, 1), (511, .iload 5, 2), (513, .iconst 2, 1), (514, .iadd, 1), (515, .iaload, 1), (516, .aload_n 0, 1), (517, .iload 5, 2), (519, .iconst 3, 1), (520, .iadd, 1), (521, .iaload, 1), (522, .aload_n 0, 1), (523, .iload 5, 2), (525, .iconst 4, 1), (526, .iadd, 1), (527, .iaload, 1), (528, .invokevirtual 141, 3), (531, .istore 7, 2), (533, .goto 752, 3), (536, .aload_n 1, 1), (537, .aload_n 0, 1), (538, .iload 5, 2), (540, .iconst 1, 1), (541, .iadd, 1), (542, .iaload, 1), (543, .aload_n 0, 1), (544, .iload 5, 2), (546, .iconst 2, 1), (547, .iadd, 1), (548, .iaload, 1), (549, .aload_n 3, 1), (550, .invokestatic 142, 3), (553, .istore 6, 2), (555, .aload_n 2, 1), (556, .aload_n 0, 1), (557, .iload 5, 2), (559, .iconst 1, 1), (560, .iadd, 1), (561, .iaload, 1), (562, .aload_n 0, 1), (563, .iload 5, 2), (565, .iconst 2, 1), (566, .iadd, 1), (567, .iaload, 1), (568, .invokevirtual 144, 3), (571, .istore 7, 2), (573, .goto 712, 3), (576, .aload_n 1, 1), (577, .aload_n 0, 1)] = true := by decide +kernel
theorem dL_law_508 : decode cL_law 508 = .ok (.iadd, 1) := okD_at (i := 0) dB_L_law_5 rfl
theorem dL_law_509 : decode cL_law 509 = .ok (.iaload, 1) := okD_at (i := 1) dB_L_law_5 rfl
theorem dL_law_510 : decode cL_law 510 = .ok (.aload_n 0, 1) := okD_at (i := 2) dB_L_law_5 rfl
theorem dL_law_511 : decode cL_law 511 = .ok (.iload 5, 2) := okD_at (i := 3) dB_L_law_5 rfl
theorem dL_law_513 : decode cL_law 513 = .ok (.iconst 2, 1) := okD_at (i := 4) dB_L_law_5 rfl
theorem dL_law_514 : decode cL_law 514 = .ok (.iadd, 1) := okD_at (i := 5) dB_L_law_5 rfl
theorem dL_law_515 : decode cL_law 515 = .ok (.iaload, 1) := okD_at (i := 6) dB_L_law_5 rfl
theorem dL_law_516 : decode cL_law 516 = .ok (.aload_n 0, 1) := okD_at (i := 7) dB_L_law_5 rfl
theorem dL_law_517 : decode cL_law 517 = .ok (.iload 5, 2) := okD_at (i := 8) dB_L_law_5 rfl
theorem dL_law_519 : decode cL_law 519 = .ok (.iconst 3, 1) := okD_at (i := 9) dB_L_law_5 rfl
theorem dL_law_520 : decode cL_law 520 = .ok (.iadd, 1) := okD_at (i := 10) dB_L_law_5 rfl
theorem dL_law_521 : decode cL_law 521 = .ok (.iaload, 1) := okD_at (i := 11) dB_L_law_5 rfl
theorem dL_law_522 : decode cL_law 522 = .ok (.aload_n 0, 1) := okD_at (i := 12) dB_L_law_5 rfl
theorem dL_law_523 : decode cL_law 523 = .ok (.iload 5, 2) := okD_at (i := 13) dB_L_law_5 rfl
theorem dL_law_525 : decode cL_law 525 = .ok (.iconst 4, 1) := okD_at (i := 14) dB_L_law_5 rfl
theorem dL_law_526 : decode cL_law 526 = .ok (.iadd, 1) := okD_at (i := 15) dB_L_law_5 rfl
theorem dL_law_527 : decode cL_law 527 = .ok (.iaload, 1) := okD_at (i := 16) dB_L_law_5 rfl
theorem dL_law_528 : decode cL_law 528 = .ok (.invokevirtual 141, 3) := okD_at (i := 17) dB_L_law_5 rfl
theorem dL_law_531 : decode cL_law 531 = .ok (.istore 7, 2) := okD_at (i := 18) dB_L_law_5 rfl
theorem dL_law_533 : decode cL_law 533 = .ok (.goto 752, 3) := okD_at (i := 19) dB_L_law_5 rfl
theorem dL_law_536 : decode cL_law 536 = .ok (.aload_n 1, 1) := okD_at (i := 20) dB_L_law_5 rfl
theorem dL_law_537 : decode cL_law 537 = .ok (.aload_n 0, 1) := okD_at (i := 21) dB_L_law_5 rfl
theorem dL_law_538 : decode cL_law 538 = .ok (.iload 5, 2) := okD_at (i := 22) dB_L_law_5 rfl
theorem dL_law_540 : decode cL_law 540 = .ok (.iconst 1, 1) := okD_at (i := 23) dB_L_law_5 rfl
theorem dL_law_541 : decode cL_law 541 = .ok (.iadd, 1) := okD_at (i := 24) dB_L_law_5 rfl
theorem dL_law_542 : decode cL_law 542 = .ok (.iaload, 1) := okD_at (i := 25) dB_L_law_5 rfl
theorem dL_law_543 : decode cL_law 543 = .ok (.aload_n 0, 1) := okD_at (i := 26) dB_L_law_5 rfl
theorem dL_law_544 : decode cL_law 544 = .ok (.iload 5, 2) := okD_at (i := 27) dB_L_law_5 rfl
theorem dL_law_546 : decode cL_law 546 = .ok (.iconst 2, 1) := okD_at (i := 28) dB_L_law_5 rfl
theorem dL_law_547 : decode cL_law 547 = .ok (.iadd, 1) := okD_at (i := 29) dB_L_law_5 rfl
theorem dL_law_548 : decode cL_law 548 = .ok (.iaload, 1) := okD_at (i := 30) dB_L_law_5 rfl
theorem dL_law_549 : decode cL_law 549 = .ok (.aload_n 3, 1) := okD_at (i := 31) dB_L_law_5 rfl
theorem dL_law_550 : decode cL_law 550 = .ok (.invokestatic 142, 3) := okD_at (i := 32) dB_L_law_5 rfl
theorem dL_law_553 : decode cL_law 553 = .ok (.istore 6, 2) := okD_at (i := 33) dB_L_law_5 rfl
theorem dL_law_555 : decode cL_law 555 = .ok (.aload_n 2, 1) := okD_at (i := 34) dB_L_law_5 rfl
theorem dL_law_556 : decode cL_law 556 = .ok (.aload_n 0, 1) := okD_at (i := 35) dB_L_law_5 rfl
theorem dL_law_557 : decode cL_law 557 = .ok (.iload 5, 2) := okD_at (i := 36) dB_L_law_5 rfl
theorem dL_law_559 : decode cL_law 559 = .ok (.iconst 1, 1) := okD_at (i := 37) dB_L_law_5 rfl
theorem dL_law_560 : decode cL_law 560 = .ok (.iadd, 1) := okD_at (i := 38) dB_L_law_5 rfl
theorem dL_law_561 : decode cL_law 561 = .ok (.iaload, 1) := okD_at (i := 39) dB_L_law_5 rfl
theorem dL_law_562 : decode cL_law 562 = .ok (.aload_n 0, 1) := okD_at (i := 40) dB_L_law_5 rfl
theorem dL_law_563 : decode cL_law 563 = .ok (.iload 5, 2) := okD_at (i := 41) dB_L_law_5 rfl
theorem dL_law_565 : decode cL_law 565 = .ok (.iconst 2, 1) := okD_at (i := 42) dB_L_law_5 rfl
theorem dL_law_566 : decode cL_law 566 = .ok (.iadd, 1) := okD_at (i := 43) dB_L_law_5 rfl
theorem dL_law_567 : decode cL_law 567 = .ok (.iaload, 1) := okD_at (i := 44) dB_L_law_5 rfl
theorem dL_law_568 : decode cL_law 568 = .ok (.invokevirtual 144, 3) := okD_at (i := 45) dB_L_law_5 rfl
theorem dL_law_571 : decode cL_law 571 = .ok (.istore 7, 2) := okD_at (i := 46) dB_L_law_5 rfl
theorem dL_law_573 : decode cL_law 573 = .ok (.goto 712, 3) := okD_at (i := 47) dB_L_law_5 rfl
theorem dL_law_576 : decode cL_law 576 = .ok (.aload_n 1, 1) := okD_at (i := 48) dB_L_law_5 rfl
theorem dL_law_577 : decode cL_law 577 = .ok (.aload_n 0, 1) := okD_at (i := 49) dB_L_law_5 rfl
set_option maxRecDepth 100000 in
theorem dB_L_law_6 : okD_ cL_law [(578, .iload 5, 2), (580, .iconst 1, 1), (581, .iadd, 1), (582, .iaload, 1), (583, .aload_n 0, 1), (584, .iload 5, 2), (586, .iconst 2, 1), (587, .iadd, 1), (588, .iaload, 1), (589, .aload_n 3, 1), (590, .invokestatic 145, 3), (593, .istore 6, 2), (595, .aload_n 2, 1), (596, .aload_n 0, 1), (597, .iload 5, 2), (599, .iconst 1, 1), (600, .iadd, 1), (601, .iaload, 1), (602, .aload_n 0, 1), (603, .iload 5, 2), (605, .iconst 2, 1), (606, .iadd, 1), (607, .iaload, 1), (608, .invokevirtual 147, 3), (611, .istore 7, 2), (613, .goto 672, 3), (616, .aload_n 1, 1), (617, .aload_n 0, 1), (618, .iload 5, 2), (620, .iconst 1, 1), (621, .iadd, 1), (622, .iaload, 1), (623, .aload_n 0, 1), (624, .iload 5, 2), (626, .iconst 2, 1), (627, .iadd, 1), (628, .iaload, 1), (629, .aload_n 3, 1), (630, .invokestatic 148, 3), (633, .istore 6, 2), (635, .aload_n 2, 1), (636, .aload_n 0, 1), (637, .iload 5, 2), (639, .iconst 1, 1), (640, .iadd, 1), (641, .iaload, 1), (642, .aload_n 0, 1), (643, .iload 5, 2), (645, .iconst 2, 1), (646, .iadd, 1)] = true := by decide +kernel
theorem dL_law_578 : decode cL_law 578 = .ok (.iload 5, 2) := okD_at (i := 0) dB_L_law_6 rfl
theorem dL_law_580 : decode cL_law 580 = .ok (.iconst 1, 1) := okD_at (i := 1) dB_L_law_6 rfl
theorem dL_law_581 : decode cL_law 581 = .ok (.iadd, 1) := okD_at (i := 2) dB_L_law_6 rfl
theorem dL_law_582 : decode cL_law 582 = .ok (.iaload, 1) := okD_at (i := 3) dB_L_law_6 rfl
theorem dL_law_583 : decode cL_law 583 = .ok (.aload_n 0, 1) := okD_at (i := 4) dB_L_law_6 rfl
theorem dL_law_584 : decode cL_law 584 = .ok (.iload 5, 2) := okD_at (i := 5) dB_L_law_6 rfl
theorem dL_law_586 : decode cL_law 586 = .ok (.iconst 2, 1) := okD_at (i := 6) dB_L_law_6 rfl
theorem dL_law_587 : decode cL_law 587 = .ok (.iadd, 1) := okD_at (i := 7) dB_L_law_6 rfl
theorem dL_law_588 : decode cL_law 588 = .ok (.iaload, 1) := okD_at (i := 8) dB_L_law_6 rfl
theorem dL_law_589 : decode cL_law 589 = .ok (.aload_n 3, 1) := okD_at (i := 9) dB_L_law_6 rfl
theorem dL_law_590 : decode cL_law 590 = .ok (.invokestatic 145, 3) := okD_at (i := 10) dB_L_law_6 rfl
theorem dL_law_593 : decode cL_law 593 = .ok (.istore 6, 2) := okD_at (i := 11) dB_L_law_6 rfl
theorem dL_law_595 : decode cL_law 595 = .ok (.aload_n 2, 1) := okD_at (i := 12) dB_L_law_6 rfl
theorem dL_law_596 : decode cL_law 596 = .ok (.aload_n 0, 1) := okD_at (i := 13) dB_L_law_6 rfl
theorem dL_law_597 : decode cL_law 597 = .ok (.iload 5, 2) := okD_at (i := 14) dB_L_law_6 rfl
theorem dL_law_599 : decode cL_law 599 = .ok (.iconst 1, 1) := okD_at (i := 15) dB_L_law_6 rfl
theorem dL_law_600 : decode cL_law 600 = .ok (.iadd, 1) := okD_at (i := 16) dB_L_law_6 rfl
theorem dL_law_601 : decode cL_law 601 = .ok (.iaload, 1) := okD_at (i := 17) dB_L_law_6 rfl
theorem dL_law_602 : decode cL_law 602 = .ok (.aload_n 0, 1) := okD_at (i := 18) dB_L_law_6 rfl
theorem dL_law_603 : decode cL_law 603 = .ok (.iload 5, 2) := okD_at (i := 19) dB_L_law_6 rfl
theorem dL_law_605 : decode cL_law 605 = .ok (.iconst 2, 1) := okD_at (i := 20) dB_L_law_6 rfl
theorem dL_law_606 : decode cL_law 606 = .ok (.iadd, 1) := okD_at (i := 21) dB_L_law_6 rfl
theorem dL_law_607 : decode cL_law 607 = .ok (.iaload, 1) := okD_at (i := 22) dB_L_law_6 rfl
theorem dL_law_608 : decode cL_law 608 = .ok (.invokevirtual 147, 3) := okD_at (i := 23) dB_L_law_6 rfl
theorem dL_law_611 : decode cL_law 611 = .ok (.istore 7, 2) := okD_at (i := 24) dB_L_law_6 rfl
theorem dL_law_613 : decode cL_law 613 = .ok (.goto 672, 3) := okD_at (i := 25) dB_L_law_6 rfl
theorem dL_law_616 : decode cL_law 616 = .ok (.aload_n 1, 1) := okD_at (i := 26) dB_L_law_6 rfl
theorem dL_law_617 : decode cL_law 617 = .ok (.aload_n 0, 1) := okD_at (i := 27) dB_L_law_6 rfl
theorem dL_law_618 : decode cL_law 618 = .ok (.iload 5, 2) := okD_at (i := 28) dB_L_law_6 rfl
theorem dL_law_620 : decode cL_law 620 = .ok (.iconst 1, 1) := okD_at (i := 29) dB_L_law_6 rfl
theorem dL_law_621 : decode cL_law 621 = .ok (.iadd, 1) := okD_at (i := 30) dB_L_law_6 rfl
theorem dL_law_622 : decode cL_law 622 = .ok (.iaload, 1) := okD_at (i := 31) dB_L_law_6 rfl
theorem dL_law_623 : decode cL_law 623 = .ok (.aload_n 0, 1) := okD_at (i := 32) dB_L_law_6 rfl
theorem dL_law_624 : decode cL_law 624 = .ok (.iload 5, 2) := okD_at (i := 33) dB_L_law_6 rfl
theorem dL_law_626 : decode cL_law 626 = .ok (.iconst 2, 1) := okD_at (i := 34) dB_L_law_6 rfl
theorem dL_law_627 : decode cL_law 627 = .ok (.iadd, 1) := okD_at (i := 35) dB_L_law_6 rfl
theorem dL_law_628 : decode cL_law 628 = .ok (.iaload, 1) := okD_at (i := 36) dB_L_law_6 rfl
theorem dL_law_629 : decode cL_law 629 = .ok (.aload_n 3, 1) := okD_at (i := 37) dB_L_law_6 rfl
theorem dL_law_630 : decode cL_law 630 = .ok (.invokestatic 148, 3) := okD_at (i := 38) dB_L_law_6 rfl
theorem dL_law_633 : decode cL_law 633 = .ok (.istore 6, 2) := okD_at (i := 39) dB_L_law_6 rfl
theorem dL_law_635 : decode cL_law 635 = .ok (.aload_n 2, 1) := okD_at (i := 40) dB_L_law_6 rfl
theorem dL_law_636 : decode cL_law 636 = .ok (.aload_n 0, 1) := okD_at (i := 41) dB_L_law_6 rfl
theorem dL_law_637 : decode cL_law 637 = .ok (.iload 5, 2) := okD_at (i := 42) dB_L_law_6 rfl
theorem dL_law_639 : decode cL_law 639 = .ok (.iconst 1, 1) := okD_at (i := 43) dB_L_law_6 rfl
theorem dL_law_640 : decode cL_law 640 = .ok (.iadd, 1) := okD_at (i := 44) dB_L_law_6 rfl
theorem dL_law_641 : decode cL_law 641 = .ok (.iaload, 1) := okD_at (i := 45) dB_L_law_6 rfl
theorem dL_law_642 : decode cL_law 642 = .ok (.aload_n 0, 1) := okD_at (i := 46) dB_L_law_6 rfl
theorem dL_law_643 : decode cL_law 643 = .ok (.iload 5, 2) := okD_at (i := 47) dB_L_law_6 rfl
theorem dL_law_645 : decode cL_law 645 = .ok (.iconst 2, 1) := okD_at (i := 48) dB_L_law_6 rfl
theorem dL_law_646 : decode cL_law 646 = .ok (.iadd, 1) := okD_at (i := 49) dB_L_law_6 rfl
set_option maxRecDepth 100000 in
theorem dB_L_law_7 : okD_ cL_law [(647, .iaload, 1), (648, .invokevirtual 150, 3), (651, .istore 7, 2), (653, .goto 632, 3), (656, .aload_n 1, 1), (657, .aload_n 0, 1), (658, .iload 5, 2), (660, .iconst 1, 1), (661, .iadd, 1), (662, .iaload, 1), (663, .aload_n 0, 1), (664, .iload 5, 2), (666, .iconst 2, 1), (667, .iadd, 1), (668, .iaload, 1), (669, .aload_n 0, 1), (670, .iload 5, 2), (672, .iconst 3, 1), (673, .iadd, 1), (674, .iaload, 1), (675, .aload_n 3, 1), (676, .invokestatic 151, 3), (679, .istore 6, 2), (681, .aload_n 2, 1), (682, .aload_n 0, 1), (683, .iload 5, 2), (685, .iconst 1, 1), (686, .iadd, 1), (687, .iaload, 1), (688, .aload_n 0, 1), (689, .iload 5, 2), (691, .iconst 2, 1), (692, .iadd, 1), (693, .iaload, 1), (694, .aload_n 0, 1), (695, .iload 5, 2), (697, .iconst 3, 1), (698, .iadd, 1), (699, .iaload, 1), (700, .invokevirtual 153, 3), (703, .istore 7, 2), (705, .goto 580, 3), (708, .aload_n 1, 1), (709, .aload_n 0, 1), (710, .iload 5, 2), (712, .iconst 1, 1), (713, .iadd, 1), (714, .iaload, 1), (715, .aload_n 3, 1), (716, .invokestatic 154, 3)] = true := by decide +kernel
theorem dL_law_647 : decode cL_law 647 = .ok (.iaload, 1) := okD_at (i := 0) dB_L_law_7 rfl
theorem dL_law_648 : decode cL_law 648 = .ok (.invokevirtual 150, 3) := okD_at (i := 1) dB_L_law_7 rfl
theorem dL_law_651 : decode cL_law 651 = .ok (.istore 7, 2) := okD_at (i := 2) dB_L_law_7 rfl
theorem dL_law_653 : decode cL_law 653 = .ok (.goto 632, 3) := okD_at (i := 3) dB_L_law_7 rfl
theorem dL_law_656 : decode cL_law 656 = .ok (.aload_n 1, 1) := okD_at (i := 4) dB_L_law_7 rfl
theorem dL_law_657 : decode cL_law 657 = .ok (.aload_n 0, 1) := okD_at (i := 5) dB_L_law_7 rfl
theorem dL_law_658 : decode cL_law 658 = .ok (.iload 5, 2) := okD_at (i := 6) dB_L_law_7 rfl
theorem dL_law_660 : decode cL_law 660 = .ok (.iconst 1, 1) := okD_at (i := 7) dB_L_law_7 rfl
theorem dL_law_661 : decode cL_law 661 = .ok (.iadd, 1) := okD_at (i := 8) dB_L_law_7 rfl
theorem dL_law_662 : decode cL_law 662 = .ok (.iaload, 1) := okD_at (i := 9) dB_L_law_7 rfl
theorem dL_law_663 : decode cL_law 663 = .ok (.aload_n 0, 1) := okD_at (i := 10) dB_L_law_7 rfl
theorem dL_law_664 : decode cL_law 664 = .ok (.iload 5, 2) := okD_at (i := 11) dB_L_law_7 rfl
theorem dL_law_666 : decode cL_law 666 = .ok (.iconst 2, 1) := okD_at (i := 12) dB_L_law_7 rfl
theorem dL_law_667 : decode cL_law 667 = .ok (.iadd, 1) := okD_at (i := 13) dB_L_law_7 rfl
theorem dL_law_668 : decode cL_law 668 = .ok (.iaload, 1) := okD_at (i := 14) dB_L_law_7 rfl
theorem dL_law_669 : decode cL_law 669 = .ok (.aload_n 0, 1) := okD_at (i := 15) dB_L_law_7 rfl
theorem dL_law_670 : decode cL_law 670 = .ok (.iload 5, 2) := okD_at (i := 16) dB_L_law_7 rfl
theorem dL_law_672 : decode cL_law 672 = .ok (.iconst 3, 1) := okD_at (i := 17) dB_L_law_7 rfl
theorem dL_law_673 : decode cL_law 673 = .ok (.iadd, 1) := okD_at (i := 18) dB_L_law_7 rfl
theorem dL_law_674 : decode cL_law 674 = .ok (.iaload, 1) := okD_at (i := 19) dB_L_law_7 rfl
theorem dL_law_675 : decode cL_law 675 = .ok (.aload_n 3, 1) := okD_at (i := 20) dB_L_law_7 rfl
theorem dL_law_676 : decode cL_law 676 = .ok (.invokestatic 151, 3) := okD_at (i := 21) dB_L_law_7 rfl
theorem dL_law_679 : decode cL_law 679 = .ok (.istore 6, 2) := okD_at (i := 22) dB_L_law_7 rfl
theorem dL_law_681 : decode cL_law 681 = .ok (.aload_n 2, 1) := okD_at (i := 23) dB_L_law_7 rfl
theorem dL_law_682 : decode cL_law 682 = .ok (.aload_n 0, 1) := okD_at (i := 24) dB_L_law_7 rfl
theorem dL_law_683 : decode cL_law 683 = .ok (.iload 5, 2) := okD_at (i := 25) dB_L_law_7 rfl
theorem dL_law_685 : decode cL_law 685 = .ok (.iconst 1, 1) := okD_at (i := 26) dB_L_law_7 rfl
theorem dL_law_686 : decode cL_law 686 = .ok (.iadd, 1) := okD_at (i := 27) dB_L_law_7 rfl
theorem dL_law_687 : decode cL_law 687 = .ok (.iaload, 1) := okD_at (i := 28) dB_L_law_7 rfl
theorem dL_law_688 : decode cL_law 688 = .ok (.aload_n 0, 1) := okD_at (i := 29) dB_L_law_7 rfl
theorem dL_law_689 : decode cL_law 689 = .ok (.iload 5, 2) := okD_at (i := 30) dB_L_law_7 rfl
theorem dL_law_691 : decode cL_law 691 = .ok (.iconst 2, 1) := okD_at (i := 31) dB_L_law_7 rfl
theorem dL_law_692 : decode cL_law 692 = .ok (.iadd, 1) := okD_at (i := 32) dB_L_law_7 rfl
theorem dL_law_693 : decode cL_law 693 = .ok (.iaload, 1) := okD_at (i := 33) dB_L_law_7 rfl
theorem dL_law_694 : decode cL_law 694 = .ok (.aload_n 0, 1) := okD_at (i := 34) dB_L_law_7 rfl
theorem dL_law_695 : decode cL_law 695 = .ok (.iload 5, 2) := okD_at (i := 35) dB_L_law_7 rfl
theorem dL_law_697 : decode cL_law 697 = .ok (.iconst 3, 1) := okD_at (i := 36) dB_L_law_7 rfl
theorem dL_law_698 : decode cL_law 698 = .ok (.iadd, 1) := okD_at (i := 37) dB_L_law_7 rfl
theorem dL_law_699 : decode cL_law 699 = .ok (.iaload, 1) := okD_at (i := 38) dB_L_law_7 rfl
theorem dL_law_700 : decode cL_law 700 = .ok (.invokevirtual 153, 3) := okD_at (i := 39) dB_L_law_7 rfl
theorem dL_law_703 : decode cL_law 703 = .ok (.istore 7, 2) := okD_at (i := 40) dB_L_law_7 rfl
theorem dL_law_705 : decode cL_law 705 = .ok (.goto 580, 3) := okD_at (i := 41) dB_L_law_7 rfl
theorem dL_law_708 : decode cL_law 708 = .ok (.aload_n 1, 1) := okD_at (i := 42) dB_L_law_7 rfl
theorem dL_law_709 : decode cL_law 709 = .ok (.aload_n 0, 1) := okD_at (i := 43) dB_L_law_7 rfl
theorem dL_law_710 : decode cL_law 710 = .ok (.iload 5, 2) := okD_at (i := 44) dB_L_law_7 rfl
theorem dL_law_712 : decode cL_law 712 = .ok (.iconst 1, 1) := okD_at (i := 45) dB_L_law_7 rfl
theorem dL_law_713 : decode cL_law 713 = .ok (.iadd, 1) := okD_at (i := 46) dB_L_law_7 rfl
theorem dL_law_714 : decode cL_law 714 = .ok (.iaload, 1) := okD_at (i := 47) dB_L_law_7 rfl
theorem dL_law_715 : decode cL_law 715 = .ok (.aload_n 3, 1) := okD_at (i := 48) dB_L_law_7 rfl
theorem dL_law_716 : decode cL_law 716 = .ok (.invokestatic 154, 3) := okD_at (i := 49) dB_L_law_7 rfl
set_option maxRecDepth 100000 in
theorem dB_L_law_8 : okD_ cL_law [(719, .istore 6, 2), (721, .aload_n 2, 1), (722, .aload_n 0, 1), (723, .iload 5, 2), (725, .iconst 1, 1), (726, .iadd, 1), (727, .iaload, 1), (728, .invokevirtual 156, 3), (731, .istore 7, 2), (733, .goto 552, 3), (736, .aload_n 1, 1), (737, .aload_n 0, 1), (738, .iload 5, 2), (740, .iconst 1, 1), (741, .iadd, 1), (742, .iaload, 1), (743, .aload_n 0, 1), (744, .iload 5, 2), (746, .iconst 2, 1), (747, .iadd, 1), (748, .iaload, 1), (749, .aload_n 3, 1), (750, .invokestatic 157, 3), (753, .istore 6, 2), (755, .aload_n 2, 1), (756, .aload_n 0, 1), (757, .iload 5, 2), (759, .iconst 1, 1), (760, .iadd, 1), (761, .iaload, 1), (762, .aload_n 0, 1), (763, .iload 5, 2), (765, .iconst 2, 1), (766, .iadd, 1), (767, .iaload, 1), (768, .invokevirtual 159, 3), (771, .istore 7, 2), (773, .goto 512, 3), (776, .aload_n 1, 1), (777, .aload_n 0, 1), (778, .iload 5, 2), (780, .iconst 1, 1), (781, .iadd, 1), (782, .iaload, 1), (783, .aload_n 3, 1), (784, .invokestatic 160, 3), (787, .istore 6, 2), (789, .aload_n 2, 1), (790, .aload_n 0, 1), (791, .iload 5, 2)] = true := by decide +kernel
theorem dL_law_719 : decode cL_law 719 = .ok (.istore 6, 2) := okD_at (i := 0) dB_L_law_8 rfl
theorem dL_law_721 : decode cL_law 721 = .ok (.aload_n 2, 1) := okD_at (i := 1) dB_L_law_8 rfl
theorem dL_law_722 : decode cL_law 722 = .ok (.aload_n 0, 1) := okD_at (i := 2) dB_L_law_8 rfl
theorem dL_law_723 : decode cL_law 723 = .ok (.iload 5, 2) := okD_at (i := 3) dB_L_law_8 rfl
theorem dL_law_725 : decode cL_law 725 = .ok (.iconst 1, 1) := okD_at (i := 4) dB_L_law_8 rfl
theorem dL_law_726 : decode cL_law 726 = .ok (.iadd, 1) := okD_at (i := 5) dB_L_law_8 rfl
theorem dL_law_727 : decode cL_law 727 = .ok (.iaload, 1) := okD_at (i := 6) dB_L_law_8 rfl
theorem dL_law_728 : decode cL_law 728 = .ok (.invokevirtual 156, 3) := okD_at (i := 7) dB_L_law_8 rfl
theorem dL_law_731 : decode cL_law 731 = .ok (.istore 7, 2) := okD_at (i := 8) dB_L_law_8 rfl
theorem dL_law_733 : decode cL_law 733 = .ok (.goto 552, 3) := okD_at (i := 9) dB_L_law_8 rfl
theorem dL_law_736 : decode cL_law 736 = .ok (.aload_n 1, 1) := okD_at (i := 10) dB_L_law_8 rfl
theorem dL_law_737 : decode cL_law 737 = .ok (.aload_n 0, 1) := okD_at (i := 11) dB_L_law_8 rfl
theorem dL_law_738 : decode cL_law 738 = .ok (.iload 5, 2) := okD_at (i := 12) dB_L_law_8 rfl
theorem dL_law_740 : decode cL_law 740 = .ok (.iconst 1, 1) := okD_at (i := 13) dB_L_law_8 rfl
theorem dL_law_741 : decode cL_law 741 = .ok (.iadd, 1) := okD_at (i := 14) dB_L_law_8 rfl
theorem dL_law_742 : decode cL_law 742 = .ok (.iaload, 1) := okD_at (i := 15) dB_L_law_8 rfl
theorem dL_law_743 : decode cL_law 743 = .ok (.aload_n 0, 1) := okD_at (i := 16) dB_L_law_8 rfl
theorem dL_law_744 : decode cL_law 744 = .ok (.iload 5, 2) := okD_at (i := 17) dB_L_law_8 rfl
theorem dL_law_746 : decode cL_law 746 = .ok (.iconst 2, 1) := okD_at (i := 18) dB_L_law_8 rfl
theorem dL_law_747 : decode cL_law 747 = .ok (.iadd, 1) := okD_at (i := 19) dB_L_law_8 rfl
theorem dL_law_748 : decode cL_law 748 = .ok (.iaload, 1) := okD_at (i := 20) dB_L_law_8 rfl
theorem dL_law_749 : decode cL_law 749 = .ok (.aload_n 3, 1) := okD_at (i := 21) dB_L_law_8 rfl
theorem dL_law_750 : decode cL_law 750 = .ok (.invokestatic 157, 3) := okD_at (i := 22) dB_L_law_8 rfl
theorem dL_law_753 : decode cL_law 753 = .ok (.istore 6, 2) := okD_at (i := 23) dB_L_law_8 rfl
theorem dL_law_755 : decode cL_law 755 = .ok (.aload_n 2, 1) := okD_at (i := 24) dB_L_law_8 rfl
theorem dL_law_756 : decode cL_law 756 = .ok (.aload_n 0, 1) := okD_at (i := 25) dB_L_law_8 rfl
theorem dL_law_757 : decode cL_law 757 = .ok (.iload 5, 2) := okD_at (i := 26) dB_L_law_8 rfl
theorem dL_law_759 : decode cL_law 759 = .ok (.iconst 1, 1) := okD_at (i := 27) dB_L_law_8 rfl
theorem dL_law_760 : decode cL_law 760 = .ok (.iadd, 1) := okD_at (i := 28) dB_L_law_8 rfl
theorem dL_law_761 : decode cL_law 761 = .ok (.iaload, 1) := okD_at (i := 29) dB_L_law_8 rfl
theorem dL_law_762 : decode cL_law 762 = .ok (.aload_n 0, 1) := okD_at (i := 30) dB_L_law_8 rfl
theorem dL_law_763 : decode cL_law 763 = .ok (.iload 5, 2) := okD_at (i := 31) dB_L_law_8 rfl
theorem dL_law_765 : decode cL_law 765 = .ok (.iconst 2, 1) := okD_at (i := 32) dB_L_law_8 rfl
theorem dL_law_766 : decode cL_law 766 = .ok (.iadd, 1) := okD_at (i := 33) dB_L_law_8 rfl
theorem dL_law_767 : decode cL_law 767 = .ok (.iaload, 1) := okD_at (i := 34) dB_L_law_8 rfl
theorem dL_law_768 : decode cL_law 768 = .ok (.invokevirtual 159, 3) := okD_at (i := 35) dB_L_law_8 rfl
theorem dL_law_771 : decode cL_law 771 = .ok (.istore 7, 2) := okD_at (i := 36) dB_L_law_8 rfl
theorem dL_law_773 : decode cL_law 773 = .ok (.goto 512, 3) := okD_at (i := 37) dB_L_law_8 rfl
theorem dL_law_776 : decode cL_law 776 = .ok (.aload_n 1, 1) := okD_at (i := 38) dB_L_law_8 rfl
theorem dL_law_777 : decode cL_law 777 = .ok (.aload_n 0, 1) := okD_at (i := 39) dB_L_law_8 rfl
theorem dL_law_778 : decode cL_law 778 = .ok (.iload 5, 2) := okD_at (i := 40) dB_L_law_8 rfl
theorem dL_law_780 : decode cL_law 780 = .ok (.iconst 1, 1) := okD_at (i := 41) dB_L_law_8 rfl
theorem dL_law_781 : decode cL_law 781 = .ok (.iadd, 1) := okD_at (i := 42) dB_L_law_8 rfl
theorem dL_law_782 : decode cL_law 782 = .ok (.iaload, 1) := okD_at (i := 43) dB_L_law_8 rfl
theorem dL_law_783 : decode cL_law 783 = .ok (.aload_n 3, 1) := okD_at (i := 44) dB_L_law_8 rfl
theorem dL_law_784 : decode cL_law 784 = .ok (.invokestatic 160, 3) := okD_at (i := 45) dB_L_law_8 rfl
theorem dL_law_787 : decode cL_law 787 = .ok (.istore 6, 2) := okD_at (i := 46) dB_L_law_8 rfl
theorem dL_law_789 : decode cL_law 789 = .ok (.aload_n 2, 1) := okD_at (i := 47) dB_L_law_8 rfl
theorem dL_law_790 : decode cL_law 790 = .ok (.aload_n 0, 1) := okD_at (i := 48) dB_L_law_8 rfl
theorem dL_law_791 : decode cL_law 791 = .ok (.iload 5, 2) := okD_at (i := 49) dB_L_law_8 rfl
set_option maxRecDepth 100000 in
theorem dB_L_law_9 : okD_ cL_law [(793, .iconst 1, 1), (794, .iadd, 1), (795, .iaload, 1), (796, .invokevirtual 162, 3), (799, .istore 7, 2), (801, .goto 484, 3), (804, .aload_n 1, 1), (805, .aload_n 0, 1), (806, .iload 5, 2), (808, .iconst 1, 1), (809, .iadd, 1), (810, .iaload, 1), (811, .aload_n 0, 1), (812, .iload 5, 2), (814, .iconst 2, 1), (815, .iadd, 1), (816, .iaload, 1), (817, .aload_n 3, 1), (818, .invokestatic 163, 3), (821, .istore 6, 2), (823, .aload_n 2, 1), (824, .aload_n 0, 1), (825, .iload 5, 2), (827, .iconst 1, 1), (828, .iadd, 1), (829, .iaload, 1), (830, .aload_n 0, 1), (831, .iload 5, 2), (833, .iconst 2, 1), (834, .iadd, 1), (835, .iaload, 1), (836, .invokevirtual 165, 3), (839, .istore 7, 2), (841, .goto 444, 3), (844, .aload_n 1, 1), (845, .aload_n 0, 1), (846, .iload 5, 2), (848, .iconst 1, 1), (849, .iadd, 1), (850, .iaload, 1), (851, .aload_n 0, 1), (852, .iload 5, 2), (854, .iconst 2, 1), (855, .iadd, 1), (856, .iaload, 1), (857, .aload_n 3, 1), (858, .invokestatic 166, 3), (861, .istore 6, 2), (863, .aload_n 2, 1), (864, .aload_n 0, 1)] = true := by decide +kernel
theorem dL_law_793 : decode cL_law 793 = .ok (.iconst 1, 1) := okD_at (i := 0) dB_L_law_9 rfl
theorem dL_law_794 : decode cL_law 794 = .ok (.iadd, 1) := okD_at (i := 1) dB_L_law_9 rfl
theorem dL_law_795 : decode cL_law 795 = .ok (.iaload, 1) := okD_at (i := 2) dB_L_law_9 rfl
theorem dL_law_796 : decode cL_law 796 = .ok (.invokevirtual 162, 3) := okD_at (i := 3) dB_L_law_9 rfl
theorem dL_law_799 : decode cL_law 799 = .ok (.istore 7, 2) := okD_at (i := 4) dB_L_law_9 rfl
theorem dL_law_801 : decode cL_law 801 = .ok (.goto 484, 3) := okD_at (i := 5) dB_L_law_9 rfl
theorem dL_law_804 : decode cL_law 804 = .ok (.aload_n 1, 1) := okD_at (i := 6) dB_L_law_9 rfl
theorem dL_law_805 : decode cL_law 805 = .ok (.aload_n 0, 1) := okD_at (i := 7) dB_L_law_9 rfl
theorem dL_law_806 : decode cL_law 806 = .ok (.iload 5, 2) := okD_at (i := 8) dB_L_law_9 rfl
theorem dL_law_808 : decode cL_law 808 = .ok (.iconst 1, 1) := okD_at (i := 9) dB_L_law_9 rfl
theorem dL_law_809 : decode cL_law 809 = .ok (.iadd, 1) := okD_at (i := 10) dB_L_law_9 rfl
theorem dL_law_810 : decode cL_law 810 = .ok (.iaload, 1) := okD_at (i := 11) dB_L_law_9 rfl
theorem dL_law_811 : decode cL_law 811 = .ok (.aload_n 0, 1) := okD_at (i := 12) dB_L_law_9 rfl
theorem dL_law_812 : decode cL_law 812 = .ok (.iload 5, 2) := okD_at (i := 13) dB_L_law_9 rfl
theorem dL_law_814 : decode cL_law 814 = .ok (.iconst 2, 1) := okD_at (i := 14) dB_L_law_9 rfl
theorem dL_law_815 : decode cL_law 815 = .ok (.iadd, 1) := okD_at (i := 15) dB_L_law_9 rfl
theorem dL_law_816 : decode cL_law 816 = .ok (.iaload, 1) := okD_at (i := 16) dB_L_law_9 rfl
theorem dL_law_817 : decode cL_law 817 = .ok (.aload_n 3, 1) := okD_at (i := 17) dB_L_law_9 rfl
theorem dL_law_818 : decode cL_law 818 = .ok (.invokestatic 163, 3) := okD_at (i := 18) dB_L_law_9 rfl
theorem dL_law_821 : decode cL_law 821 = .ok (.istore 6, 2) := okD_at (i := 19) dB_L_law_9 rfl
theorem dL_law_823 : decode cL_law 823 = .ok (.aload_n 2, 1) := okD_at (i := 20) dB_L_law_9 rfl
theorem dL_law_824 : decode cL_law 824 = .ok (.aload_n 0, 1) := okD_at (i := 21) dB_L_law_9 rfl
theorem dL_law_825 : decode cL_law 825 = .ok (.iload 5, 2) := okD_at (i := 22) dB_L_law_9 rfl
theorem dL_law_827 : decode cL_law 827 = .ok (.iconst 1, 1) := okD_at (i := 23) dB_L_law_9 rfl
theorem dL_law_828 : decode cL_law 828 = .ok (.iadd, 1) := okD_at (i := 24) dB_L_law_9 rfl
theorem dL_law_829 : decode cL_law 829 = .ok (.iaload, 1) := okD_at (i := 25) dB_L_law_9 rfl
theorem dL_law_830 : decode cL_law 830 = .ok (.aload_n 0, 1) := okD_at (i := 26) dB_L_law_9 rfl
theorem dL_law_831 : decode cL_law 831 = .ok (.iload 5, 2) := okD_at (i := 27) dB_L_law_9 rfl
theorem dL_law_833 : decode cL_law 833 = .ok (.iconst 2, 1) := okD_at (i := 28) dB_L_law_9 rfl
theorem dL_law_834 : decode cL_law 834 = .ok (.iadd, 1) := okD_at (i := 29) dB_L_law_9 rfl
theorem dL_law_835 : decode cL_law 835 = .ok (.iaload, 1) := okD_at (i := 30) dB_L_law_9 rfl
theorem dL_law_836 : decode cL_law 836 = .ok (.invokevirtual 165, 3) := okD_at (i := 31) dB_L_law_9 rfl
theorem dL_law_839 : decode cL_law 839 = .ok (.istore 7, 2) := okD_at (i := 32) dB_L_law_9 rfl
theorem dL_law_841 : decode cL_law 841 = .ok (.goto 444, 3) := okD_at (i := 33) dB_L_law_9 rfl
theorem dL_law_844 : decode cL_law 844 = .ok (.aload_n 1, 1) := okD_at (i := 34) dB_L_law_9 rfl
theorem dL_law_845 : decode cL_law 845 = .ok (.aload_n 0, 1) := okD_at (i := 35) dB_L_law_9 rfl
theorem dL_law_846 : decode cL_law 846 = .ok (.iload 5, 2) := okD_at (i := 36) dB_L_law_9 rfl
theorem dL_law_848 : decode cL_law 848 = .ok (.iconst 1, 1) := okD_at (i := 37) dB_L_law_9 rfl
theorem dL_law_849 : decode cL_law 849 = .ok (.iadd, 1) := okD_at (i := 38) dB_L_law_9 rfl
theorem dL_law_850 : decode cL_law 850 = .ok (.iaload, 1) := okD_at (i := 39) dB_L_law_9 rfl
theorem dL_law_851 : decode cL_law 851 = .ok (.aload_n 0, 1) := okD_at (i := 40) dB_L_law_9 rfl
theorem dL_law_852 : decode cL_law 852 = .ok (.iload 5, 2) := okD_at (i := 41) dB_L_law_9 rfl
theorem dL_law_854 : decode cL_law 854 = .ok (.iconst 2, 1) := okD_at (i := 42) dB_L_law_9 rfl
theorem dL_law_855 : decode cL_law 855 = .ok (.iadd, 1) := okD_at (i := 43) dB_L_law_9 rfl
theorem dL_law_856 : decode cL_law 856 = .ok (.iaload, 1) := okD_at (i := 44) dB_L_law_9 rfl
theorem dL_law_857 : decode cL_law 857 = .ok (.aload_n 3, 1) := okD_at (i := 45) dB_L_law_9 rfl
theorem dL_law_858 : decode cL_law 858 = .ok (.invokestatic 166, 3) := okD_at (i := 46) dB_L_law_9 rfl
theorem dL_law_861 : decode cL_law 861 = .ok (.istore 6, 2) := okD_at (i := 47) dB_L_law_9 rfl
theorem dL_law_863 : decode cL_law 863 = .ok (.aload_n 2, 1) := okD_at (i := 48) dB_L_law_9 rfl
theorem dL_law_864 : decode cL_law 864 = .ok (.aload_n 0, 1) := okD_at (i := 49) dB_L_law_9 rfl
set_option maxRecDepth 100000 in
theorem dB_L_law_10 : okD_ cL_law [(865, .iload 5, 2), (867, .iconst 1, 1), (868, .iadd, 1), (869, .iaload, 1), (870, .aload_n 0, 1), (871, .iload 5, 2), (873, .iconst 2, 1), (874, .iadd, 1), (875, .iaload, 1), (876, .invokevirtual 168, 3), (879, .istore 7, 2), (881, .goto 404, 3), (884, .aload_n 1, 1), (885, .aload_n 0, 1), (886, .iload 5, 2), (888, .iconst 1, 1), (889, .iadd, 1), (890, .iaload, 1), (891, .aload_n 0, 1), (892, .iload 5, 2), (894, .iconst 2, 1), (895, .iadd, 1), (896, .iaload, 1), (897, .aload_n 3, 1), (898, .invokestatic 169, 3), (901, .istore 6, 2), (903, .aload_n 2, 1), (904, .aload_n 0, 1), (905, .iload 5, 2), (907, .iconst 1, 1), (908, .iadd, 1), (909, .iaload, 1), (910, .aload_n 0, 1), (911, .iload 5, 2), (913, .iconst 2, 1), (914, .iadd, 1), (915, .iaload, 1), (916, .invokevirtual 171, 3), (919, .istore 7, 2), (921, .goto 364, 3), (924, .aload_n 1, 1), (925, .aload_n 0, 1), (926, .iload 5, 2), (928, .iconst 1, 1), (929, .iadd, 1), (930, .iaload, 1), (931, .aload_n 0, 1), (932, .iload 5, 2), (934, .iconst 2, 1), (935, .iadd, 1)] = true := by decide +kernel
theorem dL_law_865 : decode cL_law 865 = .ok (.iload 5, 2) := okD_at (i := 0) dB_L_law_10 rfl
theorem dL_law_867 : decode cL_law 867 = .ok (.iconst 1, 1) := okD_at (i := 1) dB_L_law_10 rfl
theorem dL_law_868 : decode cL_law 868 = .ok (.iadd, 1) := okD_at (i := 2) dB_L_law_10 rfl
theorem dL_law_869 : decode cL_law 869 = .ok (.iaload, 1) := okD_at (i := 3) dB_L_law_10 rfl
theorem dL_law_870 : decode cL_law 870 = .ok (.aload_n 0, 1) := okD_at (i := 4) dB_L_law_10 rfl
theorem dL_law_871 : decode cL_law 871 = .ok (.iload 5, 2) := okD_at (i := 5) dB_L_law_10 rfl
theorem dL_law_873 : decode cL_law 873 = .ok (.iconst 2, 1) := okD_at (i := 6) dB_L_law_10 rfl
theorem dL_law_874 : decode cL_law 874 = .ok (.iadd, 1) := okD_at (i := 7) dB_L_law_10 rfl
theorem dL_law_875 : decode cL_law 875 = .ok (.iaload, 1) := okD_at (i := 8) dB_L_law_10 rfl
theorem dL_law_876 : decode cL_law 876 = .ok (.invokevirtual 168, 3) := okD_at (i := 9) dB_L_law_10 rfl
theorem dL_law_879 : decode cL_law 879 = .ok (.istore 7, 2) := okD_at (i := 10) dB_L_law_10 rfl
theorem dL_law_881 : decode cL_law 881 = .ok (.goto 404, 3) := okD_at (i := 11) dB_L_law_10 rfl
theorem dL_law_884 : decode cL_law 884 = .ok (.aload_n 1, 1) := okD_at (i := 12) dB_L_law_10 rfl
theorem dL_law_885 : decode cL_law 885 = .ok (.aload_n 0, 1) := okD_at (i := 13) dB_L_law_10 rfl
theorem dL_law_886 : decode cL_law 886 = .ok (.iload 5, 2) := okD_at (i := 14) dB_L_law_10 rfl
theorem dL_law_888 : decode cL_law 888 = .ok (.iconst 1, 1) := okD_at (i := 15) dB_L_law_10 rfl
theorem dL_law_889 : decode cL_law 889 = .ok (.iadd, 1) := okD_at (i := 16) dB_L_law_10 rfl
theorem dL_law_890 : decode cL_law 890 = .ok (.iaload, 1) := okD_at (i := 17) dB_L_law_10 rfl
theorem dL_law_891 : decode cL_law 891 = .ok (.aload_n 0, 1) := okD_at (i := 18) dB_L_law_10 rfl
theorem dL_law_892 : decode cL_law 892 = .ok (.iload 5, 2) := okD_at (i := 19) dB_L_law_10 rfl
theorem dL_law_894 : decode cL_law 894 = .ok (.iconst 2, 1) := okD_at (i := 20) dB_L_law_10 rfl
theorem dL_law_895 : decode cL_law 895 = .ok (.iadd, 1) := okD_at (i := 21) dB_L_law_10 rfl
theorem dL_law_896 : decode cL_law 896 = .ok (.iaload, 1) := okD_at (i := 22) dB_L_law_10 rfl
theorem dL_law_897 : decode cL_law 897 = .ok (.aload_n 3, 1) := okD_at (i := 23) dB_L_law_10 rfl
theorem dL_law_898 : decode cL_law 898 = .ok (.invokestatic 169, 3) := okD_at (i := 24) dB_L_law_10 rfl
theorem dL_law_901 : decode cL_law 901 = .ok (.istore 6, 2) := okD_at (i := 25) dB_L_law_10 rfl
theorem dL_law_903 : decode cL_law 903 = .ok (.aload_n 2, 1) := okD_at (i := 26) dB_L_law_10 rfl
theorem dL_law_904 : decode cL_law 904 = .ok (.aload_n 0, 1) := okD_at (i := 27) dB_L_law_10 rfl
theorem dL_law_905 : decode cL_law 905 = .ok (.iload 5, 2) := okD_at (i := 28) dB_L_law_10 rfl
theorem dL_law_907 : decode cL_law 907 = .ok (.iconst 1, 1) := okD_at (i := 29) dB_L_law_10 rfl
theorem dL_law_908 : decode cL_law 908 = .ok (.iadd, 1) := okD_at (i := 30) dB_L_law_10 rfl
theorem dL_law_909 : decode cL_law 909 = .ok (.iaload, 1) := okD_at (i := 31) dB_L_law_10 rfl
theorem dL_law_910 : decode cL_law 910 = .ok (.aload_n 0, 1) := okD_at (i := 32) dB_L_law_10 rfl
theorem dL_law_911 : decode cL_law 911 = .ok (.iload 5, 2) := okD_at (i := 33) dB_L_law_10 rfl
theorem dL_law_913 : decode cL_law 913 = .ok (.iconst 2, 1) := okD_at (i := 34) dB_L_law_10 rfl
theorem dL_law_914 : decode cL_law 914 = .ok (.iadd, 1) := okD_at (i := 35) dB_L_law_10 rfl
theorem dL_law_915 : decode cL_law 915 = .ok (.iaload, 1) := okD_at (i := 36) dB_L_law_10 rfl
theorem dL_law_916 : decode cL_law 916 = .ok (.invokevirtual 171, 3) := okD_at (i := 37) dB_L_law_10 rfl
theorem dL_law_919 : decode cL_law 919 = .ok (.istore 7, 2) := okD_at (i := 38) dB_L_law_10 rfl
theorem dL_law_921 : decode cL_law 921 = .ok (.goto 364, 3) := okD_at (i := 39) dB_L_law_10 rfl
theorem dL_law_924 : decode cL_law 924 = .ok (.aload_n 1, 1) := okD_at (i := 40) dB_L_law_10 rfl
theorem dL_law_925 : decode cL_law 925 = .ok (.aload_n 0, 1) := okD_at (i := 41) dB_L_law_10 rfl
theorem dL_law_926 : decode cL_law 926 = .ok (.iload 5, 2) := okD_at (i := 42) dB_L_law_10 rfl
theorem dL_law_928 : decode cL_law 928 = .ok (.iconst 1, 1) := okD_at (i := 43) dB_L_law_10 rfl
theorem dL_law_929 : decode cL_law 929 = .ok (.iadd, 1) := okD_at (i := 44) dB_L_law_10 rfl
theorem dL_law_930 : decode cL_law 930 = .ok (.iaload, 1) := okD_at (i := 45) dB_L_law_10 rfl
theorem dL_law_931 : decode cL_law 931 = .ok (.aload_n 0, 1) := okD_at (i := 46) dB_L_law_10 rfl
theorem dL_law_932 : decode cL_law 932 = .ok (.iload 5, 2) := okD_at (i := 47) dB_L_law_10 rfl
theorem dL_law_934 : decode cL_law 934 = .ok (.iconst 2, 1) := okD_at (i := 48) dB_L_law_10 rfl
theorem dL_law_935 : decode cL_law 935 = .ok (.iadd, 1) := okD_at (i := 49) dB_L_law_10 rfl
set_option maxRecDepth 100000 in
theorem dB_L_law_11 : okD_ cL_law [(936, .iaload, 1), (937, .aload_n 3, 1), (938, .invokestatic 172, 3), (941, .istore 6, 2), (943, .aload_n 2, 1), (944, .aload_n 0, 1), (945, .iload 5, 2), (947, .iconst 1, 1), (948, .iadd, 1), (949, .iaload, 1), (950, .aload_n 0, 1), (951, .iload 5, 2), (953, .iconst 2, 1), (954, .iadd, 1), (955, .iaload, 1), (956, .invokevirtual 174, 3), (959, .istore 7, 2), (961, .goto 324, 3), (964, .aload_n 1, 1), (965, .aload_n 0, 1), (966, .iload 5, 2), (968, .iconst 1, 1), (969, .iadd, 1), (970, .iaload, 1), (971, .aload_n 0, 1), (972, .iload 5, 2), (974, .iconst 2, 1), (975, .iadd, 1), (976, .iaload, 1), (977, .aload_n 0, 1), (978, .iload 5, 2), (980, .iconst 3, 1), (981, .iadd, 1), (982, .iaload, 1), (983, .aload_n 3, 1), (984, .invokestatic 175, 3), (987, .istore 6, 2), (989, .aload_n 2, 1), (990, .aload_n 0, 1), (991, .iload 5, 2), (993, .iconst 1, 1), (994, .iadd, 1), (995, .iaload, 1), (996, .aload_n 0, 1), (997, .iload 5, 2), (999, .iconst 2, 1), (1000, .iadd, 1), (1001, .iaload, 1), (1002, .aload_n 0, 1), (1003, .iload 5, 2)] = true := by decide +kernel
theorem dL_law_936 : decode cL_law 936 = .ok (.iaload, 1) := okD_at (i := 0) dB_L_law_11 rfl
theorem dL_law_937 : decode cL_law 937 = .ok (.aload_n 3, 1) := okD_at (i := 1) dB_L_law_11 rfl
theorem dL_law_938 : decode cL_law 938 = .ok (.invokestatic 172, 3) := okD_at (i := 2) dB_L_law_11 rfl
theorem dL_law_941 : decode cL_law 941 = .ok (.istore 6, 2) := okD_at (i := 3) dB_L_law_11 rfl
theorem dL_law_943 : decode cL_law 943 = .ok (.aload_n 2, 1) := okD_at (i := 4) dB_L_law_11 rfl
theorem dL_law_944 : decode cL_law 944 = .ok (.aload_n 0, 1) := okD_at (i := 5) dB_L_law_11 rfl
theorem dL_law_945 : decode cL_law 945 = .ok (.iload 5, 2) := okD_at (i := 6) dB_L_law_11 rfl
theorem dL_law_947 : decode cL_law 947 = .ok (.iconst 1, 1) := okD_at (i := 7) dB_L_law_11 rfl
theorem dL_law_948 : decode cL_law 948 = .ok (.iadd, 1) := okD_at (i := 8) dB_L_law_11 rfl
theorem dL_law_949 : decode cL_law 949 = .ok (.iaload, 1) := okD_at (i := 9) dB_L_law_11 rfl
theorem dL_law_950 : decode cL_law 950 = .ok (.aload_n 0, 1) := okD_at (i := 10) dB_L_law_11 rfl
theorem dL_law_951 : decode cL_law 951 = .ok (.iload 5, 2) := okD_at (i := 11) dB_L_law_11 rfl
theorem dL_law_953 : decode cL_law 953 = .ok (.iconst 2, 1) := okD_at (i := 12) dB_L_law_11 rfl
theorem dL_law_954 : decode cL_law 954 = .ok (.iadd, 1) := okD_at (i := 13) dB_L_law_11 rfl
theorem dL_law_955 : decode cL_law 955 = .ok (.iaload, 1) := okD_at (i := 14) dB_L_law_11 rfl
theorem dL_law_956 : decode cL_law 956 = .ok (.invokevirtual 174, 3) := okD_at (i := 15) dB_L_law_11 rfl
theorem dL_law_959 : decode cL_law 959 = .ok (.istore 7, 2) := okD_at (i := 16) dB_L_law_11 rfl
theorem dL_law_961 : decode cL_law 961 = .ok (.goto 324, 3) := okD_at (i := 17) dB_L_law_11 rfl
theorem dL_law_964 : decode cL_law 964 = .ok (.aload_n 1, 1) := okD_at (i := 18) dB_L_law_11 rfl
theorem dL_law_965 : decode cL_law 965 = .ok (.aload_n 0, 1) := okD_at (i := 19) dB_L_law_11 rfl
theorem dL_law_966 : decode cL_law 966 = .ok (.iload 5, 2) := okD_at (i := 20) dB_L_law_11 rfl
theorem dL_law_968 : decode cL_law 968 = .ok (.iconst 1, 1) := okD_at (i := 21) dB_L_law_11 rfl
theorem dL_law_969 : decode cL_law 969 = .ok (.iadd, 1) := okD_at (i := 22) dB_L_law_11 rfl
theorem dL_law_970 : decode cL_law 970 = .ok (.iaload, 1) := okD_at (i := 23) dB_L_law_11 rfl
theorem dL_law_971 : decode cL_law 971 = .ok (.aload_n 0, 1) := okD_at (i := 24) dB_L_law_11 rfl
theorem dL_law_972 : decode cL_law 972 = .ok (.iload 5, 2) := okD_at (i := 25) dB_L_law_11 rfl
theorem dL_law_974 : decode cL_law 974 = .ok (.iconst 2, 1) := okD_at (i := 26) dB_L_law_11 rfl
theorem dL_law_975 : decode cL_law 975 = .ok (.iadd, 1) := okD_at (i := 27) dB_L_law_11 rfl
theorem dL_law_976 : decode cL_law 976 = .ok (.iaload, 1) := okD_at (i := 28) dB_L_law_11 rfl
theorem dL_law_977 : decode cL_law 977 = .ok (.aload_n 0, 1) := okD_at (i := 29) dB_L_law_11 rfl
theorem dL_law_978 : decode cL_law 978 = .ok (.iload 5, 2) := okD_at (i := 30) dB_L_law_11 rfl
theorem dL_law_980 : decode cL_law 980 = .ok (.iconst 3, 1) := okD_at (i := 31) dB_L_law_11 rfl
theorem dL_law_981 : decode cL_law 981 = .ok (.iadd, 1) := okD_at (i := 32) dB_L_law_11 rfl
theorem dL_law_982 : decode cL_law 982 = .ok (.iaload, 1) := okD_at (i := 33) dB_L_law_11 rfl
theorem dL_law_983 : decode cL_law 983 = .ok (.aload_n 3, 1) := okD_at (i := 34) dB_L_law_11 rfl
theorem dL_law_984 : decode cL_law 984 = .ok (.invokestatic 175, 3) := okD_at (i := 35) dB_L_law_11 rfl
theorem dL_law_987 : decode cL_law 987 = .ok (.istore 6, 2) := okD_at (i := 36) dB_L_law_11 rfl
theorem dL_law_989 : decode cL_law 989 = .ok (.aload_n 2, 1) := okD_at (i := 37) dB_L_law_11 rfl
theorem dL_law_990 : decode cL_law 990 = .ok (.aload_n 0, 1) := okD_at (i := 38) dB_L_law_11 rfl
theorem dL_law_991 : decode cL_law 991 = .ok (.iload 5, 2) := okD_at (i := 39) dB_L_law_11 rfl
theorem dL_law_993 : decode cL_law 993 = .ok (.iconst 1, 1) := okD_at (i := 40) dB_L_law_11 rfl
theorem dL_law_994 : decode cL_law 994 = .ok (.iadd, 1) := okD_at (i := 41) dB_L_law_11 rfl
theorem dL_law_995 : decode cL_law 995 = .ok (.iaload, 1) := okD_at (i := 42) dB_L_law_11 rfl
theorem dL_law_996 : decode cL_law 996 = .ok (.aload_n 0, 1) := okD_at (i := 43) dB_L_law_11 rfl
theorem dL_law_997 : decode cL_law 997 = .ok (.iload 5, 2) := okD_at (i := 44) dB_L_law_11 rfl
theorem dL_law_999 : decode cL_law 999 = .ok (.iconst 2, 1) := okD_at (i := 45) dB_L_law_11 rfl
theorem dL_law_1000 : decode cL_law 1000 = .ok (.iadd, 1) := okD_at (i := 46) dB_L_law_11 rfl
theorem dL_law_1001 : decode cL_law 1001 = .ok (.iaload, 1) := okD_at (i := 47) dB_L_law_11 rfl
theorem dL_law_1002 : decode cL_law 1002 = .ok (.aload_n 0, 1) := okD_at (i := 48) dB_L_law_11 rfl
theorem dL_law_1003 : decode cL_law 1003 = .ok (.iload 5, 2) := okD_at (i := 49) dB_L_law_11 rfl
set_option maxRecDepth 100000 in
theorem dB_L_law_12 : okD_ cL_law [(1005, .iconst 3, 1), (1006, .iadd, 1), (1007, .iaload, 1), (1008, .invokevirtual 177, 3), (1011, .istore 7, 2), (1013, .goto 272, 3), (1016, .aload_n 1, 1), (1017, .aload_n 0, 1), (1018, .iload 5, 2), (1020, .iconst 1, 1), (1021, .iadd, 1), (1022, .iaload, 1), (1023, .aload_n 3, 1), (1024, .invokestatic 178, 3), (1027, .istore 6, 2), (1029, .aload_n 2, 1), (1030, .aload_n 0, 1), (1031, .iload 5, 2), (1033, .iconst 1, 1), (1034, .iadd, 1), (1035, .iaload, 1), (1036, .invokevirtual 180, 3), (1039, .istore 7, 2), (1041, .goto 244, 3), (1044, .aload_n 1, 1), (1045, .invokevirtual 181, 3), (1048, .pop, 1), (1049, .aload_n 2, 1), (1050, .invokevirtual 185, 3), (1053, .pop, 1), (1054, .goto 231, 3), (1057, .aload_n 1, 1), (1058, .invokevirtual 186, 3), (1061, .pop, 1), (1062, .aload_n 2, 1), (1063, .invokevirtual 189, 3), (1066, .pop, 1), (1067, .goto 218, 3), (1070, .aload_n 1, 1), (1071, .invokevirtual 190, 3), (1074, .pop, 1), (1075, .aload_n 2, 1), (1076, .invokevirtual 193, 3), (1079, .pop, 1), (1080, .goto 205, 3), (1083, .aload_n 1, 1), (1084, .aload_n 0, 1), (1085, .iload 5, 2), (1087, .iconst 1, 1), (1088, .iadd, 1)] = true := by decide +kernel
theorem dL_law_1005 : decode cL_law 1005 = .ok (.iconst 3, 1) := okD_at (i := 0) dB_L_law_12 rfl
theorem dL_law_1006 : decode cL_law 1006 = .ok (.iadd, 1) := okD_at (i := 1) dB_L_law_12 rfl
theorem dL_law_1007 : decode cL_law 1007 = .ok (.iaload, 1) := okD_at (i := 2) dB_L_law_12 rfl
theorem dL_law_1008 : decode cL_law 1008 = .ok (.invokevirtual 177, 3) := okD_at (i := 3) dB_L_law_12 rfl
theorem dL_law_1011 : decode cL_law 1011 = .ok (.istore 7, 2) := okD_at (i := 4) dB_L_law_12 rfl
theorem dL_law_1013 : decode cL_law 1013 = .ok (.goto 272, 3) := okD_at (i := 5) dB_L_law_12 rfl
theorem dL_law_1016 : decode cL_law 1016 = .ok (.aload_n 1, 1) := okD_at (i := 6) dB_L_law_12 rfl
theorem dL_law_1017 : decode cL_law 1017 = .ok (.aload_n 0, 1) := okD_at (i := 7) dB_L_law_12 rfl
theorem dL_law_1018 : decode cL_law 1018 = .ok (.iload 5, 2) := okD_at (i := 8) dB_L_law_12 rfl
theorem dL_law_1020 : decode cL_law 1020 = .ok (.iconst 1, 1) := okD_at (i := 9) dB_L_law_12 rfl
theorem dL_law_1021 : decode cL_law 1021 = .ok (.iadd, 1) := okD_at (i := 10) dB_L_law_12 rfl
theorem dL_law_1022 : decode cL_law 1022 = .ok (.iaload, 1) := okD_at (i := 11) dB_L_law_12 rfl
theorem dL_law_1023 : decode cL_law 1023 = .ok (.aload_n 3, 1) := okD_at (i := 12) dB_L_law_12 rfl
theorem dL_law_1024 : decode cL_law 1024 = .ok (.invokestatic 178, 3) := okD_at (i := 13) dB_L_law_12 rfl
theorem dL_law_1027 : decode cL_law 1027 = .ok (.istore 6, 2) := okD_at (i := 14) dB_L_law_12 rfl
theorem dL_law_1029 : decode cL_law 1029 = .ok (.aload_n 2, 1) := okD_at (i := 15) dB_L_law_12 rfl
theorem dL_law_1030 : decode cL_law 1030 = .ok (.aload_n 0, 1) := okD_at (i := 16) dB_L_law_12 rfl
theorem dL_law_1031 : decode cL_law 1031 = .ok (.iload 5, 2) := okD_at (i := 17) dB_L_law_12 rfl
theorem dL_law_1033 : decode cL_law 1033 = .ok (.iconst 1, 1) := okD_at (i := 18) dB_L_law_12 rfl
theorem dL_law_1034 : decode cL_law 1034 = .ok (.iadd, 1) := okD_at (i := 19) dB_L_law_12 rfl
theorem dL_law_1035 : decode cL_law 1035 = .ok (.iaload, 1) := okD_at (i := 20) dB_L_law_12 rfl
theorem dL_law_1036 : decode cL_law 1036 = .ok (.invokevirtual 180, 3) := okD_at (i := 21) dB_L_law_12 rfl
theorem dL_law_1039 : decode cL_law 1039 = .ok (.istore 7, 2) := okD_at (i := 22) dB_L_law_12 rfl
theorem dL_law_1041 : decode cL_law 1041 = .ok (.goto 244, 3) := okD_at (i := 23) dB_L_law_12 rfl
theorem dL_law_1044 : decode cL_law 1044 = .ok (.aload_n 1, 1) := okD_at (i := 24) dB_L_law_12 rfl
theorem dL_law_1045 : decode cL_law 1045 = .ok (.invokevirtual 181, 3) := okD_at (i := 25) dB_L_law_12 rfl
theorem dL_law_1048 : decode cL_law 1048 = .ok (.pop, 1) := okD_at (i := 26) dB_L_law_12 rfl
theorem dL_law_1049 : decode cL_law 1049 = .ok (.aload_n 2, 1) := okD_at (i := 27) dB_L_law_12 rfl
theorem dL_law_1050 : decode cL_law 1050 = .ok (.invokevirtual 185, 3) := okD_at (i := 28) dB_L_law_12 rfl
theorem dL_law_1053 : decode cL_law 1053 = .ok (.pop, 1) := okD_at (i := 29) dB_L_law_12 rfl
theorem dL_law_1054 : decode cL_law 1054 = .ok (.goto 231, 3) := okD_at (i := 30) dB_L_law_12 rfl
theorem dL_law_1057 : decode cL_law 1057 = .ok (.aload_n 1, 1) := okD_at (i := 31) dB_L_law_12 rfl
theorem dL_law_1058 : decode cL_law 1058 = .ok (.invokevirtual 186, 3) := okD_at (i := 32) dB_L_law_12 rfl
theorem dL_law_1061 : decode cL_law 1061 = .ok (.pop, 1) := okD_at (i := 33) dB_L_law_12 rfl
theorem dL_law_1062 : decode cL_law 1062 = .ok (.aload_n 2, 1) := okD_at (i := 34) dB_L_law_12 rfl
theorem dL_law_1063 : decode cL_law 1063 = .ok (.invokevirtual 189, 3) := okD_at (i := 35) dB_L_law_12 rfl
theorem dL_law_1066 : decode cL_law 1066 = .ok (.pop, 1) := okD_at (i := 36) dB_L_law_12 rfl
theorem dL_law_1067 : decode cL_law 1067 = .ok (.goto 218, 3) := okD_at (i := 37) dB_L_law_12 rfl
theorem dL_law_1070 : decode cL_law 1070 = .ok (.aload_n 1, 1) := okD_at (i := 38) dB_L_law_12 rfl
theorem dL_law_1071 : decode cL_law 1071 = .ok (.invokevirtual 190, 3) := okD_at (i := 39) dB_L_law_12 rfl
theorem dL_law_1074 : decode cL_law 1074 = .ok (.pop, 1) := okD_at (i := 40) dB_L_law_12 rfl
theorem dL_law_1075 : decode cL_law 1075 = .ok (.aload_n 2, 1) := okD_at (i := 41) dB_L_law_12 rfl
theorem dL_law_1076 : decode cL_law 1076 = .ok (.invokevirtual 193, 3) := okD_at (i := 42) dB_L_law_12 rfl
theorem dL_law_1079 : decode cL_law 1079 = .ok (.pop, 1) := okD_at (i := 43) dB_L_law_12 rfl
theorem dL_law_1080 : decode cL_law 1080 = .ok (.goto 205, 3) := okD_at (i := 44) dB_L_law_12 rfl
theorem dL_law_1083 : decode cL_law 1083 = .ok (.aload_n 1, 1) := okD_at (i := 45) dB_L_law_12 rfl
theorem dL_law_1084 : decode cL_law 1084 = .ok (.aload_n 0, 1) := okD_at (i := 46) dB_L_law_12 rfl
theorem dL_law_1085 : decode cL_law 1085 = .ok (.iload 5, 2) := okD_at (i := 47) dB_L_law_12 rfl
theorem dL_law_1087 : decode cL_law 1087 = .ok (.iconst 1, 1) := okD_at (i := 48) dB_L_law_12 rfl
theorem dL_law_1088 : decode cL_law 1088 = .ok (.iadd, 1) := okD_at (i := 49) dB_L_law_12 rfl
set_option maxRecDepth 100000 in
theorem dB_L_law_13 : okD_ cL_law [(1089, .iaload, 1), (1090, .aload_n 0, 1), (1091, .iload 5, 2), (1093, .iconst 2, 1), (1094, .iadd, 1), (1095, .iaload, 1), (1096, .aload_n 0, 1), (1097, .iload 5, 2), (1099, .iconst 3, 1), (1100, .iadd, 1), (1101, .iaload, 1), (1102, .aload_n 3, 1), (1103, .invokestatic 194, 3), (1106, .istore 6, 2), (1108, .aload_n 2, 1), (1109, .aload_n 0, 1), (1110, .iload 5, 2), (1112, .iconst 1, 1), (1113, .iadd, 1), (1114, .iaload, 1), (1115, .aload_n 0, 1), (1116, .iload 5, 2), (1118, .iconst 2, 1), (1119, .iadd, 1), (1120, .iaload, 1), (1121, .aload_n 0, 1), (1122, .iload 5, 2), (1124, .iconst 3, 1), (1125, .iadd, 1), (1126, .iaload, 1), (1127, .invokevirtual 196, 3), (1130, .istore 7, 2), (1132, .goto 153, 3), (1135, .aload_n 1, 1), (1136, .invokevirtual 197, 3), (1139, .pop2, 1), (1140, .aload_n 2, 1), (1141, .invokevirtual 201, 3), (1144, .pop2, 1), (1145, .goto 140, 3), (1148, .aload_n 1, 1), (1149, .aload_n 0, 1), (1150, .iload 5, 2), (1152, .iconst 1, 1), (1153, .iadd, 1), (1154, .iaload, 1), (1155, .aload_n 3, 1), (1156, .invokestatic 202, 3), (1159, .istore 6, 2), (1161, .aload_n 2, 1)] = true := by decide +kernel
theorem dL_law_1089 : decode cL_law 1089 = .ok (.iaload, 1) := okD_at (i := 0) dB_L_law_13 rfl
theorem dL_law_1090 : decode cL_law 1090 = .ok (.aload_n 0, 1) := okD_at (i := 1) dB_L_law_13 rfl
theorem dL_law_1091 : decode cL_law 1091 = .ok (.iload 5, 2) := okD_at (i := 2) dB_L_law_13 rfl
theorem dL_law_1093 : decode cL_law 1093 = .ok (.iconst 2, 1) := okD_at (i := 3) dB_L_law_13 rfl
theorem dL_law_1094 : decode cL_law 1094 = .ok (.iadd, 1) := okD_at (i := 4) dB_L_law_13 rfl
theorem dL_law_1095 : decode cL_law 1095 = .ok (.iaload, 1) := okD_at (i := 5) dB_L_law_13 rfl
theorem dL_law_1096 : decode cL_law 1096 = .ok (.aload_n 0, 1) := okD_at (i := 6) dB_L_law_13 rfl
theorem dL_law_1097 : decode cL_law 1097 = .ok (.iload 5, 2) := okD_at (i := 7) dB_L_law_13 rfl
theorem dL_law_1099 : decode cL_law 1099 = .ok (.iconst 3, 1) := okD_at (i := 8) dB_L_law_13 rfl
theorem dL_law_1100 : decode cL_law 1100 = .ok (.iadd, 1) := okD_at (i := 9) dB_L_law_13 rfl
theorem dL_law_1101 : decode cL_law 1101 = .ok (.iaload, 1) := okD_at (i := 10) dB_L_law_13 rfl
theorem dL_law_1102 : decode cL_law 1102 = .ok (.aload_n 3, 1) := okD_at (i := 11) dB_L_law_13 rfl
theorem dL_law_1103 : decode cL_law 1103 = .ok (.invokestatic 194, 3) := okD_at (i := 12) dB_L_law_13 rfl
theorem dL_law_1106 : decode cL_law 1106 = .ok (.istore 6, 2) := okD_at (i := 13) dB_L_law_13 rfl
theorem dL_law_1108 : decode cL_law 1108 = .ok (.aload_n 2, 1) := okD_at (i := 14) dB_L_law_13 rfl
theorem dL_law_1109 : decode cL_law 1109 = .ok (.aload_n 0, 1) := okD_at (i := 15) dB_L_law_13 rfl
theorem dL_law_1110 : decode cL_law 1110 = .ok (.iload 5, 2) := okD_at (i := 16) dB_L_law_13 rfl
theorem dL_law_1112 : decode cL_law 1112 = .ok (.iconst 1, 1) := okD_at (i := 17) dB_L_law_13 rfl
theorem dL_law_1113 : decode cL_law 1113 = .ok (.iadd, 1) := okD_at (i := 18) dB_L_law_13 rfl
theorem dL_law_1114 : decode cL_law 1114 = .ok (.iaload, 1) := okD_at (i := 19) dB_L_law_13 rfl
theorem dL_law_1115 : decode cL_law 1115 = .ok (.aload_n 0, 1) := okD_at (i := 20) dB_L_law_13 rfl
theorem dL_law_1116 : decode cL_law 1116 = .ok (.iload 5, 2) := okD_at (i := 21) dB_L_law_13 rfl
theorem dL_law_1118 : decode cL_law 1118 = .ok (.iconst 2, 1) := okD_at (i := 22) dB_L_law_13 rfl
theorem dL_law_1119 : decode cL_law 1119 = .ok (.iadd, 1) := okD_at (i := 23) dB_L_law_13 rfl
theorem dL_law_1120 : decode cL_law 1120 = .ok (.iaload, 1) := okD_at (i := 24) dB_L_law_13 rfl
theorem dL_law_1121 : decode cL_law 1121 = .ok (.aload_n 0, 1) := okD_at (i := 25) dB_L_law_13 rfl
theorem dL_law_1122 : decode cL_law 1122 = .ok (.iload 5, 2) := okD_at (i := 26) dB_L_law_13 rfl
theorem dL_law_1124 : decode cL_law 1124 = .ok (.iconst 3, 1) := okD_at (i := 27) dB_L_law_13 rfl
theorem dL_law_1125 : decode cL_law 1125 = .ok (.iadd, 1) := okD_at (i := 28) dB_L_law_13 rfl
theorem dL_law_1126 : decode cL_law 1126 = .ok (.iaload, 1) := okD_at (i := 29) dB_L_law_13 rfl
theorem dL_law_1127 : decode cL_law 1127 = .ok (.invokevirtual 196, 3) := okD_at (i := 30) dB_L_law_13 rfl
theorem dL_law_1130 : decode cL_law 1130 = .ok (.istore 7, 2) := okD_at (i := 31) dB_L_law_13 rfl
theorem dL_law_1132 : decode cL_law 1132 = .ok (.goto 153, 3) := okD_at (i := 32) dB_L_law_13 rfl
theorem dL_law_1135 : decode cL_law 1135 = .ok (.aload_n 1, 1) := okD_at (i := 33) dB_L_law_13 rfl
theorem dL_law_1136 : decode cL_law 1136 = .ok (.invokevirtual 197, 3) := okD_at (i := 34) dB_L_law_13 rfl
theorem dL_law_1139 : decode cL_law 1139 = .ok (.pop2, 1) := okD_at (i := 35) dB_L_law_13 rfl
theorem dL_law_1140 : decode cL_law 1140 = .ok (.aload_n 2, 1) := okD_at (i := 36) dB_L_law_13 rfl
theorem dL_law_1141 : decode cL_law 1141 = .ok (.invokevirtual 201, 3) := okD_at (i := 37) dB_L_law_13 rfl
theorem dL_law_1144 : decode cL_law 1144 = .ok (.pop2, 1) := okD_at (i := 38) dB_L_law_13 rfl
theorem dL_law_1145 : decode cL_law 1145 = .ok (.goto 140, 3) := okD_at (i := 39) dB_L_law_13 rfl
theorem dL_law_1148 : decode cL_law 1148 = .ok (.aload_n 1, 1) := okD_at (i := 40) dB_L_law_13 rfl
theorem dL_law_1149 : decode cL_law 1149 = .ok (.aload_n 0, 1) := okD_at (i := 41) dB_L_law_13 rfl
theorem dL_law_1150 : decode cL_law 1150 = .ok (.iload 5, 2) := okD_at (i := 42) dB_L_law_13 rfl
theorem dL_law_1152 : decode cL_law 1152 = .ok (.iconst 1, 1) := okD_at (i := 43) dB_L_law_13 rfl
theorem dL_law_1153 : decode cL_law 1153 = .ok (.iadd, 1) := okD_at (i := 44) dB_L_law_13 rfl
theorem dL_law_1154 : decode cL_law 1154 = .ok (.iaload, 1) := okD_at (i := 45) dB_L_law_13 rfl
theorem dL_law_1155 : decode cL_law 1155 = .ok (.aload_n 3, 1) := okD_at (i := 46) dB_L_law_13 rfl
theorem dL_law_1156 : decode cL_law 1156 = .ok (.invokestatic 202, 3) := okD_at (i := 47) dB_L_law_13 rfl
theorem dL_law_1159 : decode cL_law 1159 = .ok (.istore 6, 2) := okD_at (i := 48) dB_L_law_13 rfl
theorem dL_law_1161 : decode cL_law 1161 = .ok (.aload_n 2, 1) := okD_at (i := 49) dB_L_law_13 rfl
set_option maxRecDepth 100000 in
theorem dB_L_law_14 : okD_ cL_law [(1162, .aload_n 0, 1), (1163, .iload 5, 2), (1165, .iconst 1, 1), (1166, .iadd, 1), (1167, .iaload, 1), (1168, .invokevirtual 204, 3), (1171, .istore 7, 2), (1173, .goto 112, 3), (1176, .aload_n 1, 1), (1177, .invokevirtual 205, 3), (1180, .pop2, 1), (1181, .aload_n 2, 1), (1182, .invokevirtual 208, 3), (1185, .pop2, 1), (1186, .goto 99, 3), (1189, .aload_n 1, 1), (1190, .aload 4, 2), (1192, .invokestatic 209, 3), (1195, .istore 6, 2), (1197, .aload_n 2, 1), (1198, .invokevirtual 212, 3), (1201, .fstore 7, 2), (1203, .aload_n 2, 1), (1204, .invokevirtual 213, 3), (1207, .iload 6, 2), (1209, .if_icmp .eq 5, 3), (1212, .iconst 0, 1), (1213, .ireturn, 1), (1214, .iload 6, 2), (1216, .ifCond .ne 36, 3), (1219, .aload 4, 2), (1221, .iconst 0, 1), (1222, .daload, 1), (1223, .fload 7, 2), (1225, .f2d, 1), (1226, .dcmp .l, 1), (1227, .ifCond .eq 25, 3), (1230, .aload 4, 2), (1232, .iconst 0, 1), (1233, .daload, 1), (1234, .aload 4, 2), (1236, .iconst 0, 1), (1237, .daload, 1), (1238, .dcmp .l, 1), (1239, .ifCond .eq 11, 3), (1242, .fload 7, 2), (1244, .fload 7, 2), (1246, .fcmp .l, 1), (1247, .ifCond .ne 5, 3), (1250, .iconst 0, 1)] = true := by decide +kernel
theorem dL_law_1162 : decode cL_law 1162 = .ok (.aload_n 0, 1) := okD_at (i := 0) dB_L_law_14 rfl
theorem dL_law_1163 : decode cL_law 1163 = .ok (.iload 5, 2) := okD_at (i := 1) dB_L_law_14 rfl
theorem dL_law_1165 : decode cL_law 1165 = .ok (.iconst 1, 1) := okD_at (i := 2) dB_L_law_14 rfl
theorem dL_law_1166 : decode cL_law 1166 = .ok (.iadd, 1) := okD_at (i := 3) dB_L_law_14 rfl
theorem dL_law_1167 : decode cL_law 1167 = .ok (.iaload, 1) := okD_at (i := 4) dB_L_law_14 rfl
theorem dL_law_1168 : decode cL_law 1168 = .ok (.invokevirtual 204, 3) := okD_at (i := 5) dB_L_law_14 rfl
theorem dL_law_1171 : decode cL_law 1171 = .ok (.istore 7, 2) := okD_at (i := 6) dB_L_law_14 rfl
theorem dL_law_1173 : decode cL_law 1173 = .ok (.goto 112, 3) := okD_at (i := 7) dB_L_law_14 rfl
theorem dL_law_1176 : decode cL_law 1176 = .ok (.aload_n 1, 1) := okD_at (i := 8) dB_L_law_14 rfl
theorem dL_law_1177 : decode cL_law 1177 = .ok (.invokevirtual 205, 3) := okD_at (i := 9) dB_L_law_14 rfl
theorem dL_law_1180 : decode cL_law 1180 = .ok (.pop2, 1) := okD_at (i := 10) dB_L_law_14 rfl
theorem dL_law_1181 : decode cL_law 1181 = .ok (.aload_n 2, 1) := okD_at (i := 11) dB_L_law_14 rfl
theorem dL_law_1182 : decode cL_law 1182 = .ok (.invokevirtual 208, 3) := okD_at (i := 12) dB_L_law_14 rfl
theorem dL_law_1185 : decode cL_law 1185 = .ok (.pop2, 1) := okD_at (i := 13) dB_L_law_14 rfl
theorem dL_law_1186 : decode cL_law 1186 = .ok (.goto 99, 3) := okD_at (i := 14) dB_L_law_14 rfl
theorem dL_law_1189 : decode cL_law 1189 = .ok (.aload_n 1, 1) := okD_at (i := 15) dB_L_law_14 rfl
theorem dL_law_1190 : decode cL_law 1190 = .ok (.aload 4, 2) := okD_at (i := 16) dB_L_law_14 rfl
theorem dL_law_1192 : decode cL_law 1192 = .ok (.invokestatic 209, 3) := okD_at (i := 17) dB_L_law_14 rfl
theorem dL_law_1195 : decode cL_law 1195 = .ok (.istore 6, 2) := okD_at (i := 18) dB_L_law_14 rfl
theorem dL_law_1197 : decode cL_law 1197 = .ok (.aload_n 2, 1) := okD_at (i := 19) dB_L_law_14 rfl
theorem dL_law_1198 : decode cL_law 1198 = .ok (.invokevirtual 212, 3) := okD_at (i := 20) dB_L_law_14 rfl
theorem dL_law_1201 : decode cL_law 1201 = .ok (.fstore 7, 2) := okD_at (i := 21) dB_L_law_14 rfl
theorem dL_law_1203 : decode cL_law 1203 = .ok (.aload_n 2, 1) := okD_at (i := 22) dB_L_law_14 rfl
theorem dL_law_1204 : decode cL_law 1204 = .ok (.invokevirtual 213, 3) := okD_at (i := 23) dB_L_law_14 rfl
theorem dL_law_1207 : decode cL_law 1207 = .ok (.iload 6, 2) := okD_at (i := 24) dB_L_law_14 rfl
theorem dL_law_1209 : decode cL_law 1209 = .ok (.if_icmp .eq 5, 3) := okD_at (i := 25) dB_L_law_14 rfl
theorem dL_law_1212 : decode cL_law 1212 = .ok (.iconst 0, 1) := okD_at (i := 26) dB_L_law_14 rfl
theorem dL_law_1213 : decode cL_law 1213 = .ok (.ireturn, 1) := okD_at (i := 27) dB_L_law_14 rfl
theorem dL_law_1214 : decode cL_law 1214 = .ok (.iload 6, 2) := okD_at (i := 28) dB_L_law_14 rfl
theorem dL_law_1216 : decode cL_law 1216 = .ok (.ifCond .ne 36, 3) := okD_at (i := 29) dB_L_law_14 rfl
theorem dL_law_1219 : decode cL_law 1219 = .ok (.aload 4, 2) := okD_at (i := 30) dB_L_law_14 rfl
theorem dL_law_1221 : decode cL_law 1221 = .ok (.iconst 0, 1) := okD_at (i := 31) dB_L_law_14 rfl
theorem dL_law_1222 : decode cL_law 1222 = .ok (.daload, 1) := okD_at (i := 32) dB_L_law_14 rfl
theorem dL_law_1223 : decode cL_law 1223 = .ok (.fload 7, 2) := okD_at (i := 33) dB_L_law_14 rfl
theorem dL_law_1225 : decode cL_law 1225 = .ok (.f2d, 1) := okD_at (i := 34) dB_L_law_14 rfl
theorem dL_law_1226 : decode cL_law 1226 = .ok (.dcmp .l, 1) := okD_at (i := 35) dB_L_law_14 rfl
theorem dL_law_1227 : decode cL_law 1227 = .ok (.ifCond .eq 25, 3) := okD_at (i := 36) dB_L_law_14 rfl
theorem dL_law_1230 : decode cL_law 1230 = .ok (.aload 4, 2) := okD_at (i := 37) dB_L_law_14 rfl
theorem dL_law_1232 : decode cL_law 1232 = .ok (.iconst 0, 1) := okD_at (i := 38) dB_L_law_14 rfl
theorem dL_law_1233 : decode cL_law 1233 = .ok (.daload, 1) := okD_at (i := 39) dB_L_law_14 rfl
theorem dL_law_1234 : decode cL_law 1234 = .ok (.aload 4, 2) := okD_at (i := 40) dB_L_law_14 rfl
theorem dL_law_1236 : decode cL_law 1236 = .ok (.iconst 0, 1) := okD_at (i := 41) dB_L_law_14 rfl
theorem dL_law_1237 : decode cL_law 1237 = .ok (.daload, 1) := okD_at (i := 42) dB_L_law_14 rfl
theorem dL_law_1238 : decode cL_law 1238 = .ok (.dcmp .l, 1) := okD_at (i := 43) dB_L_law_14 rfl
theorem dL_law_1239 : decode cL_law 1239 = .ok (.ifCond .eq 11, 3) := okD_at (i := 44) dB_L_law_14 rfl
theorem dL_law_1242 : decode cL_law 1242 = .ok (.fload 7, 2) := okD_at (i := 45) dB_L_law_14 rfl
theorem dL_law_1244 : decode cL_law 1244 = .ok (.fload 7, 2) := okD_at (i := 46) dB_L_law_14 rfl
theorem dL_law_1246 : decode cL_law 1246 = .ok (.fcmp .l, 1) := okD_at (i := 47) dB_L_law_14 rfl
theorem dL_law_1247 : decode cL_law 1247 = .ok (.ifCond .ne 5, 3) := okD_at (i := 48) dB_L_law_14 rfl
theorem dL_law_1250 : decode cL_law 1250 = .ok (.iconst 0, 1) := okD_at (i := 49) dB_L_law_14 rfl
set_option maxRecDepth 100000 in
theorem dB_L_law_15 : okD_ cL_law [(1251, .ireturn, 1), (1252, .goto 33, 3), (1255, .aload_n 1, 1), (1256, .aload 4, 2), (1258, .invokestatic 216, 3), (1261, .istore 6, 2), (1263, .aload_n 2, 1), (1264, .invokevirtual 218, 3), (1267, .dstore 7, 2), (1269, .goto 16, 3), (1272, .aload_n 1, 1), (1273, .invokevirtual 219, 3), (1276, .pop, 1), (1277, .aload_n 2, 1), (1278, .invokevirtual 223, 3), (1281, .pop, 1), (1282, .goto 3, 3), (1285, .iinc 5 5, 3), (1288, .goto (-1260), 3), (1291, .iconst 1, 1), (1292, .ireturn, 1)] = true := by decide +kernel
theorem dL_law_1251 : decode cL_law 1251 = .ok (.ireturn, 1) := okD_at (i := 0) dB_L_law_15 rfl
theorem dL_law_1252 : decode cL_law 1252 = .ok (.goto 33, 3) := okD_at (i := 1) dB_L_law_15 rfl
theorem dL_law_1255 : decode cL_law 1255 = .ok (.aload_n 1, 1) := okD_at (i := 2) dB_L_law_15 rfl
theorem dL_law_1256 : decode cL_law 1256 = .ok (.aload 4, 2) := okD_at (i := 3) dB_L_law_15 rfl
theorem dL_law_1258 : decode cL_law 1258 = .ok (.invokestatic 216, 3) := okD_at (i := 4) dB_L_law_15 rfl
theorem dL_law_1261 : decode cL_law 1261 = .ok (.istore 6, 2) := okD_at (i := 5) dB_L_law_15 rfl
theorem dL_law_1263 : decode cL_law 1263 = .ok (.aload_n 2, 1) := okD_at (i := 6) dB_L_law_15 rfl
theorem dL_law_1264 : decode cL_law 1264 = .ok (.invokevirtual 218, 3) := okD_at (i := 7) dB_L_law_15 rfl
theorem dL_law_1267 : decode cL_law 1267 = .ok (.dstore 7, 2) := okD_at (i := 8) dB_L_law_15 rfl
theorem dL_law_1269 : decode cL_law 1269 = .ok (.goto 16, 3) := okD_at (i := 9) dB_L_law_15 rfl
theorem dL_law_1272 : decode cL_law 1272 = .ok (.aload_n 1, 1) := okD_at (i := 10) dB_L_law_15 rfl
theorem dL_law_1273 : decode cL_law 1273 = .ok (.invokevirtual 219, 3) := okD_at (i := 11) dB_L_law_15 rfl
theorem dL_law_1276 : decode cL_law 1276 = .ok (.pop, 1) := okD_at (i := 12) dB_L_law_15 rfl
theorem dL_law_1277 : decode cL_law 1277 = .ok (.aload_n 2, 1) := okD_at (i := 13) dB_L_law_15 rfl
theorem dL_law_1278 : decode cL_law 1278 = .ok (.invokevirtual 223, 3) := okD_at (i := 14) dB_L_law_15 rfl
theorem dL_law_1281 : decode cL_law 1281 = .ok (.pop, 1) := okD_at (i := 15) dB_L_law_15 rfl
theorem dL_law_1282 : decode cL_law 1282 = .ok (.goto 3, 3) := okD_at (i := 16) dB_L_law_15 rfl
theorem dL_law_1285 : decode cL_law 1285 = .ok (.iinc 5 5, 3) := okD_at (i := 17) dB_L_law_15 rfl
theorem dL_law_1288 : decode cL_law 1288 = .ok (.goto (-1260), 3) := okD_at (i := 18) dB_L_law_15 rfl
theorem dL_law_1291 : decode cL_law 1291 = .ok (.iconst 1, 1) := okD_at (i := 19) dB_L_law_15 rfl
theorem dL_law_1292 : decode cL_law 1292 = .ok (.ireturn, 1) := okD_at (i := 20) dB_L_law_15 rfl
