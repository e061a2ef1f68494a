def dLw0 : List (Nat × Instr × Nat) := [(0, .new 7, 3), (3, .dup, 1), (4, .invokespecial 9, 3), (7, .astore_n 1, 1), (8, .new 10, 3), (11, .dup, 1), (12, .invokespecial 12, 3), (15, .astore_n 2, 1), (16, .iconst 0, 1), (17, .istore_n 3, 1), (18, .iload_n 3, 1), (19, .aload_n 0, 1), (20, .arraylength, 1), (21, .bipush 6, 2), (23, .isub, 1), (24, .if_icmp .gt 1353, 3)]
theorem dLw0_ok : dLw0.all (dk_q code) = true := by decide +kernel
theorem dL_law_0 : decode code 0 = .ok (.new 7, 3) := dk_D_ok dLw0_ok 0 (.new 7, 3) rfl
theorem dL_law_3 : decode code 3 = .ok (.dup, 1) := dk_D_ok dLw0_ok 3 (.dup, 1) rfl
theorem dL_law_4 : decode code 4 = .ok (.invokespecial 9, 3) := dk_D_ok dLw0_ok 4 (.invokespecial 9, 3) rfl
theorem dL_law_7 : decode code 7 = .ok (.astore_n 1, 1) := dk_D_ok dLw0_ok 7 (.astore_n 1, 1) rfl
theorem dL_law_8 : decode code 8 = .ok (.new 10, 3) := dk_D_ok dLw0_ok 8 (.new 10, 3) rfl
theorem dL_law_11 : decode code 11 = .ok (.dup, 1) := dk_D_ok dLw0_ok 11 (.dup, 1) rfl
theorem dL_law_12 : decode code 12 = .ok (.invokespecial 12, 3) := dk_D_ok dLw0_ok 12 (.invokespecial 12, 3) rfl
theorem dL_law_15 : decode code 15 = .ok (.astore_n 2, 1) := dk_D_ok dLw0_ok 15 (.astore_n 2, 1) rfl
theorem dL_law_16 : decode code 16 = .ok (.iconst 0, 1) := dk_D_ok dLw0_ok 16 (.iconst 0, 1) rfl
theorem dL_law_17 : decode code 17 = .ok (.istore_n 3, 1) := dk_D_ok dLw0_ok 17 (.istore_n 3, 1) rfl
theorem dL_law_18 : decode code 18 = .ok (.iload_n 3, 1) := dk_D_ok dLw0_ok 18 (.iload_n 3, 1) rfl
theorem dL_law_19 : decode code 19 = .ok (.aload_n 0, 1) := dk_D_ok dLw0_ok 19 (.aload_n 0, 1) rfl
theorem dL_law_20 : decode code 20 = .ok (.arraylength, 1) := dk_D_ok dLw0_ok 20 (.arraylength, 1) rfl
theorem dL_law_21 : decode code 21 = .ok (.bipush 6, 2) := dk_D_ok dLw0_ok 21 (.bipush 6, 2) rfl
theorem dL_law_23 : decode code 23 = .ok (.isub, 1) := dk_D_ok dLw0_ok 23 (.isub, 1) rfl
theorem dL_law_24 : decode code 24 = .ok (.if_icmp .gt 1353, 3) := dk_D_ok dLw0_ok 24 (.if_icmp .gt 1353, 3) rfl
def dLw1 : List (Nat × Instr × Nat) := [(27, .aload_n 0, 1), (28, .iload_n 3, 1), (29, .iaload, 1), (30, .bipush 63, 2), (32, .iand, 1), (33, .tableswitch 1338 0 40 #[179, 242, 265, 278, 291, 324, 357, 390, 423, 446, 469, 492, 505, 538, 551, 604, 637, 660, 683, 706, 739, 772, 805, 838, 851, 884, 907, 930, 963, 996, 1019, 1062, 1075, 1118, 1151, 1200, 1213, 1246, 1269, 1292, 1315], 179), (212, .aload_n 1, 1), (213, .aload_n 0, 1), (214, .iload_n 3, 1), (215, .iconst 1, 1), (216, .iadd, 1), (217, .iaload, 1), (218, .aload_n 0, 1), (219, .iload_n 3, 1), (220, .iconst 2, 1), (221, .iadd, 1)]
theorem dLw1_ok : dLw1.all (dk_q code) = true := by decide +kernel
theorem dL_law_27 : decode code 27 = .ok (.aload_n 0, 1) := dk_D_ok dLw1_ok 27 (.aload_n 0, 1) rfl
theorem dL_law_28 : decode code 28 = .ok (.iload_n 3, 1) := dk_D_ok dLw1_ok 28 (.iload_n 3, 1) rfl
theorem dL_law_29 : decode code 29 = .ok (.iaload, 1) := dk_D_ok dLw1_ok 29 (.iaload, 1) rfl
theorem dL_law_30 : decode code 30 = .ok (.bipush 63, 2) := dk_D_ok dLw1_ok 30 (.bipush 63, 2) rfl
theorem dL_law_32 : decode code 32 = .ok (.iand, 1) := dk_D_ok dLw1_ok 32 (.iand, 1) rfl
theorem dL_law_33 : decode code 33 = .ok (.tableswitch 1338 0 40 #[179, 242, 265, 278, 291, 324, 357, 390, 423, 446, 469, 492, 505, 538, 551, 604, 637, 660, 683, 706, 739, 772, 805, 838, 851, 884, 907, 930, 963, 996, 1019, 1062, 1075, 1118, 1151, 1200, 1213, 1246, 1269, 1292, 1315], 179) := dk_D_ok dLw1_ok 33 (.tableswitch 1338 0 40 #[179, 242, 265, 278, 291, 324, 357, 390, 423, 446, 469, 492, 505, 538, 551, 604, 637, 660, 683, 706, 739, 772, 805, 838, 851, 884, 907, 930, 963, 996, 1019, 1062, 1075, 1118, 1151, 1200, 1213, 1246, 1269, 1292, 1315], 179) rfl
theorem dL_law_212 : decode code 212 = .ok (.aload_n 1, 1) := dk_D_ok dLw1_ok 212 (.aload_n 1, 1) rfl
theorem dL_law_213 : decode code 213 = .ok (.aload_n 0, 1) := dk_D_ok dLw1_ok 213 (.aload_n 0, 1) rfl
theorem dL_law_214 : decode code 214 = .ok (.iload_n 3, 1) := dk_D_ok dLw1_ok 214 (.iload_n 3, 1) rfl
theorem dL_law_215 : decode code 215 = .ok (.iconst 1, 1) := dk_D_ok dLw1_ok 215 (.iconst 1, 1) rfl
theorem dL_law_216 : decode code 216 = .ok (.iadd, 1) := dk_D_ok dLw1_ok 216 (.iadd, 1) rfl
theorem dL_law_217 : decode code 217 = .ok (.iaload, 1) := dk_D_ok dLw1_ok 217 (.iaload, 1) rfl
theorem dL_law_218 : decode code 218 = .ok (.aload_n 0, 1) := dk_D_ok dLw1_ok 218 (.aload_n 0, 1) rfl
theorem dL_law_219 : decode code 219 = .ok (.iload_n 3, 1) := dk_D_ok dLw1_ok 219 (.iload_n 3, 1) rfl
theorem dL_law_220 : decode code 220 = .ok (.iconst 2, 1) := dk_D_ok dLw1_ok 220 (.iconst 2, 1) rfl
theorem dL_law_221 : decode code 221 = .ok (.iadd, 1) := dk_D_ok dLw1_ok 221 (.iadd, 1) rfl
def dLw2 : List (Nat × Instr × Nat) := [(222, .iaload, 1), (223, .aload_n 0, 1), (224, .iload_n 3, 1), (225, .iconst 3, 1), (226, .iadd, 1), (227, .iaload, 1), (228, .aload_n 0, 1), (229, .iload_n 3, 1), (230, .iconst 4, 1), (231, .iadd, 1), (232, .iaload, 1), (233, .aload_n 0, 1), (234, .iload_n 3, 1), (235, .iconst 5, 1), (236, .iadd, 1), (237, .iaload, 1)]
theorem dLw2_ok : dLw2.all (dk_q code) = true := by decide +kernel
theorem dL_law_222 : decode code 222 = .ok (.iaload, 1) := dk_D_ok dLw2_ok 222 (.iaload, 1) rfl
theorem dL_law_223 : decode code 223 = .ok (.aload_n 0, 1) := dk_D_ok dLw2_ok 223 (.aload_n 0, 1) rfl
theorem dL_law_224 : decode code 224 = .ok (.iload_n 3, 1) := dk_D_ok dLw2_ok 224 (.iload_n 3, 1) rfl
theorem dL_law_225 : decode code 225 = .ok (.iconst 3, 1) := dk_D_ok dLw2_ok 225 (.iconst 3, 1) rfl
theorem dL_law_226 : decode code 226 = .ok (.iadd, 1) := dk_D_ok dLw2_ok 226 (.iadd, 1) rfl
theorem dL_law_227 : decode code 227 = .ok (.iaload, 1) := dk_D_ok dLw2_ok 227 (.iaload, 1) rfl
theorem dL_law_228 : decode code 228 = .ok (.aload_n 0, 1) := dk_D_ok dLw2_ok 228 (.aload_n 0, 1) rfl
theorem dL_law_229 : decode code 229 = .ok (.iload_n 3, 1) := dk_D_ok dLw2_ok 229 (.iload_n 3, 1) rfl
theorem dL_law_230 : decode code 230 = .ok (.iconst 4, 1) := dk_D_ok dLw2_ok 230 (.iconst 4, 1) rfl
theorem dL_law_231 : decode code 231 = .ok (.iadd, 1) := dk_D_ok dLw2_ok 231 (.iadd, 1) rfl
theorem dL_law_232 : decode code 232 = .ok (.iaload, 1) := dk_D_ok dLw2_ok 232 (.iaload, 1) rfl
theorem dL_law_233 : decode code 233 = .ok (.aload_n 0, 1) := dk_D_ok dLw2_ok 233 (.aload_n 0, 1) rfl
theorem dL_law_234 : decode code 234 = .ok (.iload_n 3, 1) := dk_D_ok dLw2_ok 234 (.iload_n 3, 1) rfl
theorem dL_law_235 : decode code 235 = .ok (.iconst 5, 1) := dk_D_ok dLw2_ok 235 (.iconst 5, 1) rfl
theorem dL_law_236 : decode code 236 = .ok (.iadd, 1) := dk_D_ok dLw2_ok 236 (.iadd, 1) rfl
theorem dL_law_237 : decode code 237 = .ok (.iaload, 1) := dk_D_ok dLw2_ok 237 (.iaload, 1) rfl
def dLw3 : List (Nat × Instr × Nat) := [(238, .invokevirtual 13, 3), (241, .pop, 1), (242, .aload_n 2, 1), (243, .aload_n 0, 1), (244, .iload_n 3, 1), (245, .iconst 1, 1), (246, .iadd, 1), (247, .iaload, 1), (248, .aload_n 0, 1), (249, .iload_n 3, 1), (250, .iconst 2, 1), (251, .iadd, 1), (252, .iaload, 1), (253, .aload_n 0, 1), (254, .iload_n 3, 1), (255, .iconst 3, 1)]
theorem dLw3_ok : dLw3.all (dk_q code) = true := by decide +kernel
theorem dL_law_238 : decode code 238 = .ok (.invokevirtual 13, 3) := dk_D_ok dLw3_ok 238 (.invokevirtual 13, 3) rfl
theorem dL_law_241 : decode code 241 = .ok (.pop, 1) := dk_D_ok dLw3_ok 241 (.pop, 1) rfl
theorem dL_law_242 : decode code 242 = .ok (.aload_n 2, 1) := dk_D_ok dLw3_ok 242 (.aload_n 2, 1) rfl
theorem dL_law_243 : decode code 243 = .ok (.aload_n 0, 1) := dk_D_ok dLw3_ok 243 (.aload_n 0, 1) rfl
theorem dL_law_244 : decode code 244 = .ok (.iload_n 3, 1) := dk_D_ok dLw3_ok 244 (.iload_n 3, 1) rfl
theorem dL_law_245 : decode code 245 = .ok (.iconst 1, 1) := dk_D_ok dLw3_ok 245 (.iconst 1, 1) rfl
theorem dL_law_246 : decode code 246 = .ok (.iadd, 1) := dk_D_ok dLw3_ok 246 (.iadd, 1) rfl
theorem dL_law_247 : decode code 247 = .ok (.iaload, 1) := dk_D_ok dLw3_ok 247 (.iaload, 1) rfl
theorem dL_law_248 : decode code 248 = .ok (.aload_n 0, 1) := dk_D_ok dLw3_ok 248 (.aload_n 0, 1) rfl
theorem dL_law_249 : decode code 249 = .ok (.iload_n 3, 1) := dk_D_ok dLw3_ok 249 (.iload_n 3, 1) rfl
theorem dL_law_250 : decode code 250 = .ok (.iconst 2, 1) := dk_D_ok dLw3_ok 250 (.iconst 2, 1) rfl
theorem dL_law_251 : decode code 251 = .ok (.iadd, 1) := dk_D_ok dLw3_ok 251 (.iadd, 1) rfl
theorem dL_law_252 : decode code 252 = .ok (.iaload, 1) := dk_D_ok dLw3_ok 252 (.iaload, 1) rfl
theorem dL_law_253 : decode code 253 = .ok (.aload_n 0, 1) := dk_D_ok dLw3_ok 253 (.aload_n 0, 1) rfl
theorem dL_law_254 : decode code 254 = .ok (.iload_n 3, 1) := dk_D_ok dLw3_ok 254 (.iload_n 3, 1) rfl
theorem dL_law_255 : decode code 255 = .ok (.iconst 3, 1) := dk_D_ok dLw3_ok 255 (.iconst 3, 1) rfl
def dLw4 : List (Nat × Instr × Nat) := [(256, .iadd, 1), (257, .iaload, 1), (258, .aload_n 0, 1), (259, .iload_n 3, 1), (260, .iconst 4, 1), (261, .iadd, 1), (262, .iaload, 1), (263, .aload_n 0, 1), (264, .iload_n 3, 1), (265, .iconst 5, 1), (266, .iadd, 1), (267, .iaload, 1), (268, .invokevirtual 17, 3), (271, .pop, 1), (272, .goto 1099, 3), (275, .aload_n 1, 1)]
theorem dLw4_ok : dLw4.all (dk_q code) = true := by decide +kernel
theorem dL_law_256 : decode code 256 = .ok (.iadd, 1) := dk_D_ok dLw4_ok 256 (.iadd, 1) rfl
theorem dL_law_257 : decode code 257 = .ok (.iaload, 1) := dk_D_ok dLw4_ok 257 (.iaload, 1) rfl
theorem dL_law_258 : decode code 258 = .ok (.aload_n 0, 1) := dk_D_ok dLw4_ok 258 (.aload_n 0, 1) rfl
theorem dL_law_259 : decode code 259 = .ok (.iload_n 3, 1) := dk_D_ok dLw4_ok 259 (.iload_n 3, 1) rfl
theorem dL_law_260 : decode code 260 = .ok (.iconst 4, 1) := dk_D_ok dLw4_ok 260 (.iconst 4, 1) rfl
theorem dL_law_261 : decode code 261 = .ok (.iadd, 1) := dk_D_ok dLw4_ok 261 (.iadd, 1) rfl
theorem dL_law_262 : decode code 262 = .ok (.iaload, 1) := dk_D_ok dLw4_ok 262 (.iaload, 1) rfl
theorem dL_law_263 : decode code 263 = .ok (.aload_n 0, 1) := dk_D_ok dLw4_ok 263 (.aload_n 0, 1) rfl
theorem dL_law_264 : decode code 264 = .ok (.iload_n 3, 1) := dk_D_ok dLw4_ok 264 (.iload_n 3, 1) rfl
theorem dL_law_265 : decode code 265 = .ok (.iconst 5, 1) := dk_D_ok dLw4_ok 265 (.iconst 5, 1) rfl
theorem dL_law_266 : decode code 266 = .ok (.iadd, 1) := dk_D_ok dLw4_ok 266 (.iadd, 1) rfl
theorem dL_law_267 : decode code 267 = .ok (.iaload, 1) := dk_D_ok dLw4_ok 267 (.iaload, 1) rfl
theorem dL_law_268 : decode code 268 = .ok (.invokevirtual 17, 3) := dk_D_ok dLw4_ok 268 (.invokevirtual 17, 3) rfl
theorem dL_law_271 : decode code 271 = .ok (.pop, 1) := dk_D_ok dLw4_ok 271 (.pop, 1) rfl
theorem dL_law_272 : decode code 272 = .ok (.goto 1099, 3) := dk_D_ok dLw4_ok 272 (.goto 1099, 3) rfl
theorem dL_law_275 : decode code 275 = .ok (.aload_n 1, 1) := dk_D_ok dLw4_ok 275 (.aload_n 1, 1) rfl
def dLw5 : List (Nat × Instr × Nat) := [(276, .aload_n 0, 1), (277, .iload_n 3, 1), (278, .iconst 1, 1), (279, .iadd, 1), (280, .iaload, 1), (281, .invokevirtual 18, 3), (284, .pop, 1), (285, .aload_n 2, 1), (286, .aload_n 0, 1), (287, .iload_n 3, 1), (288, .iconst 1, 1), (289, .iadd, 1), (290, .iaload, 1), (291, .invokevirtual 22, 3), (294, .pop, 1), (295, .goto 1076, 3)]
theorem dLw5_ok : dLw5.all (dk_q code) = true := by decide +kernel
theorem dL_law_276 : decode code 276 = .ok (.aload_n 0, 1) := dk_D_ok dLw5_ok 276 (.aload_n 0, 1) rfl
theorem dL_law_277 : decode code 277 = .ok (.iload_n 3, 1) := dk_D_ok dLw5_ok 277 (.iload_n 3, 1) rfl
theorem dL_law_278 : decode code 278 = .ok (.iconst 1, 1) := dk_D_ok dLw5_ok 278 (.iconst 1, 1) rfl
theorem dL_law_279 : decode code 279 = .ok (.iadd, 1) := dk_D_ok dLw5_ok 279 (.iadd, 1) rfl
theorem dL_law_280 : decode code 280 = .ok (.iaload, 1) := dk_D_ok dLw5_ok 280 (.iaload, 1) rfl
theorem dL_law_281 : decode code 281 = .ok (.invokevirtual 18, 3) := dk_D_ok dLw5_ok 281 (.invokevirtual 18, 3) rfl
theorem dL_law_284 : decode code 284 = .ok (.pop, 1) := dk_D_ok dLw5_ok 284 (.pop, 1) rfl
theorem dL_law_285 : decode code 285 = .ok (.aload_n 2, 1) := dk_D_ok dLw5_ok 285 (.aload_n 2, 1) rfl
theorem dL_law_286 : decode code 286 = .ok (.aload_n 0, 1) := dk_D_ok dLw5_ok 286 (.aload_n 0, 1) rfl
theorem dL_law_287 : decode code 287 = .ok (.iload_n 3, 1) := dk_D_ok dLw5_ok 287 (.iload_n 3, 1) rfl
theorem dL_law_288 : decode code 288 = .ok (.iconst 1, 1) := dk_D_ok dLw5_ok 288 (.iconst 1, 1) rfl
theorem dL_law_289 : decode code 289 = .ok (.iadd, 1) := dk_D_ok dLw5_ok 289 (.iadd, 1) rfl
theorem dL_law_290 : decode code 290 = .ok (.iaload, 1) := dk_D_ok dLw5_ok 290 (.iaload, 1) rfl
theorem dL_law_291 : decode code 291 = .ok (.invokevirtual 22, 3) := dk_D_ok dLw5_ok 291 (.invokevirtual 22, 3) rfl
theorem dL_law_294 : decode code 294 = .ok (.pop, 1) := dk_D_ok dLw5_ok 294 (.pop, 1) rfl
theorem dL_law_295 : decode code 295 = .ok (.goto 1076, 3) := dk_D_ok dLw5_ok 295 (.goto 1076, 3) rfl
def dLw6 : List (Nat × Instr × Nat) := [(298, .aload_n 1, 1), (299, .invokevirtual 23, 3), (302, .pop, 1), (303, .aload_n 2, 1), (304, .invokevirtual 27, 3), (307, .pop, 1), (308, .goto 1063, 3), (311, .aload_n 1, 1), (312, .invokevirtual 28, 3), (315, .pop, 1), (316, .aload_n 2, 1), (317, .invokevirtual 31, 3), (320, .pop, 1), (321, .goto 1050, 3), (324, .aload_n 1, 1), (325, .aload_n 0, 1)]
theorem dLw6_ok : dLw6.all (dk_q code) = true := by decide +kernel
theorem dL_law_298 : decode code 298 = .ok (.aload_n 1, 1) := dk_D_ok dLw6_ok 298 (.aload_n 1, 1) rfl
theorem dL_law_299 : decode code 299 = .ok (.invokevirtual 23, 3) := dk_D_ok dLw6_ok 299 (.invokevirtual 23, 3) rfl
theorem dL_law_302 : decode code 302 = .ok (.pop, 1) := dk_D_ok dLw6_ok 302 (.pop, 1) rfl
theorem dL_law_303 : decode code 303 = .ok (.aload_n 2, 1) := dk_D_ok dLw6_ok 303 (.aload_n 2, 1) rfl
theorem dL_law_304 : decode code 304 = .ok (.invokevirtual 27, 3) := dk_D_ok dLw6_ok 304 (.invokevirtual 27, 3) rfl
theorem dL_law_307 : decode code 307 = .ok (.pop, 1) := dk_D_ok dLw6_ok 307 (.pop, 1) rfl
theorem dL_law_308 : decode code 308 = .ok (.goto 1063, 3) := dk_D_ok dLw6_ok 308 (.goto 1063, 3) rfl
theorem dL_law_311 : decode code 311 = .ok (.aload_n 1, 1) := dk_D_ok dLw6_ok 311 (.aload_n 1, 1) rfl
theorem dL_law_312 : decode code 312 = .ok (.invokevirtual 28, 3) := dk_D_ok dLw6_ok 312 (.invokevirtual 28, 3) rfl
theorem dL_law_315 : decode code 315 = .ok (.pop, 1) := dk_D_ok dLw6_ok 315 (.pop, 1) rfl
theorem dL_law_316 : decode code 316 = .ok (.aload_n 2, 1) := dk_D_ok dLw6_ok 316 (.aload_n 2, 1) rfl
theorem dL_law_317 : decode code 317 = .ok (.invokevirtual 31, 3) := dk_D_ok dLw6_ok 317 (.invokevirtual 31, 3) rfl
theorem dL_law_320 : decode code 320 = .ok (.pop, 1) := dk_D_ok dLw6_ok 320 (.pop, 1) rfl
theorem dL_law_321 : decode code 321 = .ok (.goto 1050, 3) := dk_D_ok dLw6_ok 321 (.goto 1050, 3) rfl
theorem dL_law_324 : decode code 324 = .ok (.aload_n 1, 1) := dk_D_ok dLw6_ok 324 (.aload_n 1, 1) rfl
theorem dL_law_325 : decode code 325 = .ok (.aload_n 0, 1) := dk_D_ok dLw6_ok 325 (.aload_n 0, 1) rfl
def dLw7 : List (Nat × Instr × Nat) := [(326, .iload_n 3, 1), (327, .iconst 1, 1), (328, .iadd, 1), (329, .iaload, 1), (330, .aload_n 0, 1), (331, .iload_n 3, 1), (332, .iconst 2, 1), (333, .iadd, 1), (334, .iaload, 1), (335, .invokevirtual 32, 3), (338, .pop, 1), (339, .aload_n 2, 1), (340, .aload_n 0, 1), (341, .iload_n 3, 1), (342, .iconst 1, 1), (343, .iadd, 1)]
theorem dLw7_ok : dLw7.all (dk_q code) = true := by decide +kernel
theorem dL_law_326 : decode code 326 = .ok (.iload_n 3, 1) := dk_D_ok dLw7_ok 326 (.iload_n 3, 1) rfl
theorem dL_law_327 : decode code 327 = .ok (.iconst 1, 1) := dk_D_ok dLw7_ok 327 (.iconst 1, 1) rfl
theorem dL_law_328 : decode code 328 = .ok (.iadd, 1) := dk_D_ok dLw7_ok 328 (.iadd, 1) rfl
theorem dL_law_329 : decode code 329 = .ok (.iaload, 1) := dk_D_ok dLw7_ok 329 (.iaload, 1) rfl
theorem dL_law_330 : decode code 330 = .ok (.aload_n 0, 1) := dk_D_ok dLw7_ok 330 (.aload_n 0, 1) rfl
theorem dL_law_331 : decode code 331 = .ok (.iload_n 3, 1) := dk_D_ok dLw7_ok 331 (.iload_n 3, 1) rfl
theorem dL_law_332 : decode code 332 = .ok (.iconst 2, 1) := dk_D_ok dLw7_ok 332 (.iconst 2, 1) rfl
theorem dL_law_333 : decode code 333 = .ok (.iadd, 1) := dk_D_ok dLw7_ok 333 (.iadd, 1) rfl
theorem dL_law_334 : decode code 334 = .ok (.iaload, 1) := dk_D_ok dLw7_ok 334 (.iaload, 1) rfl
theorem dL_law_335 : decode code 335 = .ok (.invokevirtual 32, 3) := dk_D_ok dLw7_ok 335 (.invokevirtual 32, 3) rfl
theorem dL_law_338 : decode code 338 = .ok (.pop, 1) := dk_D_ok dLw7_ok 338 (.pop, 1) rfl
theorem dL_law_339 : decode code 339 = .ok (.aload_n 2, 1) := dk_D_ok dLw7_ok 339 (.aload_n 2, 1) rfl
theorem dL_law_340 : decode code 340 = .ok (.aload_n 0, 1) := dk_D_ok dLw7_ok 340 (.aload_n 0, 1) rfl
theorem dL_law_341 : decode code 341 = .ok (.iload_n 3, 1) := dk_D_ok dLw7_ok 341 (.iload_n 3, 1) rfl
theorem dL_law_342 : decode code 342 = .ok (.iconst 1, 1) := dk_D_ok dLw7_ok 342 (.iconst 1, 1) rfl
theorem dL_law_343 : decode code 343 = .ok (.iadd, 1) := dk_D_ok dLw7_ok 343 (.iadd, 1) rfl
def dLw8 : List (Nat × Instr × Nat) := [(344, .iaload, 1), (345, .aload_n 0, 1), (346, .iload_n 3, 1), (347, .iconst 2, 1), (348, .iadd, 1), (349, .iaload, 1), (350, .invokevirtual 36, 3), (353, .pop, 1), (354, .goto 1017, 3), (357, .aload_n 1, 1), (358, .aload_n 0, 1), (359, .iload_n 3, 1), (360, .iconst 1, 1), (361, .iadd, 1), (362, .iaload, 1), (363, .aload_n 0, 1)]
theorem dLw8_ok : dLw8.all (dk_q code) = true := by decide +kernel
theorem dL_law_344 : decode code 344 = .ok (.iaload, 1) := dk_D_ok dLw8_ok 344 (.iaload, 1) rfl
theorem dL_law_345 : decode code 345 = .ok (.aload_n 0, 1) := dk_D_ok dLw8_ok 345 (.aload_n 0, 1) rfl
theorem dL_law_346 : decode code 346 = .ok (.iload_n 3, 1) := dk_D_ok dLw8_ok 346 (.iload_n 3, 1) rfl
theorem dL_law_347 : decode code 347 = .ok (.iconst 2, 1) := dk_D_ok dLw8_ok 347 (.iconst 2, 1) rfl
theorem dL_law_348 : decode code 348 = .ok (.iadd, 1) := dk_D_ok dLw8_ok 348 (.iadd, 1) rfl
theorem dL_law_349 : decode code 349 = .ok (.iaload, 1) := dk_D_ok dLw8_ok 349 (.iaload, 1) rfl
theorem dL_law_350 : decode code 350 = .ok (.invokevirtual 36, 3) := dk_D_ok dLw8_ok 350 (.invokevirtual 36, 3) rfl
theorem dL_law_353 : decode code 353 = .ok (.pop, 1) := dk_D_ok dLw8_ok 353 (.pop, 1) rfl
theorem dL_law_354 : decode code 354 = .ok (.goto 1017, 3) := dk_D_ok dLw8_ok 354 (.goto 1017, 3) rfl
theorem dL_law_357 : decode code 357 = .ok (.aload_n 1, 1) := dk_D_ok dLw8_ok 357 (.aload_n 1, 1) rfl
theorem dL_law_358 : decode code 358 = .ok (.aload_n 0, 1) := dk_D_ok dLw8_ok 358 (.aload_n 0, 1) rfl
theorem dL_law_359 : decode code 359 = .ok (.iload_n 3, 1) := dk_D_ok dLw8_ok 359 (.iload_n 3, 1) rfl
theorem dL_law_360 : decode code 360 = .ok (.iconst 1, 1) := dk_D_ok dLw8_ok 360 (.iconst 1, 1) rfl
theorem dL_law_361 : decode code 361 = .ok (.iadd, 1) := dk_D_ok dLw8_ok 361 (.iadd, 1) rfl
theorem dL_law_362 : decode code 362 = .ok (.iaload, 1) := dk_D_ok dLw8_ok 362 (.iaload, 1) rfl
theorem dL_law_363 : decode code 363 = .ok (.aload_n 0, 1) := dk_D_ok dLw8_ok 363 (.aload_n 0, 1) rfl
def dLw9 : List (Nat × Instr × Nat) := [(364, .iload_n 3, 1), (365, .iconst 2, 1), (366, .iadd, 1), (367, .iaload, 1), (368, .invokevirtual 37, 3), (371, .pop, 1), (372, .aload_n 2, 1), (373, .aload_n 0, 1), (374, .iload_n 3, 1), (375, .iconst 1, 1), (376, .iadd, 1), (377, .iaload, 1), (378, .aload_n 0, 1), (379, .iload_n 3, 1), (380, .iconst 2, 1), (381, .iadd, 1)]
theorem dLw9_ok : dLw9.all (dk_q code) = true := by decide +kernel
theorem dL_law_364 : decode code 364 = .ok (.iload_n 3, 1) := dk_D_ok dLw9_ok 364 (.iload_n 3, 1) rfl
theorem dL_law_365 : decode code 365 = .ok (.iconst 2, 1) := dk_D_ok dLw9_ok 365 (.iconst 2, 1) rfl
theorem dL_law_366 : decode code 366 = .ok (.iadd, 1) := dk_D_ok dLw9_ok 366 (.iadd, 1) rfl
theorem dL_law_367 : decode code 367 = .ok (.iaload, 1) := dk_D_ok dLw9_ok 367 (.iaload, 1) rfl
theorem dL_law_368 : decode code 368 = .ok (.invokevirtual 37, 3) := dk_D_ok dLw9_ok 368 (.invokevirtual 37, 3) rfl
theorem dL_law_371 : decode code 371 = .ok (.pop, 1) := dk_D_ok dLw9_ok 371 (.pop, 1) rfl
theorem dL_law_372 : decode code 372 = .ok (.aload_n 2, 1) := dk_D_ok dLw9_ok 372 (.aload_n 2, 1) rfl
theorem dL_law_373 : decode code 373 = .ok (.aload_n 0, 1) := dk_D_ok dLw9_ok 373 (.aload_n 0, 1) rfl
theorem dL_law_374 : decode code 374 = .ok (.iload_n 3, 1) := dk_D_ok dLw9_ok 374 (.iload_n 3, 1) rfl
theorem dL_law_375 : decode code 375 = .ok (.iconst 1, 1) := dk_D_ok dLw9_ok 375 (.iconst 1, 1) rfl
theorem dL_law_376 : decode code 376 = .ok (.iadd, 1) := dk_D_ok dLw9_ok 376 (.iadd, 1) rfl
theorem dL_law_377 : decode code 377 = .ok (.iaload, 1) := dk_D_ok dLw9_ok 377 (.iaload, 1) rfl
theorem dL_law_378 : decode code 378 = .ok (.aload_n 0, 1) := dk_D_ok dLw9_ok 378 (.aload_n 0, 1) rfl
theorem dL_law_379 : decode code 379 = .ok (.iload_n 3, 1) := dk_D_ok dLw9_ok 379 (.iload_n 3, 1) rfl
theorem dL_law_380 : decode code 380 = .ok (.iconst 2, 1) := dk_D_ok dLw9_ok 380 (.iconst 2, 1) rfl
theorem dL_law_381 : decode code 381 = .ok (.iadd, 1) := dk_D_ok dLw9_ok 381 (.iadd, 1) rfl
def dLw10 : List (Nat × Instr × Nat) := [(382, .iaload, 1), (383, .invokevirtual 40, 3), (386, .pop, 1), (387, .goto 984, 3), (390, .aload_n 1, 1), (391, .aload_n 0, 1), (392, .iload_n 3, 1), (393, .iconst 1, 1), (394, .iadd, 1), (395, .iaload, 1), (396, .aload_n 0, 1), (397, .iload_n 3, 1), (398, .iconst 2, 1), (399, .iadd, 1), (400, .iaload, 1), (401, .invokevirtual 41, 3)]
theorem dLw10_ok : dLw10.all (dk_q code) = true := by decide +kernel
theorem dL_law_382 : decode code 382 = .ok (.iaload, 1) := dk_D_ok dLw10_ok 382 (.iaload, 1) rfl
theorem dL_law_383 : decode code 383 = .ok (.invokevirtual 40, 3) := dk_D_ok dLw10_ok 383 (.invokevirtual 40, 3) rfl
theorem dL_law_386 : decode code 386 = .ok (.pop, 1) := dk_D_ok dLw10_ok 386 (.pop, 1) rfl
theorem dL_law_387 : decode code 387 = .ok (.goto 984, 3) := dk_D_ok dLw10_ok 387 (.goto 984, 3) rfl
theorem dL_law_390 : decode code 390 = .ok (.aload_n 1, 1) := dk_D_ok dLw10_ok 390 (.aload_n 1, 1) rfl
theorem dL_law_391 : decode code 391 = .ok (.aload_n 0, 1) := dk_D_ok dLw10_ok 391 (.aload_n 0, 1) rfl
theorem dL_law_392 : decode code 392 = .ok (.iload_n 3, 1) := dk_D_ok dLw10_ok 392 (.iload_n 3, 1) rfl
theorem dL_law_393 : decode code 393 = .ok (.iconst 1, 1) := dk_D_ok dLw10_ok 393 (.iconst 1, 1) rfl
theorem dL_law_394 : decode code 394 = .ok (.iadd, 1) := dk_D_ok dLw10_ok 394 (.iadd, 1) rfl
theorem dL_law_395 : decode code 395 = .ok (.iaload, 1) := dk_D_ok dLw10_ok 395 (.iaload, 1) rfl
theorem dL_law_396 : decode code 396 = .ok (.aload_n 0, 1) := dk_D_ok dLw10_ok 396 (.aload_n 0, 1) rfl
theorem dL_law_397 : decode code 397 = .ok (.iload_n 3, 1) := dk_D_ok dLw10_ok 397 (.iload_n 3, 1) rfl
theorem dL_law_398 : decode code 398 = .ok (.iconst 2, 1) := dk_D_ok dLw10_ok 398 (.iconst 2, 1) rfl
theorem dL_law_399 : decode code 399 = .ok (.iadd, 1) := dk_D_ok dLw10_ok 399 (.iadd, 1) rfl
theorem dL_law_400 : decode code 400 = .ok (.iaload, 1) := dk_D_ok dLw10_ok 400 (.iaload, 1) rfl
theorem dL_law_401 : decode code 401 = .ok (.invokevirtual 41, 3) := dk_D_ok dLw10_ok 401 (.invokevirtual 41, 3) rfl
def dLw11 : List (Nat × Instr × Nat) := [(404, .pop, 1), (405, .aload_n 2, 1), (406, .aload_n 0, 1), (407, .iload_n 3, 1), (408, .iconst 1, 1), (409, .iadd, 1), (410, .iaload, 1), (411, .aload_n 0, 1), (412, .iload_n 3, 1), (413, .iconst 2, 1), (414, .iadd, 1), (415, .iaload, 1), (416, .invokevirtual 44, 3), (419, .pop, 1), (420, .goto 951, 3), (423, .aload_n 1, 1)]
theorem dLw11_ok : dLw11.all (dk_q code) = true := by decide +kernel
theorem dL_law_404 : decode code 404 = .ok (.pop, 1) := dk_D_ok dLw11_ok 404 (.pop, 1) rfl
theorem dL_law_405 : decode code 405 = .ok (.aload_n 2, 1) := dk_D_ok dLw11_ok 405 (.aload_n 2, 1) rfl
theorem dL_law_406 : decode code 406 = .ok (.aload_n 0, 1) := dk_D_ok dLw11_ok 406 (.aload_n 0, 1) rfl
theorem dL_law_407 : decode code 407 = .ok (.iload_n 3, 1) := dk_D_ok dLw11_ok 407 (.iload_n 3, 1) rfl
theorem dL_law_408 : decode code 408 = .ok (.iconst 1, 1) := dk_D_ok dLw11_ok 408 (.iconst 1, 1) rfl
theorem dL_law_409 : decode code 409 = .ok (.iadd, 1) := dk_D_ok dLw11_ok 409 (.iadd, 1) rfl
theorem dL_law_410 : decode code 410 = .ok (.iaload, 1) := dk_D_ok dLw11_ok 410 (.iaload, 1) rfl
theorem dL_law_411 : decode code 411 = .ok (.aload_n 0, 1) := dk_D_ok dLw11_ok 411 (.aload_n 0, 1) rfl
theorem dL_law_412 : decode code 412 = .ok (.iload_n 3, 1) := dk_D_ok dLw11_ok 412 (.iload_n 3, 1) rfl
theorem dL_law_413 : decode code 413 = .ok (.iconst 2, 1) := dk_D_ok dLw11_ok 413 (.iconst 2, 1) rfl
theorem dL_law_414 : decode code 414 = .ok (.iadd, 1) := dk_D_ok dLw11_ok 414 (.iadd, 1) rfl
theorem dL_law_415 : decode code 415 = .ok (.iaload, 1) := dk_D_ok dLw11_ok 415 (.iaload, 1) rfl
theorem dL_law_416 : decode code 416 = .ok (.invokevirtual 44, 3) := dk_D_ok dLw11_ok 416 (.invokevirtual 44, 3) rfl
theorem dL_law_419 : decode code 419 = .ok (.pop, 1) := dk_D_ok dLw11_ok 419 (.pop, 1) rfl
theorem dL_law_420 : decode code 420 = .ok (.goto 951, 3) := dk_D_ok dLw11_ok 420 (.goto 951, 3) rfl
theorem dL_law_423 : decode code 423 = .ok (.aload_n 1, 1) := dk_D_ok dLw11_ok 423 (.aload_n 1, 1) rfl
def dLw12 : List (Nat × Instr × Nat) := [(424, .aload_n 0, 1), (425, .iload_n 3, 1), (426, .iconst 1, 1), (427, .iadd, 1), (428, .iaload, 1), (429, .aload_n 0, 1), (430, .iload_n 3, 1), (431, .iconst 2, 1), (432, .iadd, 1), (433, .iaload, 1), (434, .invokevirtual 45, 3), (437, .pop, 1), (438, .aload_n 2, 1), (439, .aload_n 0, 1), (440, .iload_n 3, 1), (441, .iconst 1, 1)]
theorem dLw12_ok : dLw12.all (dk_q code) = true := by decide +kernel
theorem dL_law_424 : decode code 424 = .ok (.aload_n 0, 1) := dk_D_ok dLw12_ok 424 (.aload_n 0, 1) rfl
theorem dL_law_425 : decode code 425 = .ok (.iload_n 3, 1) := dk_D_ok dLw12_ok 425 (.iload_n 3, 1) rfl
theorem dL_law_426 : decode code 426 = .ok (.iconst 1, 1) := dk_D_ok dLw12_ok 426 (.iconst 1, 1) rfl
theorem dL_law_427 : decode code 427 = .ok (.iadd, 1) := dk_D_ok dLw12_ok 427 (.iadd, 1) rfl
theorem dL_law_428 : decode code 428 = .ok (.iaload, 1) := dk_D_ok dLw12_ok 428 (.iaload, 1) rfl
theorem dL_law_429 : decode code 429 = .ok (.aload_n 0, 1) := dk_D_ok dLw12_ok 429 (.aload_n 0, 1) rfl
theorem dL_law_430 : decode code 430 = .ok (.iload_n 3, 1) := dk_D_ok dLw12_ok 430 (.iload_n 3, 1) rfl
theorem dL_law_431 : decode code 431 = .ok (.iconst 2, 1) := dk_D_ok dLw12_ok 431 (.iconst 2, 1) rfl
theorem dL_law_432 : decode code 432 = .ok (.iadd, 1) := dk_D_ok dLw12_ok 432 (.iadd, 1) rfl
theorem dL_law_433 : decode code 433 = .ok (.iaload, 1) := dk_D_ok dLw12_ok 433 (.iaload, 1) rfl
theorem dL_law_434 : decode code 434 = .ok (.invokevirtual 45, 3) := dk_D_ok dLw12_ok 434 (.invokevirtual 45, 3) rfl
theorem dL_law_437 : decode code 437 = .ok (.pop, 1) := dk_D_ok dLw12_ok 437 (.pop, 1) rfl
theorem dL_law_438 : decode code 438 = .ok (.aload_n 2, 1) := dk_D_ok dLw12_ok 438 (.aload_n 2, 1) rfl
theorem dL_law_439 : decode code 439 = .ok (.aload_n 0, 1) := dk_D_ok dLw12_ok 439 (.aload_n 0, 1) rfl
theorem dL_law_440 : decode code 440 = .ok (.iload_n 3, 1) := dk_D_ok dLw12_ok 440 (.iload_n 3, 1) rfl
theorem dL_law_441 : decode code 441 = .ok (.iconst 1, 1) := dk_D_ok dLw12_ok 441 (.iconst 1, 1) rfl
def dLw13 : List (Nat × Instr × Nat) := [(442, .iadd, 1), (443, .iaload, 1), (444, .aload_n 0, 1), (445, .iload_n 3, 1), (446, .iconst 2, 1), (447, .iadd, 1), (448, .iaload, 1), (449, .invokevirtual 49, 3), (452, .pop, 1), (453, .goto 918, 3), (456, .aload_n 1, 1), (457, .aload_n 0, 1), (458, .iload_n 3, 1), (459, .iconst 1, 1), (460, .iadd, 1), (461, .iaload, 1)]
theorem dLw13_ok : dLw13.all (dk_q code) = true := by decide +kernel
theorem dL_law_442 : decode code 442 = .ok (.iadd, 1) := dk_D_ok dLw13_ok 442 (.iadd, 1) rfl
theorem dL_law_443 : decode code 443 = .ok (.iaload, 1) := dk_D_ok dLw13_ok 443 (.iaload, 1) rfl
theorem dL_law_444 : decode code 444 = .ok (.aload_n 0, 1) := dk_D_ok dLw13_ok 444 (.aload_n 0, 1) rfl
theorem dL_law_445 : decode code 445 = .ok (.iload_n 3, 1) := dk_D_ok dLw13_ok 445 (.iload_n 3, 1) rfl
theorem dL_law_446 : decode code 446 = .ok (.iconst 2, 1) := dk_D_ok dLw13_ok 446 (.iconst 2, 1) rfl
theorem dL_law_447 : decode code 447 = .ok (.iadd, 1) := dk_D_ok dLw13_ok 447 (.iadd, 1) rfl
theorem dL_law_448 : decode code 448 = .ok (.iaload, 1) := dk_D_ok dLw13_ok 448 (.iaload, 1) rfl
theorem dL_law_449 : decode code 449 = .ok (.invokevirtual 49, 3) := dk_D_ok dLw13_ok 449 (.invokevirtual 49, 3) rfl
theorem dL_law_452 : decode code 452 = .ok (.pop, 1) := dk_D_ok dLw13_ok 452 (.pop, 1) rfl
theorem dL_law_453 : decode code 453 = .ok (.goto 918, 3) := dk_D_ok dLw13_ok 453 (.goto 918, 3) rfl
theorem dL_law_456 : decode code 456 = .ok (.aload_n 1, 1) := dk_D_ok dLw13_ok 456 (.aload_n 1, 1) rfl
theorem dL_law_457 : decode code 457 = .ok (.aload_n 0, 1) := dk_D_ok dLw13_ok 457 (.aload_n 0, 1) rfl
theorem dL_law_458 : decode code 458 = .ok (.iload_n 3, 1) := dk_D_ok dLw13_ok 458 (.iload_n 3, 1) rfl
theorem dL_law_459 : decode code 459 = .ok (.iconst 1, 1) := dk_D_ok dLw13_ok 459 (.iconst 1, 1) rfl
theorem dL_law_460 : decode code 460 = .ok (.iadd, 1) := dk_D_ok dLw13_ok 460 (.iadd, 1) rfl
theorem dL_law_461 : decode code 461 = .ok (.iaload, 1) := dk_D_ok dLw13_ok 461 (.iaload, 1) rfl
def dLw14 : List (Nat × Instr × Nat) := [(462, .invokevirtual 50, 3), (465, .pop, 1), (466, .aload_n 2, 1), (467, .aload_n 0, 1), (468, .iload_n 3, 1), (469, .iconst 1, 1), (470, .iadd, 1), (471, .iaload, 1), (472, .invokevirtual 54, 3), (475, .pop, 1), (476, .goto 895, 3), (479, .aload_n 1, 1), (480, .aload_n 0, 1), (481, .iload_n 3, 1), (482, .iconst 1, 1), (483, .iadd, 1)]
theorem dLw14_ok : dLw14.all (dk_q code) = true := by decide +kernel
theorem dL_law_462 : decode code 462 = .ok (.invokevirtual 50, 3) := dk_D_ok dLw14_ok 462 (.invokevirtual 50, 3) rfl
theorem dL_law_465 : decode code 465 = .ok (.pop, 1) := dk_D_ok dLw14_ok 465 (.pop, 1) rfl
theorem dL_law_466 : decode code 466 = .ok (.aload_n 2, 1) := dk_D_ok dLw14_ok 466 (.aload_n 2, 1) rfl
theorem dL_law_467 : decode code 467 = .ok (.aload_n 0, 1) := dk_D_ok dLw14_ok 467 (.aload_n 0, 1) rfl
theorem dL_law_468 : decode code 468 = .ok (.iload_n 3, 1) := dk_D_ok dLw14_ok 468 (.iload_n 3, 1) rfl
theorem dL_law_469 : decode code 469 = .ok (.iconst 1, 1) := dk_D_ok dLw14_ok 469 (.iconst 1, 1) rfl
theorem dL_law_470 : decode code 470 = .ok (.iadd, 1) := dk_D_ok dLw14_ok 470 (.iadd, 1) rfl
theorem dL_law_471 : decode code 471 = .ok (.iaload, 1) := dk_D_ok dLw14_ok 471 (.iaload, 1) rfl
theorem dL_law_472 : decode code 472 = .ok (.invokevirtual 54, 3) := dk_D_ok dLw14_ok 472 (.invokevirtual 54, 3) rfl
theorem dL_law_475 : decode code 475 = .ok (.pop, 1) := dk_D_ok dLw14_ok 475 (.pop, 1) rfl
theorem dL_law_476 : decode code 476 = .ok (.goto 895, 3) := dk_D_ok dLw14_ok 476 (.goto 895, 3) rfl
theorem dL_law_479 : decode code 479 = .ok (.aload_n 1, 1) := dk_D_ok dLw14_ok 479 (.aload_n 1, 1) rfl
theorem dL_law_480 : decode code 480 = .ok (.aload_n 0, 1) := dk_D_ok dLw14_ok 480 (.aload_n 0, 1) rfl
theorem dL_law_481 : decode code 481 = .ok (.iload_n 3, 1) := dk_D_ok dLw14_ok 481 (.iload_n 3, 1) rfl
theorem dL_law_482 : decode code 482 = .ok (.iconst 1, 1) := dk_D_ok dLw14_ok 482 (.iconst 1, 1) rfl
theorem dL_law_483 : decode code 483 = .ok (.iadd, 1) := dk_D_ok dLw14_ok 483 (.iadd, 1) rfl
def dLw15 : List (Nat × Instr × Nat) := [(484, .iaload, 1), (485, .invokevirtual 55, 3), (488, .pop, 1), (489, .aload_n 2, 1), (490, .aload_n 0, 1), (491, .iload_n 3, 1), (492, .iconst 1, 1), (493, .iadd, 1), (494, .iaload, 1), (495, .invokevirtual 58, 3), (498, .pop, 1), (499, .goto 872, 3), (502, .aload_n 1, 1), (503, .aload_n 0, 1), (504, .iload_n 3, 1), (505, .iconst 1, 1)]
theorem dLw15_ok : dLw15.all (dk_q code) = true := by decide +kernel
theorem dL_law_484 : decode code 484 = .ok (.iaload, 1) := dk_D_ok dLw15_ok 484 (.iaload, 1) rfl
theorem dL_law_485 : decode code 485 = .ok (.invokevirtual 55, 3) := dk_D_ok dLw15_ok 485 (.invokevirtual 55, 3) rfl
theorem dL_law_488 : decode code 488 = .ok (.pop, 1) := dk_D_ok dLw15_ok 488 (.pop, 1) rfl
theorem dL_law_489 : decode code 489 = .ok (.aload_n 2, 1) := dk_D_ok dLw15_ok 489 (.aload_n 2, 1) rfl
theorem dL_law_490 : decode code 490 = .ok (.aload_n 0, 1) := dk_D_ok dLw15_ok 490 (.aload_n 0, 1) rfl
theorem dL_law_491 : decode code 491 = .ok (.iload_n 3, 1) := dk_D_ok dLw15_ok 491 (.iload_n 3, 1) rfl
theorem dL_law_492 : decode code 492 = .ok (.iconst 1, 1) := dk_D_ok dLw15_ok 492 (.iconst 1, 1) rfl
theorem dL_law_493 : decode code 493 = .ok (.iadd, 1) := dk_D_ok dLw15_ok 493 (.iadd, 1) rfl
theorem dL_law_494 : decode code 494 = .ok (.iaload, 1) := dk_D_ok dLw15_ok 494 (.iaload, 1) rfl
theorem dL_law_495 : decode code 495 = .ok (.invokevirtual 58, 3) := dk_D_ok dLw15_ok 495 (.invokevirtual 58, 3) rfl
theorem dL_law_498 : decode code 498 = .ok (.pop, 1) := dk_D_ok dLw15_ok 498 (.pop, 1) rfl
theorem dL_law_499 : decode code 499 = .ok (.goto 872, 3) := dk_D_ok dLw15_ok 499 (.goto 872, 3) rfl
theorem dL_law_502 : decode code 502 = .ok (.aload_n 1, 1) := dk_D_ok dLw15_ok 502 (.aload_n 1, 1) rfl
theorem dL_law_503 : decode code 503 = .ok (.aload_n 0, 1) := dk_D_ok dLw15_ok 503 (.aload_n 0, 1) rfl
theorem dL_law_504 : decode code 504 = .ok (.iload_n 3, 1) := dk_D_ok dLw15_ok 504 (.iload_n 3, 1) rfl
theorem dL_law_505 : decode code 505 = .ok (.iconst 1, 1) := dk_D_ok dLw15_ok 505 (.iconst 1, 1) rfl
def dLw16 : List (Nat × Instr × Nat) := [(506, .iadd, 1), (507, .iaload, 1), (508, .invokevirtual 59, 3), (511, .pop, 1), (512, .aload_n 2, 1), (513, .aload_n 0, 1), (514, .iload_n 3, 1), (515, .iconst 1, 1), (516, .iadd, 1), (517, .iaload, 1), (518, .invokevirtual 62, 3), (521, .pop, 1), (522, .goto 849, 3), (525, .aload_n 1, 1), (526, .invokevirtual 63, 3), (529, .pop, 1)]
theorem dLw16_ok : dLw16.all (dk_q code) = true := by decide +kernel
theorem dL_law_506 : decode code 506 = .ok (.iadd, 1) := dk_D_ok dLw16_ok 506 (.iadd, 1) rfl
theorem dL_law_507 : decode code 507 = .ok (.iaload, 1) := dk_D_ok dLw16_ok 507 (.iaload, 1) rfl
theorem dL_law_508 : decode code 508 = .ok (.invokevirtual 59, 3) := dk_D_ok dLw16_ok 508 (.invokevirtual 59, 3) rfl
theorem dL_law_511 : decode code 511 = .ok (.pop, 1) := dk_D_ok dLw16_ok 511 (.pop, 1) rfl
theorem dL_law_512 : decode code 512 = .ok (.aload_n 2, 1) := dk_D_ok dLw16_ok 512 (.aload_n 2, 1) rfl
theorem dL_law_513 : decode code 513 = .ok (.aload_n 0, 1) := dk_D_ok dLw16_ok 513 (.aload_n 0, 1) rfl
theorem dL_law_514 : decode code 514 = .ok (.iload_n 3, 1) := dk_D_ok dLw16_ok 514 (.iload_n 3, 1) rfl
theorem dL_law_515 : decode code 515 = .ok (.iconst 1, 1) := dk_D_ok dLw16_ok 515 (.iconst 1, 1) rfl
theorem dL_law_516 : decode code 516 = .ok (.iadd, 1) := dk_D_ok dLw16_ok 516 (.iadd, 1) rfl
theorem dL_law_517 : decode code 517 = .ok (.iaload, 1) := dk_D_ok dLw16_ok 517 (.iaload, 1) rfl
theorem dL_law_518 : decode code 518 = .ok (.invokevirtual 62, 3) := dk_D_ok dLw16_ok 518 (.invokevirtual 62, 3) rfl
theorem dL_law_521 : decode code 521 = .ok (.pop, 1) := dk_D_ok dLw16_ok 521 (.pop, 1) rfl
theorem dL_law_522 : decode code 522 = .ok (.goto 849, 3) := dk_D_ok dLw16_ok 522 (.goto 849, 3) rfl
theorem dL_law_525 : decode code 525 = .ok (.aload_n 1, 1) := dk_D_ok dLw16_ok 525 (.aload_n 1, 1) rfl
theorem dL_law_526 : decode code 526 = .ok (.invokevirtual 63, 3) := dk_D_ok dLw16_ok 526 (.invokevirtual 63, 3) rfl
theorem dL_law_529 : decode code 529 = .ok (.pop, 1) := dk_D_ok dLw16_ok 529 (.pop, 1) rfl
def dLw17 : List (Nat × Instr × Nat) := [(530, .aload_n 2, 1), (531, .invokevirtual 67, 3), (534, .pop, 1), (535, .goto 836, 3), (538, .aload_n 1, 1), (539, .aload_n 0, 1), (540, .iload_n 3, 1), (541, .iconst 1, 1), (542, .iadd, 1), (543, .iaload, 1), (544, .aload_n 0, 1), (545, .iload_n 3, 1), (546, .iconst 2, 1), (547, .iadd, 1), (548, .iaload, 1), (549, .invokevirtual 68, 3)]
theorem dLw17_ok : dLw17.all (dk_q code) = true := by decide +kernel
theorem dL_law_530 : decode code 530 = .ok (.aload_n 2, 1) := dk_D_ok dLw17_ok 530 (.aload_n 2, 1) rfl
theorem dL_law_531 : decode code 531 = .ok (.invokevirtual 67, 3) := dk_D_ok dLw17_ok 531 (.invokevirtual 67, 3) rfl
theorem dL_law_534 : decode code 534 = .ok (.pop, 1) := dk_D_ok dLw17_ok 534 (.pop, 1) rfl
theorem dL_law_535 : decode code 535 = .ok (.goto 836, 3) := dk_D_ok dLw17_ok 535 (.goto 836, 3) rfl
theorem dL_law_538 : decode code 538 = .ok (.aload_n 1, 1) := dk_D_ok dLw17_ok 538 (.aload_n 1, 1) rfl
theorem dL_law_539 : decode code 539 = .ok (.aload_n 0, 1) := dk_D_ok dLw17_ok 539 (.aload_n 0, 1) rfl
theorem dL_law_540 : decode code 540 = .ok (.iload_n 3, 1) := dk_D_ok dLw17_ok 540 (.iload_n 3, 1) rfl
theorem dL_law_541 : decode code 541 = .ok (.iconst 1, 1) := dk_D_ok dLw17_ok 541 (.iconst 1, 1) rfl
theorem dL_law_542 : decode code 542 = .ok (.iadd, 1) := dk_D_ok dLw17_ok 542 (.iadd, 1) rfl
theorem dL_law_543 : decode code 543 = .ok (.iaload, 1) := dk_D_ok dLw17_ok 543 (.iaload, 1) rfl
theorem dL_law_544 : decode code 544 = .ok (.aload_n 0, 1) := dk_D_ok dLw17_ok 544 (.aload_n 0, 1) rfl
theorem dL_law_545 : decode code 545 = .ok (.iload_n 3, 1) := dk_D_ok dLw17_ok 545 (.iload_n 3, 1) rfl
theorem dL_law_546 : decode code 546 = .ok (.iconst 2, 1) := dk_D_ok dLw17_ok 546 (.iconst 2, 1) rfl
theorem dL_law_547 : decode code 547 = .ok (.iadd, 1) := dk_D_ok dLw17_ok 547 (.iadd, 1) rfl
theorem dL_law_548 : decode code 548 = .ok (.iaload, 1) := dk_D_ok dLw17_ok 548 (.iaload, 1) rfl
theorem dL_law_549 : decode code 549 = .ok (.invokevirtual 68, 3) := dk_D_ok dLw17_ok 549 (.invokevirtual 68, 3) rfl
def dLw18 : List (Nat × Instr × Nat) := [(552, .pop, 1), (553, .aload_n 2, 1), (554, .aload_n 0, 1), (555, .iload_n 3, 1), (556, .iconst 1, 1), (557, .iadd, 1), (558, .iaload, 1), (559, .aload_n 0, 1), (560, .iload_n 3, 1), (561, .iconst 2, 1), (562, .iadd, 1), (563, .iaload, 1), (564, .invokevirtual 71, 3), (567, .pop, 1), (568, .goto 803, 3), (571, .aload_n 1, 1)]
theorem dLw18_ok : dLw18.all (dk_q code) = true := by decide +kernel
theorem dL_law_552 : decode code 552 = .ok (.pop, 1) := dk_D_ok dLw18_ok 552 (.pop, 1) rfl
theorem dL_law_553 : decode code 553 = .ok (.aload_n 2, 1) := dk_D_ok dLw18_ok 553 (.aload_n 2, 1) rfl
theorem dL_law_554 : decode code 554 = .ok (.aload_n 0, 1) := dk_D_ok dLw18_ok 554 (.aload_n 0, 1) rfl
theorem dL_law_555 : decode code 555 = .ok (.iload_n 3, 1) := dk_D_ok dLw18_ok 555 (.iload_n 3, 1) rfl
theorem dL_law_556 : decode code 556 = .ok (.iconst 1, 1) := dk_D_ok dLw18_ok 556 (.iconst 1, 1) rfl
theorem dL_law_557 : decode code 557 = .ok (.iadd, 1) := dk_D_ok dLw18_ok 557 (.iadd, 1) rfl
theorem dL_law_558 : decode code 558 = .ok (.iaload, 1) := dk_D_ok dLw18_ok 558 (.iaload, 1) rfl
theorem dL_law_559 : decode code 559 = .ok (.aload_n 0, 1) := dk_D_ok dLw18_ok 559 (.aload_n 0, 1) rfl
theorem dL_law_560 : decode code 560 = .ok (.iload_n 3, 1) := dk_D_ok dLw18_ok 560 (.iload_n 3, 1) rfl
theorem dL_law_561 : decode code 561 = .ok (.iconst 2, 1) := dk_D_ok dLw18_ok 561 (.iconst 2, 1) rfl
theorem dL_law_562 : decode code 562 = .ok (.iadd, 1) := dk_D_ok dLw18_ok 562 (.iadd, 1) rfl
theorem dL_law_563 : decode code 563 = .ok (.iaload, 1) := dk_D_ok dLw18_ok 563 (.iaload, 1) rfl
theorem dL_law_564 : decode code 564 = .ok (.invokevirtual 71, 3) := dk_D_ok dLw18_ok 564 (.invokevirtual 71, 3) rfl
theorem dL_law_567 : decode code 567 = .ok (.pop, 1) := dk_D_ok dLw18_ok 567 (.pop, 1) rfl
theorem dL_law_568 : decode code 568 = .ok (.goto 803, 3) := dk_D_ok dLw18_ok 568 (.goto 803, 3) rfl
theorem dL_law_571 : decode code 571 = .ok (.aload_n 1, 1) := dk_D_ok dLw18_ok 571 (.aload_n 1, 1) rfl
def dLw19 : List (Nat × Instr × Nat) := [(572, .invokevirtual 72, 3), (575, .pop, 1), (576, .aload_n 2, 1), (577, .invokevirtual 75, 3), (580, .pop, 1), (581, .goto 790, 3), (584, .aload_n 1, 1), (585, .aload_n 0, 1), (586, .iload_n 3, 1), (587, .iconst 1, 1), (588, .iadd, 1), (589, .iaload, 1), (590, .aload_n 0, 1), (591, .iload_n 3, 1), (592, .iconst 2, 1), (593, .iadd, 1)]
theorem dLw19_ok : dLw19.all (dk_q code) = true := by decide +kernel
theorem dL_law_572 : decode code 572 = .ok (.invokevirtual 72, 3) := dk_D_ok dLw19_ok 572 (.invokevirtual 72, 3) rfl
theorem dL_law_575 : decode code 575 = .ok (.pop, 1) := dk_D_ok dLw19_ok 575 (.pop, 1) rfl
theorem dL_law_576 : decode code 576 = .ok (.aload_n 2, 1) := dk_D_ok dLw19_ok 576 (.aload_n 2, 1) rfl
theorem dL_law_577 : decode code 577 = .ok (.invokevirtual 75, 3) := dk_D_ok dLw19_ok 577 (.invokevirtual 75, 3) rfl
theorem dL_law_580 : decode code 580 = .ok (.pop, 1) := dk_D_ok dLw19_ok 580 (.pop, 1) rfl
theorem dL_law_581 : decode code 581 = .ok (.goto 790, 3) := dk_D_ok dLw19_ok 581 (.goto 790, 3) rfl
theorem dL_law_584 : decode code 584 = .ok (.aload_n 1, 1) := dk_D_ok dLw19_ok 584 (.aload_n 1, 1) rfl
theorem dL_law_585 : decode code 585 = .ok (.aload_n 0, 1) := dk_D_ok dLw19_ok 585 (.aload_n 0, 1) rfl
theorem dL_law_586 : decode code 586 = .ok (.iload_n 3, 1) := dk_D_ok dLw19_ok 586 (.iload_n 3, 1) rfl
theorem dL_law_587 : decode code 587 = .ok (.iconst 1, 1) := dk_D_ok dLw19_ok 587 (.iconst 1, 1) rfl
theorem dL_law_588 : decode code 588 = .ok (.iadd, 1) := dk_D_ok dLw19_ok 588 (.iadd, 1) rfl
theorem dL_law_589 : decode code 589 = .ok (.iaload, 1) := dk_D_ok dLw19_ok 589 (.iaload, 1) rfl
theorem dL_law_590 : decode code 590 = .ok (.aload_n 0, 1) := dk_D_ok dLw19_ok 590 (.aload_n 0, 1) rfl
theorem dL_law_591 : decode code 591 = .ok (.iload_n 3, 1) := dk_D_ok dLw19_ok 591 (.iload_n 3, 1) rfl
theorem dL_law_592 : decode code 592 = .ok (.iconst 2, 1) := dk_D_ok dLw19_ok 592 (.iconst 2, 1) rfl
theorem dL_law_593 : decode code 593 = .ok (.iadd, 1) := dk_D_ok dLw19_ok 593 (.iadd, 1) rfl
def dLw20 : List (Nat × Instr × Nat) := [(594, .iaload, 1), (595, .aload_n 0, 1), (596, .iload_n 3, 1), (597, .iconst 3, 1), (598, .iadd, 1), (599, .iaload, 1), (600, .aload_n 0, 1), (601, .iload_n 3, 1), (602, .iconst 4, 1), (603, .iadd, 1), (604, .iaload, 1), (605, .invokevirtual 76, 3), (608, .pop, 1), (609, .aload_n 2, 1), (610, .aload_n 0, 1), (611, .iload_n 3, 1)]
theorem dLw20_ok : dLw20.all (dk_q code) = true := by decide +kernel
theorem dL_law_594 : decode code 594 = .ok (.iaload, 1) := dk_D_ok dLw20_ok 594 (.iaload, 1) rfl
theorem dL_law_595 : decode code 595 = .ok (.aload_n 0, 1) := dk_D_ok dLw20_ok 595 (.aload_n 0, 1) rfl
theorem dL_law_596 : decode code 596 = .ok (.iload_n 3, 1) := dk_D_ok dLw20_ok 596 (.iload_n 3, 1) rfl
theorem dL_law_597 : decode code 597 = .ok (.iconst 3, 1) := dk_D_ok dLw20_ok 597 (.iconst 3, 1) rfl
theorem dL_law_598 : decode code 598 = .ok (.iadd, 1) := dk_D_ok dLw20_ok 598 (.iadd, 1) rfl
theorem dL_law_599 : decode code 599 = .ok (.iaload, 1) := dk_D_ok dLw20_ok 599 (.iaload, 1) rfl
theorem dL_law_600 : decode code 600 = .ok (.aload_n 0, 1) := dk_D_ok dLw20_ok 600 (.aload_n 0, 1) rfl
theorem dL_law_601 : decode code 601 = .ok (.iload_n 3, 1) := dk_D_ok dLw20_ok 601 (.iload_n 3, 1) rfl
theorem dL_law_602 : decode code 602 = .ok (.iconst 4, 1) := dk_D_ok dLw20_ok 602 (.iconst 4, 1) rfl
theorem dL_law_603 : decode code 603 = .ok (.iadd, 1) := dk_D_ok dLw20_ok 603 (.iadd, 1) rfl
theorem dL_law_604 : decode code 604 = .ok (.iaload, 1) := dk_D_ok dLw20_ok 604 (.iaload, 1) rfl
theorem dL_law_605 : decode code 605 = .ok (.invokevirtual 76, 3) := dk_D_ok dLw20_ok 605 (.invokevirtual 76, 3) rfl
theorem dL_law_608 : decode code 608 = .ok (.pop, 1) := dk_D_ok dLw20_ok 608 (.pop, 1) rfl
theorem dL_law_609 : decode code 609 = .ok (.aload_n 2, 1) := dk_D_ok dLw20_ok 609 (.aload_n 2, 1) rfl
theorem dL_law_610 : decode code 610 = .ok (.aload_n 0, 1) := dk_D_ok dLw20_ok 610 (.aload_n 0, 1) rfl
theorem dL_law_611 : decode code 611 = .ok (.iload_n 3, 1) := dk_D_ok dLw20_ok 611 (.iload_n 3, 1) rfl
def dLw21 : List (Nat × Instr × Nat) := [(612, .iconst 1, 1), (613, .iadd, 1), (614, .iaload, 1), (615, .aload_n 0, 1), (616, .iload_n 3, 1), (617, .iconst 2, 1), (618, .iadd, 1), (619, .iaload, 1), (620, .aload_n 0, 1), (621, .iload_n 3, 1), (622, .iconst 3, 1), (623, .iadd, 1), (624, .iaload, 1), (625, .aload_n 0, 1), (626, .iload_n 3, 1), (627, .iconst 4, 1)]
theorem dLw21_ok : dLw21.all (dk_q code) = true := by decide +kernel
theorem dL_law_612 : decode code 612 = .ok (.iconst 1, 1) := dk_D_ok dLw21_ok 612 (.iconst 1, 1) rfl
theorem dL_law_613 : decode code 613 = .ok (.iadd, 1) := dk_D_ok dLw21_ok 613 (.iadd, 1) rfl
theorem dL_law_614 : decode code 614 = .ok (.iaload, 1) := dk_D_ok dLw21_ok 614 (.iaload, 1) rfl
theorem dL_law_615 : decode code 615 = .ok (.aload_n 0, 1) := dk_D_ok dLw21_ok 615 (.aload_n 0, 1) rfl
theorem dL_law_616 : decode code 616 = .ok (.iload_n 3, 1) := dk_D_ok dLw21_ok 616 (.iload_n 3, 1) rfl
theorem dL_law_617 : decode code 617 = .ok (.iconst 2, 1) := dk_D_ok dLw21_ok 617 (.iconst 2, 1) rfl
theorem dL_law_618 : decode code 618 = .ok (.iadd, 1) := dk_D_ok dLw21_ok 618 (.iadd, 1) rfl
theorem dL_law_619 : decode code 619 = .ok (.iaload, 1) := dk_D_ok dLw21_ok 619 (.iaload, 1) rfl
theorem dL_law_620 : decode code 620 = .ok (.aload_n 0, 1) := dk_D_ok dLw21_ok 620 (.aload_n 0, 1) rfl
theorem dL_law_621 : decode code 621 = .ok (.iload_n 3, 1) := dk_D_ok dLw21_ok 621 (.iload_n 3, 1) rfl
theorem dL_law_622 : decode code 622 = .ok (.iconst 3, 1) := dk_D_ok dLw21_ok 622 (.iconst 3, 1) rfl
theorem dL_law_623 : decode code 623 = .ok (.iadd, 1) := dk_D_ok dLw21_ok 623 (.iadd, 1) rfl
theorem dL_law_624 : decode code 624 = .ok (.iaload, 1) := dk_D_ok dLw21_ok 624 (.iaload, 1) rfl
theorem dL_law_625 : decode code 625 = .ok (.aload_n 0, 1) := dk_D_ok dLw21_ok 625 (.aload_n 0, 1) rfl
theorem dL_law_626 : decode code 626 = .ok (.iload_n 3, 1) := dk_D_ok dLw21_ok 626 (.iload_n 3, 1) rfl
theorem dL_law_627 : decode code 627 = .ok (.iconst 4, 1) := dk_D_ok dLw21_ok 627 (.iconst 4, 1) rfl
def dLw22 : List (Nat × Instr × Nat) := [(628, .iadd, 1), (629, .iaload, 1), (630, .invokevirtual 80, 3), (633, .pop, 1), (634, .goto 737, 3), (637, .aload_n 1, 1), (638, .aload_n 0, 1), (639, .iload_n 3, 1), (640, .iconst 1, 1), (641, .iadd, 1), (642, .iaload, 1), (643, .aload_n 0, 1), (644, .iload_n 3, 1), (645, .iconst 2, 1), (646, .iadd, 1), (647, .iaload, 1)]
theorem dLw22_ok : dLw22.all (dk_q code) = true := by decide +kernel
theorem dL_law_628 : decode code 628 = .ok (.iadd, 1) := dk_D_ok dLw22_ok 628 (.iadd, 1) rfl
theorem dL_law_629 : decode code 629 = .ok (.iaload, 1) := dk_D_ok dLw22_ok 629 (.iaload, 1) rfl
theorem dL_law_630 : decode code 630 = .ok (.invokevirtual 80, 3) := dk_D_ok dLw22_ok 630 (.invokevirtual 80, 3) rfl
theorem dL_law_633 : decode code 633 = .ok (.pop, 1) := dk_D_ok dLw22_ok 633 (.pop, 1) rfl
theorem dL_law_634 : decode code 634 = .ok (.goto 737, 3) := dk_D_ok dLw22_ok 634 (.goto 737, 3) rfl
theorem dL_law_637 : decode code 637 = .ok (.aload_n 1, 1) := dk_D_ok dLw22_ok 637 (.aload_n 1, 1) rfl
theorem dL_law_638 : decode code 638 = .ok (.aload_n 0, 1) := dk_D_ok dLw22_ok 638 (.aload_n 0, 1) rfl
theorem dL_law_639 : decode code 639 = .ok (.iload_n 3, 1) := dk_D_ok dLw22_ok 639 (.iload_n 3, 1) rfl
theorem dL_law_640 : decode code 640 = .ok (.iconst 1, 1) := dk_D_ok dLw22_ok 640 (.iconst 1, 1) rfl
theorem dL_law_641 : decode code 641 = .ok (.iadd, 1) := dk_D_ok dLw22_ok 641 (.iadd, 1) rfl
theorem dL_law_642 : decode code 642 = .ok (.iaload, 1) := dk_D_ok dLw22_ok 642 (.iaload, 1) rfl
theorem dL_law_643 : decode code 643 = .ok (.aload_n 0, 1) := dk_D_ok dLw22_ok 643 (.aload_n 0, 1) rfl
theorem dL_law_644 : decode code 644 = .ok (.iload_n 3, 1) := dk_D_ok dLw22_ok 644 (.iload_n 3, 1) rfl
theorem dL_law_645 : decode code 645 = .ok (.iconst 2, 1) := dk_D_ok dLw22_ok 645 (.iconst 2, 1) rfl
theorem dL_law_646 : decode code 646 = .ok (.iadd, 1) := dk_D_ok dLw22_ok 646 (.iadd, 1) rfl
theorem dL_law_647 : decode code 647 = .ok (.iaload, 1) := dk_D_ok dLw22_ok 647 (.iaload, 1) rfl
def dLw23 : List (Nat × Instr × Nat) := [(648, .invokevirtual 81, 3), (651, .pop, 1), (652, .aload_n 2, 1), (653, .aload_n 0, 1), (654, .iload_n 3, 1), (655, .iconst 1, 1), (656, .iadd, 1), (657, .iaload, 1), (658, .aload_n 0, 1), (659, .iload_n 3, 1), (660, .iconst 2, 1), (661, .iadd, 1), (662, .iaload, 1), (663, .invokevirtual 84, 3), (666, .pop, 1), (667, .goto 704, 3)]
theorem dLw23_ok : dLw23.all (dk_q code) = true := by decide +kernel
theorem dL_law_648 : decode code 648 = .ok (.invokevirtual 81, 3) := dk_D_ok dLw23_ok 648 (.invokevirtual 81, 3) rfl
theorem dL_law_651 : decode code 651 = .ok (.pop, 1) := dk_D_ok dLw23_ok 651 (.pop, 1) rfl
theorem dL_law_652 : decode code 652 = .ok (.aload_n 2, 1) := dk_D_ok dLw23_ok 652 (.aload_n 2, 1) rfl
theorem dL_law_653 : decode code 653 = .ok (.aload_n 0, 1) := dk_D_ok dLw23_ok 653 (.aload_n 0, 1) rfl
theorem dL_law_654 : decode code 654 = .ok (.iload_n 3, 1) := dk_D_ok dLw23_ok 654 (.iload_n 3, 1) rfl
theorem dL_law_655 : decode code 655 = .ok (.iconst 1, 1) := dk_D_ok dLw23_ok 655 (.iconst 1, 1) rfl
theorem dL_law_656 : decode code 656 = .ok (.iadd, 1) := dk_D_ok dLw23_ok 656 (.iadd, 1) rfl
theorem dL_law_657 : decode code 657 = .ok (.iaload, 1) := dk_D_ok dLw23_ok 657 (.iaload, 1) rfl
theorem dL_law_658 : decode code 658 = .ok (.aload_n 0, 1) := dk_D_ok dLw23_ok 658 (.aload_n 0, 1) rfl
theorem dL_law_659 : decode code 659 = .ok (.iload_n 3, 1) := dk_D_ok dLw23_ok 659 (.iload_n 3, 1) rfl
theorem dL_law_660 : decode code 660 = .ok (.iconst 2, 1) := dk_D_ok dLw23_ok 660 (.iconst 2, 1) rfl
theorem dL_law_661 : decode code 661 = .ok (.iadd, 1) := dk_D_ok dLw23_ok 661 (.iadd, 1) rfl
theorem dL_law_662 : decode code 662 = .ok (.iaload, 1) := dk_D_ok dLw23_ok 662 (.iaload, 1) rfl
theorem dL_law_663 : decode code 663 = .ok (.invokevirtual 84, 3) := dk_D_ok dLw23_ok 663 (.invokevirtual 84, 3) rfl
theorem dL_law_666 : decode code 666 = .ok (.pop, 1) := dk_D_ok dLw23_ok 666 (.pop, 1) rfl
theorem dL_law_667 : decode code 667 = .ok (.goto 704, 3) := dk_D_ok dLw23_ok 667 (.goto 704, 3) rfl
def dLw24 : List (Nat × Instr × Nat) := [(670, .aload_n 1, 1), (671, .aload_n 0, 1), (672, .iload_n 3, 1), (673, .iconst 1, 1), (674, .iadd, 1), (675, .iaload, 1), (676, .invokevirtual 85, 3), (679, .pop, 1), (680, .aload_n 2, 1), (681, .aload_n 0, 1), (682, .iload_n 3, 1), (683, .iconst 1, 1), (684, .iadd, 1), (685, .iaload, 1), (686, .invokevirtual 88, 3), (689, .pop, 1)]
theorem dLw24_ok : dLw24.all (dk_q code) = true := by decide +kernel
theorem dL_law_670 : decode code 670 = .ok (.aload_n 1, 1) := dk_D_ok dLw24_ok 670 (.aload_n 1, 1) rfl
theorem dL_law_671 : decode code 671 = .ok (.aload_n 0, 1) := dk_D_ok dLw24_ok 671 (.aload_n 0, 1) rfl
theorem dL_law_672 : decode code 672 = .ok (.iload_n 3, 1) := dk_D_ok dLw24_ok 672 (.iload_n 3, 1) rfl
theorem dL_law_673 : decode code 673 = .ok (.iconst 1, 1) := dk_D_ok dLw24_ok 673 (.iconst 1, 1) rfl
theorem dL_law_674 : decode code 674 = .ok (.iadd, 1) := dk_D_ok dLw24_ok 674 (.iadd, 1) rfl
theorem dL_law_675 : decode code 675 = .ok (.iaload, 1) := dk_D_ok dLw24_ok 675 (.iaload, 1) rfl
theorem dL_law_676 : decode code 676 = .ok (.invokevirtual 85, 3) := dk_D_ok dLw24_ok 676 (.invokevirtual 85, 3) rfl
theorem dL_law_679 : decode code 679 = .ok (.pop, 1) := dk_D_ok dLw24_ok 679 (.pop, 1) rfl
theorem dL_law_680 : decode code 680 = .ok (.aload_n 2, 1) := dk_D_ok dLw24_ok 680 (.aload_n 2, 1) rfl
theorem dL_law_681 : decode code 681 = .ok (.aload_n 0, 1) := dk_D_ok dLw24_ok 681 (.aload_n 0, 1) rfl
theorem dL_law_682 : decode code 682 = .ok (.iload_n 3, 1) := dk_D_ok dLw24_ok 682 (.iload_n 3, 1) rfl
theorem dL_law_683 : decode code 683 = .ok (.iconst 1, 1) := dk_D_ok dLw24_ok 683 (.iconst 1, 1) rfl
theorem dL_law_684 : decode code 684 = .ok (.iadd, 1) := dk_D_ok dLw24_ok 684 (.iadd, 1) rfl
theorem dL_law_685 : decode code 685 = .ok (.iaload, 1) := dk_D_ok dLw24_ok 685 (.iaload, 1) rfl
theorem dL_law_686 : decode code 686 = .ok (.invokevirtual 88, 3) := dk_D_ok dLw24_ok 686 (.invokevirtual 88, 3) rfl
theorem dL_law_689 : decode code 689 = .ok (.pop, 1) := dk_D_ok dLw24_ok 689 (.pop, 1) rfl
def dLw25 : List (Nat × Instr × Nat) := [(690, .goto 681, 3), (693, .aload_n 1, 1), (694, .aload_n 0, 1), (695, .iload_n 3, 1), (696, .iconst 1, 1), (697, .iadd, 1), (698, .iaload, 1), (699, .invokevirtual 89, 3), (702, .pop, 1), (703, .aload_n 2, 1), (704, .aload_n 0, 1), (705, .iload_n 3, 1), (706, .iconst 1, 1), (707, .iadd, 1), (708, .iaload, 1), (709, .invokevirtual 92, 3)]
theorem dLw25_ok : dLw25.all (dk_q code) = true := by decide +kernel
theorem dL_law_690 : decode code 690 = .ok (.goto 681, 3) := dk_D_ok dLw25_ok 690 (.goto 681, 3) rfl
theorem dL_law_693 : decode code 693 = .ok (.aload_n 1, 1) := dk_D_ok dLw25_ok 693 (.aload_n 1, 1) rfl
theorem dL_law_694 : decode code 694 = .ok (.aload_n 0, 1) := dk_D_ok dLw25_ok 694 (.aload_n 0, 1) rfl
theorem dL_law_695 : decode code 695 = .ok (.iload_n 3, 1) := dk_D_ok dLw25_ok 695 (.iload_n 3, 1) rfl
theorem dL_law_696 : decode code 696 = .ok (.iconst 1, 1) := dk_D_ok dLw25_ok 696 (.iconst 1, 1) rfl
theorem dL_law_697 : decode code 697 = .ok (.iadd, 1) := dk_D_ok dLw25_ok 697 (.iadd, 1) rfl
theorem dL_law_698 : decode code 698 = .ok (.iaload, 1) := dk_D_ok dLw25_ok 698 (.iaload, 1) rfl
theorem dL_law_699 : decode code 699 = .ok (.invokevirtual 89, 3) := dk_D_ok dLw25_ok 699 (.invokevirtual 89, 3) rfl
theorem dL_law_702 : decode code 702 = .ok (.pop, 1) := dk_D_ok dLw25_ok 702 (.pop, 1) rfl
theorem dL_law_703 : decode code 703 = .ok (.aload_n 2, 1) := dk_D_ok dLw25_ok 703 (.aload_n 2, 1) rfl
theorem dL_law_704 : decode code 704 = .ok (.aload_n 0, 1) := dk_D_ok dLw25_ok 704 (.aload_n 0, 1) rfl
theorem dL_law_705 : decode code 705 = .ok (.iload_n 3, 1) := dk_D_ok dLw25_ok 705 (.iload_n 3, 1) rfl
theorem dL_law_706 : decode code 706 = .ok (.iconst 1, 1) := dk_D_ok dLw25_ok 706 (.iconst 1, 1) rfl
theorem dL_law_707 : decode code 707 = .ok (.iadd, 1) := dk_D_ok dLw25_ok 707 (.iadd, 1) rfl
theorem dL_law_708 : decode code 708 = .ok (.iaload, 1) := dk_D_ok dLw25_ok 708 (.iaload, 1) rfl
theorem dL_law_709 : decode code 709 = .ok (.invokevirtual 92, 3) := dk_D_ok dLw25_ok 709 (.invokevirtual 92, 3) rfl
def dLw26 : List (Nat × Instr × Nat) := [(712, .pop, 1), (713, .goto 658, 3), (716, .aload_n 1, 1), (717, .aload_n 0, 1), (718, .iload_n 3, 1), (719, .iconst 1, 1), (720, .iadd, 1), (721, .iaload, 1), (722, .invokevirtual 93, 3), (725, .pop, 1), (726, .aload_n 2, 1), (727, .aload_n 0, 1), (728, .iload_n 3, 1), (729, .iconst 1, 1), (730, .iadd, 1), (731, .iaload, 1)]
theorem dLw26_ok : dLw26.all (dk_q code) = true := by decide +kernel
theorem dL_law_712 : decode code 712 = .ok (.pop, 1) := dk_D_ok dLw26_ok 712 (.pop, 1) rfl
theorem dL_law_713 : decode code 713 = .ok (.goto 658, 3) := dk_D_ok dLw26_ok 713 (.goto 658, 3) rfl
theorem dL_law_716 : decode code 716 = .ok (.aload_n 1, 1) := dk_D_ok dLw26_ok 716 (.aload_n 1, 1) rfl
theorem dL_law_717 : decode code 717 = .ok (.aload_n 0, 1) := dk_D_ok dLw26_ok 717 (.aload_n 0, 1) rfl
theorem dL_law_718 : decode code 718 = .ok (.iload_n 3, 1) := dk_D_ok dLw26_ok 718 (.iload_n 3, 1) rfl
theorem dL_law_719 : decode code 719 = .ok (.iconst 1, 1) := dk_D_ok dLw26_ok 719 (.iconst 1, 1) rfl
theorem dL_law_720 : decode code 720 = .ok (.iadd, 1) := dk_D_ok dLw26_ok 720 (.iadd, 1) rfl
theorem dL_law_721 : decode code 721 = .ok (.iaload, 1) := dk_D_ok dLw26_ok 721 (.iaload, 1) rfl
theorem dL_law_722 : decode code 722 = .ok (.invokevirtual 93, 3) := dk_D_ok dLw26_ok 722 (.invokevirtual 93, 3) rfl
theorem dL_law_725 : decode code 725 = .ok (.pop, 1) := dk_D_ok dLw26_ok 725 (.pop, 1) rfl
theorem dL_law_726 : decode code 726 = .ok (.aload_n 2, 1) := dk_D_ok dLw26_ok 726 (.aload_n 2, 1) rfl
theorem dL_law_727 : decode code 727 = .ok (.aload_n 0, 1) := dk_D_ok dLw26_ok 727 (.aload_n 0, 1) rfl
theorem dL_law_728 : decode code 728 = .ok (.iload_n 3, 1) := dk_D_ok dLw26_ok 728 (.iload_n 3, 1) rfl
theorem dL_law_729 : decode code 729 = .ok (.iconst 1, 1) := dk_D_ok dLw26_ok 729 (.iconst 1, 1) rfl
theorem dL_law_730 : decode code 730 = .ok (.iadd, 1) := dk_D_ok dLw26_ok 730 (.iadd, 1) rfl
theorem dL_law_731 : decode code 731 = .ok (.iaload, 1) := dk_D_ok dLw26_ok 731 (.iaload, 1) rfl
def dLw27 : List (Nat × Instr × Nat) := [(732, .invokevirtual 96, 3), (735, .pop, 1), (736, .goto 635, 3), (739, .aload_n 1, 1), (740, .aload_n 0, 1), (741, .iload_n 3, 1), (742, .iconst 1, 1), (743, .iadd, 1), (744, .iaload, 1), (745, .aload_n 0, 1), (746, .iload_n 3, 1), (747, .iconst 2, 1), (748, .iadd, 1), (749, .iaload, 1), (750, .invokevirtual 97, 3), (753, .pop, 1)]
theorem dLw27_ok : dLw27.all (dk_q code) = true := by decide +kernel
theorem dL_law_732 : decode code 732 = .ok (.invokevirtual 96, 3) := dk_D_ok dLw27_ok 732 (.invokevirtual 96, 3) rfl
theorem dL_law_735 : decode code 735 = .ok (.pop, 1) := dk_D_ok dLw27_ok 735 (.pop, 1) rfl
theorem dL_law_736 : decode code 736 = .ok (.goto 635, 3) := dk_D_ok dLw27_ok 736 (.goto 635, 3) rfl
theorem dL_law_739 : decode code 739 = .ok (.aload_n 1, 1) := dk_D_ok dLw27_ok 739 (.aload_n 1, 1) rfl
theorem dL_law_740 : decode code 740 = .ok (.aload_n 0, 1) := dk_D_ok dLw27_ok 740 (.aload_n 0, 1) rfl
theorem dL_law_741 : decode code 741 = .ok (.iload_n 3, 1) := dk_D_ok dLw27_ok 741 (.iload_n 3, 1) rfl
theorem dL_law_742 : decode code 742 = .ok (.iconst 1, 1) := dk_D_ok dLw27_ok 742 (.iconst 1, 1) rfl
theorem dL_law_743 : decode code 743 = .ok (.iadd, 1) := dk_D_ok dLw27_ok 743 (.iadd, 1) rfl
theorem dL_law_744 : decode code 744 = .ok (.iaload, 1) := dk_D_ok dLw27_ok 744 (.iaload, 1) rfl
theorem dL_law_745 : decode code 745 = .ok (.aload_n 0, 1) := dk_D_ok dLw27_ok 745 (.aload_n 0, 1) rfl
theorem dL_law_746 : decode code 746 = .ok (.iload_n 3, 1) := dk_D_ok dLw27_ok 746 (.iload_n 3, 1) rfl
theorem dL_law_747 : decode code 747 = .ok (.iconst 2, 1) := dk_D_ok dLw27_ok 747 (.iconst 2, 1) rfl
theorem dL_law_748 : decode code 748 = .ok (.iadd, 1) := dk_D_ok dLw27_ok 748 (.iadd, 1) rfl
theorem dL_law_749 : decode code 749 = .ok (.iaload, 1) := dk_D_ok dLw27_ok 749 (.iaload, 1) rfl
theorem dL_law_750 : decode code 750 = .ok (.invokevirtual 97, 3) := dk_D_ok dLw27_ok 750 (.invokevirtual 97, 3) rfl
theorem dL_law_753 : decode code 753 = .ok (.pop, 1) := dk_D_ok dLw27_ok 753 (.pop, 1) rfl
def dLw28 : List (Nat × Instr × Nat) := [(754, .aload_n 2, 1), (755, .aload_n 0, 1), (756, .iload_n 3, 1), (757, .iconst 1, 1), (758, .iadd, 1), (759, .iaload, 1), (760, .aload_n 0, 1), (761, .iload_n 3, 1), (762, .iconst 2, 1), (763, .iadd, 1), (764, .iaload, 1), (765, .invokevirtual 100, 3), (768, .pop, 1), (769, .goto 602, 3), (772, .aload_n 1, 1), (773, .aload_n 0, 1)]
theorem dLw28_ok : dLw28.all (dk_q code) = true := by decide +kernel
theorem dL_law_754 : decode code 754 = .ok (.aload_n 2, 1) := dk_D_ok dLw28_ok 754 (.aload_n 2, 1) rfl
theorem dL_law_755 : decode code 755 = .ok (.aload_n 0, 1) := dk_D_ok dLw28_ok 755 (.aload_n 0, 1) rfl
theorem dL_law_756 : decode code 756 = .ok (.iload_n 3, 1) := dk_D_ok dLw28_ok 756 (.iload_n 3, 1) rfl
theorem dL_law_757 : decode code 757 = .ok (.iconst 1, 1) := dk_D_ok dLw28_ok 757 (.iconst 1, 1) rfl
theorem dL_law_758 : decode code 758 = .ok (.iadd, 1) := dk_D_ok dLw28_ok 758 (.iadd, 1) rfl
theorem dL_law_759 : decode code 759 = .ok (.iaload, 1) := dk_D_ok dLw28_ok 759 (.iaload, 1) rfl
theorem dL_law_760 : decode code 760 = .ok (.aload_n 0, 1) := dk_D_ok dLw28_ok 760 (.aload_n 0, 1) rfl
theorem dL_law_761 : decode code 761 = .ok (.iload_n 3, 1) := dk_D_ok dLw28_ok 761 (.iload_n 3, 1) rfl
theorem dL_law_762 : decode code 762 = .ok (.iconst 2, 1) := dk_D_ok dLw28_ok 762 (.iconst 2, 1) rfl
theorem dL_law_763 : decode code 763 = .ok (.iadd, 1) := dk_D_ok dLw28_ok 763 (.iadd, 1) rfl
theorem dL_law_764 : decode code 764 = .ok (.iaload, 1) := dk_D_ok dLw28_ok 764 (.iaload, 1) rfl
theorem dL_law_765 : decode code 765 = .ok (.invokevirtual 100, 3) := dk_D_ok dLw28_ok 765 (.invokevirtual 100, 3) rfl
theorem dL_law_768 : decode code 768 = .ok (.pop, 1) := dk_D_ok dLw28_ok 768 (.pop, 1) rfl
theorem dL_law_769 : decode code 769 = .ok (.goto 602, 3) := dk_D_ok dLw28_ok 769 (.goto 602, 3) rfl
theorem dL_law_772 : decode code 772 = .ok (.aload_n 1, 1) := dk_D_ok dLw28_ok 772 (.aload_n 1, 1) rfl
theorem dL_law_773 : decode code 773 = .ok (.aload_n 0, 1) := dk_D_ok dLw28_ok 773 (.aload_n 0, 1) rfl
def dLw29 : List (Nat × Instr × Nat) := [(774, .iload_n 3, 1), (775, .iconst 1, 1), (776, .iadd, 1), (777, .iaload, 1), (778, .aload_n 0, 1), (779, .iload_n 3, 1), (780, .iconst 2, 1), (781, .iadd, 1), (782, .iaload, 1), (783, .invokevirtual 101, 3), (786, .pop, 1), (787, .aload_n 2, 1), (788, .aload_n 0, 1), (789, .iload_n 3, 1), (790, .iconst 1, 1), (791, .iadd, 1)]
theorem dLw29_ok : dLw29.all (dk_q code) = true := by decide +kernel
theorem dL_law_774 : decode code 774 = .ok (.iload_n 3, 1) := dk_D_ok dLw29_ok 774 (.iload_n 3, 1) rfl
theorem dL_law_775 : decode code 775 = .ok (.iconst 1, 1) := dk_D_ok dLw29_ok 775 (.iconst 1, 1) rfl
theorem dL_law_776 : decode code 776 = .ok (.iadd, 1) := dk_D_ok dLw29_ok 776 (.iadd, 1) rfl
theorem dL_law_777 : decode code 777 = .ok (.iaload, 1) := dk_D_ok dLw29_ok 777 (.iaload, 1) rfl
theorem dL_law_778 : decode code 778 = .ok (.aload_n 0, 1) := dk_D_ok dLw29_ok 778 (.aload_n 0, 1) rfl
theorem dL_law_779 : decode code 779 = .ok (.iload_n 3, 1) := dk_D_ok dLw29_ok 779 (.iload_n 3, 1) rfl
theorem dL_law_780 : decode code 780 = .ok (.iconst 2, 1) := dk_D_ok dLw29_ok 780 (.iconst 2, 1) rfl
theorem dL_law_781 : decode code 781 = .ok (.iadd, 1) := dk_D_ok dLw29_ok 781 (.iadd, 1) rfl
theorem dL_law_782 : decode code 782 = .ok (.iaload, 1) := dk_D_ok dLw29_ok 782 (.iaload, 1) rfl
theorem dL_law_783 : decode code 783 = .ok (.invokevirtual 101, 3) := dk_D_ok dLw29_ok 783 (.invokevirtual 101, 3) rfl
theorem dL_law_786 : decode code 786 = .ok (.pop, 1) := dk_D_ok dLw29_ok 786 (.pop, 1) rfl
theorem dL_law_787 : decode code 787 = .ok (.aload_n 2, 1) := dk_D_ok dLw29_ok 787 (.aload_n 2, 1) rfl
theorem dL_law_788 : decode code 788 = .ok (.aload_n 0, 1) := dk_D_ok dLw29_ok 788 (.aload_n 0, 1) rfl
theorem dL_law_789 : decode code 789 = .ok (.iload_n 3, 1) := dk_D_ok dLw29_ok 789 (.iload_n 3, 1) rfl
theorem dL_law_790 : decode code 790 = .ok (.iconst 1, 1) := dk_D_ok dLw29_ok 790 (.iconst 1, 1) rfl
theorem dL_law_791 : decode code 791 = .ok (.iadd, 1) := dk_D_ok dLw29_ok 791 (.iadd, 1) rfl
def dLw30 : List (Nat × Instr × Nat) := [(792, .iaload, 1), (793, .aload_n 0, 1), (794, .iload_n 3, 1), (795, .iconst 2, 1), (796, .iadd, 1), (797, .iaload, 1), (798, .invokevirtual 104, 3), (801, .pop, 1), (802, .goto 569, 3), (805, .aload_n 1, 1), (806, .aload_n 0, 1), (807, .iload_n 3, 1), (808, .iconst 1, 1), (809, .iadd, 1), (810, .iaload, 1), (811, .aload_n 0, 1)]
theorem dLw30_ok : dLw30.all (dk_q code) = true := by decide +kernel
theorem dL_law_792 : decode code 792 = .ok (.iaload, 1) := dk_D_ok dLw30_ok 792 (.iaload, 1) rfl
theorem dL_law_793 : decode code 793 = .ok (.aload_n 0, 1) := dk_D_ok dLw30_ok 793 (.aload_n 0, 1) rfl
theorem dL_law_794 : decode code 794 = .ok (.iload_n 3, 1) := dk_D_ok dLw30_ok 794 (.iload_n 3, 1) rfl
theorem dL_law_795 : decode code 795 = .ok (.iconst 2, 1) := dk_D_ok dLw30_ok 795 (.iconst 2, 1) rfl
theorem dL_law_796 : decode code 796 = .ok (.iadd, 1) := dk_D_ok dLw30_ok 796 (.iadd, 1) rfl
theorem dL_law_797 : decode code 797 = .ok (.iaload, 1) := dk_D_ok dLw30_ok 797 (.iaload, 1) rfl
theorem dL_law_798 : decode code 798 = .ok (.invokevirtual 104, 3) := dk_D_ok dLw30_ok 798 (.invokevirtual 104, 3) rfl
theorem dL_law_801 : decode code 801 = .ok (.pop, 1) := dk_D_ok dLw30_ok 801 (.pop, 1) rfl
theorem dL_law_802 : decode code 802 = .ok (.goto 569, 3) := dk_D_ok dLw30_ok 802 (.goto 569, 3) rfl
theorem dL_law_805 : decode code 805 = .ok (.aload_n 1, 1) := dk_D_ok dLw30_ok 805 (.aload_n 1, 1) rfl
theorem dL_law_806 : decode code 806 = .ok (.aload_n 0, 1) := dk_D_ok dLw30_ok 806 (.aload_n 0, 1) rfl
theorem dL_law_807 : decode code 807 = .ok (.iload_n 3, 1) := dk_D_ok dLw30_ok 807 (.iload_n 3, 1) rfl
theorem dL_law_808 : decode code 808 = .ok (.iconst 1, 1) := dk_D_ok dLw30_ok 808 (.iconst 1, 1) rfl
theorem dL_law_809 : decode code 809 = .ok (.iadd, 1) := dk_D_ok dLw30_ok 809 (.iadd, 1) rfl
theorem dL_law_810 : decode code 810 = .ok (.iaload, 1) := dk_D_ok dLw30_ok 810 (.iaload, 1) rfl
theorem dL_law_811 : decode code 811 = .ok (.aload_n 0, 1) := dk_D_ok dLw30_ok 811 (.aload_n 0, 1) rfl
def dLw31 : List (Nat × Instr × Nat) := [(812, .iload_n 3, 1), (813, .iconst 2, 1), (814, .iadd, 1), (815, .iaload, 1)]
theorem dLw31_ok : dLw31.all (dk_q code) = true := by decide +kernel
theorem dL_law_812 : decode code 812 = .ok (.iload_n 3, 1) := dk_D_ok dLw31_ok 812 (.iload_n 3, 1) rfl
theorem dL_law_813 : decode code 813 = .ok (.iconst 2, 1) := dk_D_ok dLw31_ok 813 (.iconst 2, 1) rfl
theorem dL_law_814 : decode code 814 = .ok (.iadd, 1) := dk_D_ok dLw31_ok 814 (.iadd, 1) rfl
theorem dL_law_815 : decode code 815 = .ok (.iaload, 1) := dk_D_ok dLw31_ok 815 (.iaload, 1) rfl
