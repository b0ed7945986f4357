def tLaw_law_t0 : List (Nat × Instr × Nat) := [(0, .new 7, 3), (3, .dup, 1), (4, .invokespecial 9, 3), (7, .astore_n 1, 1), (8, .new 10, 3), (11, .dup, 1), (12, .invokespecial 12, 3), (15, .astore_n 2, 1), (16, .iconst 0, 1), (17, .istore_n 3, 1), (18, .iload_n 3, 1), (19, .aload_n 0, 1), (20, .arraylength, 1), (21, .bipush 7, 2), (23, .isub, 1), (24, .if_icmp .gt 1701, 3), (27, .aload_n 0, 1), (28, .iload_n 3, 1), (29, .iaload, 1), (30, .bipush 63, 2), (32, .iand, 1), (33, .tableswitch 1686 0 46 #[203, 246, 279, 302, 325, 400, 413, 436, 489, 522, 555, 608, 641, 674, 687, 720, 753, 776, 789, 822, 855, 878, 901, 914, 927, 960, 1003, 1046, 1059, 1092, 1115, 1148, 1181, 1204, 1237, 1260, 1283, 1306, 1339, 1372, 1425, 1438, 1451, 1494, 1537, 1600, 1653], 203), (236, .aload_n 1, 1), (237, .aload_n 0, 1), (238, .iload_n 3, 1), (239, .iconst 1, 1), (240, .iadd, 1), (241, .iaload, 1), (242, .aload_n 0, 1), (243, .iload_n 3, 1), (244, .iconst 2, 1), (245, .iadd, 1), (246, .iaload, 1), (247, .aload_n 0, 1), (248, .iload_n 3, 1), (249, .iconst 3, 1), (250, .iadd, 1), (251, .iaload, 1), (252, .invokevirtual 13, 3), (255, .aload_n 2, 1)]
theorem kLaw_law_t0 : chkD (mcc mLaw_law) tLaw_law_t0 = true := by decide +kernel
theorem dLaw_law_0 : decode (mcc mLaw_law) 0 = .ok (.new 7, 3) := chkD_at kLaw_law_t0 (i := 0) rfl
theorem dLaw_law_3 : decode (mcc mLaw_law) 3 = .ok (.dup, 1) := chkD_at kLaw_law_t0 (i := 1) rfl
theorem dLaw_law_4 : decode (mcc mLaw_law) 4 = .ok (.invokespecial 9, 3) := chkD_at kLaw_law_t0 (i := 2) rfl
theorem dLaw_law_7 : decode (mcc mLaw_law) 7 = .ok (.astore_n 1, 1) := chkD_at kLaw_law_t0 (i := 3) rfl
theorem dLaw_law_8 : decode (mcc mLaw_law) 8 = .ok (.new 10, 3) := chkD_at kLaw_law_t0 (i := 4) rfl
theorem dLaw_law_11 : decode (mcc mLaw_law) 11 = .ok (.dup, 1) := chkD_at kLaw_law_t0 (i := 5) rfl
theorem dLaw_law_12 : decode (mcc mLaw_law) 12 = .ok (.invokespecial 12, 3) := chkD_at kLaw_law_t0 (i := 6) rfl
theorem dLaw_law_15 : decode (mcc mLaw_law) 15 = .ok (.astore_n 2, 1) := chkD_at kLaw_law_t0 (i := 7) rfl
theorem dLaw_law_16 : decode (mcc mLaw_law) 16 = .ok (.iconst 0, 1) := chkD_at kLaw_law_t0 (i := 8) rfl
theorem dLaw_law_17 : decode (mcc mLaw_law) 17 = .ok (.istore_n 3, 1) := chkD_at kLaw_law_t0 (i := 9) rfl
theorem dLaw_law_18 : decode (mcc mLaw_law) 18 = .ok (.iload_n 3, 1) := chkD_at kLaw_law_t0 (i := 10) rfl
theorem dLaw_law_19 : decode (mcc mLaw_law) 19 = .ok (.aload_n 0, 1) := chkD_at kLaw_law_t0 (i := 11) rfl
theorem dLaw_law_20 : decode (mcc mLaw_law) 20 = .ok (.arraylength, 1) := chkD_at kLaw_law_t0 (i := 12) rfl
theorem dLaw_law_21 : decode (mcc mLaw_law) 21 = .ok (.bipush 7, 2) := chkD_at kLaw_law_t0 (i := 13) rfl
theorem dLaw_law_23 : decode (mcc mLaw_law) 23 = .ok (.isub, 1) := chkD_at kLaw_law_t0 (i := 14) rfl
theorem dLaw_law_24 : decode (mcc mLaw_law) 24 = .ok (.if_icmp .gt 1701, 3) := chkD_at kLaw_law_t0 (i := 15) rfl
theorem dLaw_law_27 : decode (mcc mLaw_law) 27 = .ok (.aload_n 0, 1) := chkD_at kLaw_law_t0 (i := 16) rfl
theorem dLaw_law_28 : decode (mcc mLaw_law) 28 = .ok (.iload_n 3, 1) := chkD_at kLaw_law_t0 (i := 17) rfl
theorem dLaw_law_29 : decode (mcc mLaw_law) 29 = .ok (.iaload, 1) := chkD_at kLaw_law_t0 (i := 18) rfl
theorem dLaw_law_30 : decode (mcc mLaw_law) 30 = .ok (.bipush 63, 2) := chkD_at kLaw_law_t0 (i := 19) rfl
theorem dLaw_law_32 : decode (mcc mLaw_law) 32 = .ok (.iand, 1) := chkD_at kLaw_law_t0 (i := 20) rfl
theorem dLaw_law_33 : decode (mcc mLaw_law) 33 = .ok (.tableswitch 1686 0 46 #[203, 246, 279, 302, 325, 400, 413, 436, 489, 522, 555, 608, 641, 674, 687, 720, 753, 776, 789, 822, 855, 878, 901, 914, 927, 960, 1003, 1046, 1059, 1092, 1115, 1148, 1181, 1204, 1237, 1260, 1283, 1306, 1339, 1372, 1425, 1438, 1451, 1494, 1537, 1600, 1653], 203) := chkD_at kLaw_law_t0 (i := 21) rfl
theorem dLaw_law_236 : decode (mcc mLaw_law) 236 = .ok (.aload_n 1, 1) := chkD_at kLaw_law_t0 (i := 22) rfl
theorem dLaw_law_237 : decode (mcc mLaw_law) 237 = .ok (.aload_n 0, 1) := chkD_at kLaw_law_t0 (i := 23) rfl
theorem dLaw_law_238 : decode (mcc mLaw_law) 238 = .ok (.iload_n 3, 1) := chkD_at kLaw_law_t0 (i := 24) rfl
theorem dLaw_law_239 : decode (mcc mLaw_law) 239 = .ok (.iconst 1, 1) := chkD_at kLaw_law_t0 (i := 25) rfl
theorem dLaw_law_240 : decode (mcc mLaw_law) 240 = .ok (.iadd, 1) := chkD_at kLaw_law_t0 (i := 26) rfl
theorem dLaw_law_241 : decode (mcc mLaw_law) 241 = .ok (.iaload, 1) := chkD_at kLaw_law_t0 (i := 27) rfl
theorem dLaw_law_242 : decode (mcc mLaw_law) 242 = .ok (.aload_n 0, 1) := chkD_at kLaw_law_t0 (i := 28) rfl
theorem dLaw_law_243 : decode (mcc mLaw_law) 243 = .ok (.iload_n 3, 1) := chkD_at kLaw_law_t0 (i := 29) rfl
theorem dLaw_law_244 : decode (mcc mLaw_law) 244 = .ok (.iconst 2, 1) := chkD_at kLaw_law_t0 (i := 30) rfl
theorem dLaw_law_245 : decode (mcc mLaw_law) 245 = .ok (.iadd, 1) := chkD_at kLaw_law_t0 (i := 31) rfl
theorem dLaw_law_246 : decode (mcc mLaw_law) 246 = .ok (.iaload, 1) := chkD_at kLaw_law_t0 (i := 32) rfl
theorem dLaw_law_247 : decode (mcc mLaw_law) 247 = .ok (.aload_n 0, 1) := chkD_at kLaw_law_t0 (i := 33) rfl
theorem dLaw_law_248 : decode (mcc mLaw_law) 248 = .ok (.iload_n 3, 1) := chkD_at kLaw_law_t0 (i := 34) rfl
theorem dLaw_law_249 : decode (mcc mLaw_law) 249 = .ok (.iconst 3, 1) := chkD_at kLaw_law_t0 (i := 35) rfl
theorem dLaw_law_250 : decode (mcc mLaw_law) 250 = .ok (.iadd, 1) := chkD_at kLaw_law_t0 (i := 36) rfl
theorem dLaw_law_251 : decode (mcc mLaw_law) 251 = .ok (.iaload, 1) := chkD_at kLaw_law_t0 (i := 37) rfl
theorem dLaw_law_252 : decode (mcc mLaw_law) 252 = .ok (.invokevirtual 13, 3) := chkD_at kLaw_law_t0 (i := 38) rfl
theorem dLaw_law_255 : decode (mcc mLaw_law) 255 = .ok (.aload_n 2, 1) := chkD_at kLaw_law_t0 (i := 39) rfl
def tLaw_law_t1 : List (Nat × Instr × Nat) := [(256, .aload_n 0, 1), (257, .iload_n 3, 1), (258, .iconst 1, 1), (259, .iadd, 1), (260, .iaload, 1), (261, .aload_n 0, 1), (262, .iload_n 3, 1), (263, .iconst 2, 1), (264, .iadd, 1), (265, .iaload, 1), (266, .aload_n 0, 1), (267, .iload_n 3, 1), (268, .iconst 3, 1), (269, .iadd, 1), (270, .iaload, 1), (271, .invokevirtual 17, 3), (274, .if_icmp .eq 1445, 3), (277, .iconst 0, 1), (278, .ireturn, 1), (279, .aload_n 1, 1), (280, .aload_n 0, 1), (281, .iload_n 3, 1), (282, .iconst 1, 1), (283, .iadd, 1), (284, .iaload, 1), (285, .aload_n 0, 1), (286, .iload_n 3, 1), (287, .iconst 2, 1), (288, .iadd, 1), (289, .iaload, 1), (290, .invokevirtual 18, 3), (293, .pop, 1), (294, .aload_n 2, 1), (295, .aload_n 0, 1), (296, .iload_n 3, 1), (297, .iconst 1, 1), (298, .iadd, 1), (299, .iaload, 1), (300, .aload_n 0, 1), (301, .iload_n 3, 1)]
theorem kLaw_law_t1 : chkD (mcc mLaw_law) tLaw_law_t1 = true := by decide +kernel
theorem dLaw_law_256 : decode (mcc mLaw_law) 256 = .ok (.aload_n 0, 1) := chkD_at kLaw_law_t1 (i := 0) rfl
theorem dLaw_law_257 : decode (mcc mLaw_law) 257 = .ok (.iload_n 3, 1) := chkD_at kLaw_law_t1 (i := 1) rfl
theorem dLaw_law_258 : decode (mcc mLaw_law) 258 = .ok (.iconst 1, 1) := chkD_at kLaw_law_t1 (i := 2) rfl
theorem dLaw_law_259 : decode (mcc mLaw_law) 259 = .ok (.iadd, 1) := chkD_at kLaw_law_t1 (i := 3) rfl
theorem dLaw_law_260 : decode (mcc mLaw_law) 260 = .ok (.iaload, 1) := chkD_at kLaw_law_t1 (i := 4) rfl
theorem dLaw_law_261 : decode (mcc mLaw_law) 261 = .ok (.aload_n 0, 1) := chkD_at kLaw_law_t1 (i := 5) rfl
theorem dLaw_law_262 : decode (mcc mLaw_law) 262 = .ok (.iload_n 3, 1) := chkD_at kLaw_law_t1 (i := 6) rfl
theorem dLaw_law_263 : decode (mcc mLaw_law) 263 = .ok (.iconst 2, 1) := chkD_at kLaw_law_t1 (i := 7) rfl
theorem dLaw_law_264 : decode (mcc mLaw_law) 264 = .ok (.iadd, 1) := chkD_at kLaw_law_t1 (i := 8) rfl
theorem dLaw_law_265 : decode (mcc mLaw_law) 265 = .ok (.iaload, 1) := chkD_at kLaw_law_t1 (i := 9) rfl
theorem dLaw_law_266 : decode (mcc mLaw_law) 266 = .ok (.aload_n 0, 1) := chkD_at kLaw_law_t1 (i := 10) rfl
theorem dLaw_law_267 : decode (mcc mLaw_law) 267 = .ok (.iload_n 3, 1) := chkD_at kLaw_law_t1 (i := 11) rfl
theorem dLaw_law_268 : decode (mcc mLaw_law) 268 = .ok (.iconst 3, 1) := chkD_at kLaw_law_t1 (i := 12) rfl
theorem dLaw_law_269 : decode (mcc mLaw_law) 269 = .ok (.iadd, 1) := chkD_at kLaw_law_t1 (i := 13) rfl
theorem dLaw_law_270 : decode (mcc mLaw_law) 270 = .ok (.iaload, 1) := chkD_at kLaw_law_t1 (i := 14) rfl
theorem dLaw_law_271 : decode (mcc mLaw_law) 271 = .ok (.invokevirtual 17, 3) := chkD_at kLaw_law_t1 (i := 15) rfl
theorem dLaw_law_274 : decode (mcc mLaw_law) 274 = .ok (.if_icmp .eq 1445, 3) := chkD_at kLaw_law_t1 (i := 16) rfl
theorem dLaw_law_277 : decode (mcc mLaw_law) 277 = .ok (.iconst 0, 1) := chkD_at kLaw_law_t1 (i := 17) rfl
theorem dLaw_law_278 : decode (mcc mLaw_law) 278 = .ok (.ireturn, 1) := chkD_at kLaw_law_t1 (i := 18) rfl
theorem dLaw_law_279 : decode (mcc mLaw_law) 279 = .ok (.aload_n 1, 1) := chkD_at kLaw_law_t1 (i := 19) rfl
theorem dLaw_law_280 : decode (mcc mLaw_law) 280 = .ok (.aload_n 0, 1) := chkD_at kLaw_law_t1 (i := 20) rfl
theorem dLaw_law_281 : decode (mcc mLaw_law) 281 = .ok (.iload_n 3, 1) := chkD_at kLaw_law_t1 (i := 21) rfl
theorem dLaw_law_282 : decode (mcc mLaw_law) 282 = .ok (.iconst 1, 1) := chkD_at kLaw_law_t1 (i := 22) rfl
theorem dLaw_law_283 : decode (mcc mLaw_law) 283 = .ok (.iadd, 1) := chkD_at kLaw_law_t1 (i := 23) rfl
theorem dLaw_law_284 : decode (mcc mLaw_law) 284 = .ok (.iaload, 1) := chkD_at kLaw_law_t1 (i := 24) rfl
theorem dLaw_law_285 : decode (mcc mLaw_law) 285 = .ok (.aload_n 0, 1) := chkD_at kLaw_law_t1 (i := 25) rfl
theorem dLaw_law_286 : decode (mcc mLaw_law) 286 = .ok (.iload_n 3, 1) := chkD_at kLaw_law_t1 (i := 26) rfl
theorem dLaw_law_287 : decode (mcc mLaw_law) 287 = .ok (.iconst 2, 1) := chkD_at kLaw_law_t1 (i := 27) rfl
theorem dLaw_law_288 : decode (mcc mLaw_law) 288 = .ok (.iadd, 1) := chkD_at kLaw_law_t1 (i := 28) rfl
theorem dLaw_law_289 : decode (mcc mLaw_law) 289 = .ok (.iaload, 1) := chkD_at kLaw_law_t1 (i := 29) rfl
theorem dLaw_law_290 : decode (mcc mLaw_law) 290 = .ok (.invokevirtual 18, 3) := chkD_at kLaw_law_t1 (i := 30) rfl
theorem dLaw_law_293 : decode (mcc mLaw_law) 293 = .ok (.pop, 1) := chkD_at kLaw_law_t1 (i := 31) rfl
theorem dLaw_law_294 : decode (mcc mLaw_law) 294 = .ok (.aload_n 2, 1) := chkD_at kLaw_law_t1 (i := 32) rfl
theorem dLaw_law_295 : decode (mcc mLaw_law) 295 = .ok (.aload_n 0, 1) := chkD_at kLaw_law_t1 (i := 33) rfl
theorem dLaw_law_296 : decode (mcc mLaw_law) 296 = .ok (.iload_n 3, 1) := chkD_at kLaw_law_t1 (i := 34) rfl
theorem dLaw_law_297 : decode (mcc mLaw_law) 297 = .ok (.iconst 1, 1) := chkD_at kLaw_law_t1 (i := 35) rfl
theorem dLaw_law_298 : decode (mcc mLaw_law) 298 = .ok (.iadd, 1) := chkD_at kLaw_law_t1 (i := 36) rfl
theorem dLaw_law_299 : decode (mcc mLaw_law) 299 = .ok (.iaload, 1) := chkD_at kLaw_law_t1 (i := 37) rfl
theorem dLaw_law_300 : decode (mcc mLaw_law) 300 = .ok (.aload_n 0, 1) := chkD_at kLaw_law_t1 (i := 38) rfl
theorem dLaw_law_301 : decode (mcc mLaw_law) 301 = .ok (.iload_n 3, 1) := chkD_at kLaw_law_t1 (i := 39) rfl
def tLaw_law_t2 : List (Nat × Instr × Nat) := [(302, .iconst 2, 1), (303, .iadd, 1), (304, .iaload, 1), (305, .invokevirtual 22, 3), (308, .pop, 1), (309, .goto 1410, 3), (312, .aload_n 1, 1), (313, .aload_n 0, 1), (314, .iload_n 3, 1), (315, .iconst 1, 1), (316, .iadd, 1), (317, .iaload, 1), (318, .invokevirtual 23, 3), (321, .pop, 1), (322, .aload_n 2, 1), (323, .aload_n 0, 1), (324, .iload_n 3, 1), (325, .iconst 1, 1), (326, .iadd, 1), (327, .iaload, 1), (328, .invokevirtual 27, 3), (331, .pop, 1), (332, .goto 1387, 3), (335, .aload_n 1, 1), (336, .aload_n 0, 1), (337, .iload_n 3, 1), (338, .iconst 1, 1), (339, .iadd, 1), (340, .iaload, 1), (341, .invokevirtual 28, 3), (344, .pop, 1), (345, .aload_n 2, 1), (346, .aload_n 0, 1), (347, .iload_n 3, 1), (348, .iconst 1, 1), (349, .iadd, 1), (350, .iaload, 1), (351, .invokevirtual 31, 3), (354, .pop, 1), (355, .goto 1364, 3)]
theorem kLaw_law_t2 : chkD (mcc mLaw_law) tLaw_law_t2 = true := by decide +kernel
theorem dLaw_law_302 : decode (mcc mLaw_law) 302 = .ok (.iconst 2, 1) := chkD_at kLaw_law_t2 (i := 0) rfl
theorem dLaw_law_303 : decode (mcc mLaw_law) 303 = .ok (.iadd, 1) := chkD_at kLaw_law_t2 (i := 1) rfl
theorem dLaw_law_304 : decode (mcc mLaw_law) 304 = .ok (.iaload, 1) := chkD_at kLaw_law_t2 (i := 2) rfl
theorem dLaw_law_305 : decode (mcc mLaw_law) 305 = .ok (.invokevirtual 22, 3) := chkD_at kLaw_law_t2 (i := 3) rfl
theorem dLaw_law_308 : decode (mcc mLaw_law) 308 = .ok (.pop, 1) := chkD_at kLaw_law_t2 (i := 4) rfl
theorem dLaw_law_309 : decode (mcc mLaw_law) 309 = .ok (.goto 1410, 3) := chkD_at kLaw_law_t2 (i := 5) rfl
theorem dLaw_law_312 : decode (mcc mLaw_law) 312 = .ok (.aload_n 1, 1) := chkD_at kLaw_law_t2 (i := 6) rfl
theorem dLaw_law_313 : decode (mcc mLaw_law) 313 = .ok (.aload_n 0, 1) := chkD_at kLaw_law_t2 (i := 7) rfl
theorem dLaw_law_314 : decode (mcc mLaw_law) 314 = .ok (.iload_n 3, 1) := chkD_at kLaw_law_t2 (i := 8) rfl
theorem dLaw_law_315 : decode (mcc mLaw_law) 315 = .ok (.iconst 1, 1) := chkD_at kLaw_law_t2 (i := 9) rfl
theorem dLaw_law_316 : decode (mcc mLaw_law) 316 = .ok (.iadd, 1) := chkD_at kLaw_law_t2 (i := 10) rfl
theorem dLaw_law_317 : decode (mcc mLaw_law) 317 = .ok (.iaload, 1) := chkD_at kLaw_law_t2 (i := 11) rfl
theorem dLaw_law_318 : decode (mcc mLaw_law) 318 = .ok (.invokevirtual 23, 3) := chkD_at kLaw_law_t2 (i := 12) rfl
theorem dLaw_law_321 : decode (mcc mLaw_law) 321 = .ok (.pop, 1) := chkD_at kLaw_law_t2 (i := 13) rfl
theorem dLaw_law_322 : decode (mcc mLaw_law) 322 = .ok (.aload_n 2, 1) := chkD_at kLaw_law_t2 (i := 14) rfl
theorem dLaw_law_323 : decode (mcc mLaw_law) 323 = .ok (.aload_n 0, 1) := chkD_at kLaw_law_t2 (i := 15) rfl
theorem dLaw_law_324 : decode (mcc mLaw_law) 324 = .ok (.iload_n 3, 1) := chkD_at kLaw_law_t2 (i := 16) rfl
theorem dLaw_law_325 : decode (mcc mLaw_law) 325 = .ok (.iconst 1, 1) := chkD_at kLaw_law_t2 (i := 17) rfl
theorem dLaw_law_326 : decode (mcc mLaw_law) 326 = .ok (.iadd, 1) := chkD_at kLaw_law_t2 (i := 18) rfl
theorem dLaw_law_327 : decode (mcc mLaw_law) 327 = .ok (.iaload, 1) := chkD_at kLaw_law_t2 (i := 19) rfl
theorem dLaw_law_328 : decode (mcc mLaw_law) 328 = .ok (.invokevirtual 27, 3) := chkD_at kLaw_law_t2 (i := 20) rfl
theorem dLaw_law_331 : decode (mcc mLaw_law) 331 = .ok (.pop, 1) := chkD_at kLaw_law_t2 (i := 21) rfl
theorem dLaw_law_332 : decode (mcc mLaw_law) 332 = .ok (.goto 1387, 3) := chkD_at kLaw_law_t2 (i := 22) rfl
theorem dLaw_law_335 : decode (mcc mLaw_law) 335 = .ok (.aload_n 1, 1) := chkD_at kLaw_law_t2 (i := 23) rfl
theorem dLaw_law_336 : decode (mcc mLaw_law) 336 = .ok (.aload_n 0, 1) := chkD_at kLaw_law_t2 (i := 24) rfl
theorem dLaw_law_337 : decode (mcc mLaw_law) 337 = .ok (.iload_n 3, 1) := chkD_at kLaw_law_t2 (i := 25) rfl
theorem dLaw_law_338 : decode (mcc mLaw_law) 338 = .ok (.iconst 1, 1) := chkD_at kLaw_law_t2 (i := 26) rfl
theorem dLaw_law_339 : decode (mcc mLaw_law) 339 = .ok (.iadd, 1) := chkD_at kLaw_law_t2 (i := 27) rfl
theorem dLaw_law_340 : decode (mcc mLaw_law) 340 = .ok (.iaload, 1) := chkD_at kLaw_law_t2 (i := 28) rfl
theorem dLaw_law_341 : decode (mcc mLaw_law) 341 = .ok (.invokevirtual 28, 3) := chkD_at kLaw_law_t2 (i := 29) rfl
theorem dLaw_law_344 : decode (mcc mLaw_law) 344 = .ok (.pop, 1) := chkD_at kLaw_law_t2 (i := 30) rfl
theorem dLaw_law_345 : decode (mcc mLaw_law) 345 = .ok (.aload_n 2, 1) := chkD_at kLaw_law_t2 (i := 31) rfl
theorem dLaw_law_346 : decode (mcc mLaw_law) 346 = .ok (.aload_n 0, 1) := chkD_at kLaw_law_t2 (i := 32) rfl
theorem dLaw_law_347 : decode (mcc mLaw_law) 347 = .ok (.iload_n 3, 1) := chkD_at kLaw_law_t2 (i := 33) rfl
theorem dLaw_law_348 : decode (mcc mLaw_law) 348 = .ok (.iconst 1, 1) := chkD_at kLaw_law_t2 (i := 34) rfl
theorem dLaw_law_349 : decode (mcc mLaw_law) 349 = .ok (.iadd, 1) := chkD_at kLaw_law_t2 (i := 35) rfl
theorem dLaw_law_350 : decode (mcc mLaw_law) 350 = .ok (.iaload, 1) := chkD_at kLaw_law_t2 (i := 36) rfl
theorem dLaw_law_351 : decode (mcc mLaw_law) 351 = .ok (.invokevirtual 31, 3) := chkD_at kLaw_law_t2 (i := 37) rfl
theorem dLaw_law_354 : decode (mcc mLaw_law) 354 = .ok (.pop, 1) := chkD_at kLaw_law_t2 (i := 38) rfl
theorem dLaw_law_355 : decode (mcc mLaw_law) 355 = .ok (.goto 1364, 3) := chkD_at kLaw_law_t2 (i := 39) rfl
def tLaw_law_t3 : List (Nat × Instr × Nat) := [(358, .aload_n 1, 1), (359, .aload_n 0, 1), (360, .iload_n 3, 1), (361, .iconst 1, 1), (362, .iadd, 1), (363, .iaload, 1), (364, .aload_n 0, 1), (365, .iload_n 3, 1), (366, .iconst 2, 1), (367, .iadd, 1), (368, .iaload, 1), (369, .aload_n 0, 1), (370, .iload_n 3, 1), (371, .iconst 3, 1), (372, .iadd, 1), (373, .iaload, 1), (374, .aload_n 0, 1), (375, .iload_n 3, 1), (376, .iconst 4, 1), (377, .iadd, 1), (378, .iaload, 1), (379, .aload_n 0, 1), (380, .iload_n 3, 1), (381, .iconst 5, 1), (382, .iadd, 1), (383, .iaload, 1), (384, .aload_n 0, 1), (385, .iload_n 3, 1), (386, .bipush 6, 2), (388, .iadd, 1), (389, .iaload, 1), (390, .invokevirtual 32, 3), (393, .pop, 1), (394, .aload_n 2, 1), (395, .aload_n 0, 1), (396, .iload_n 3, 1), (397, .iconst 1, 1), (398, .iadd, 1), (399, .iaload, 1), (400, .aload_n 0, 1)]
theorem kLaw_law_t3 : chkD (mcc mLaw_law) tLaw_law_t3 = true := by decide +kernel
theorem dLaw_law_358 : decode (mcc mLaw_law) 358 = .ok (.aload_n 1, 1) := chkD_at kLaw_law_t3 (i := 0) rfl
theorem dLaw_law_359 : decode (mcc mLaw_law) 359 = .ok (.aload_n 0, 1) := chkD_at kLaw_law_t3 (i := 1) rfl
theorem dLaw_law_360 : decode (mcc mLaw_law) 360 = .ok (.iload_n 3, 1) := chkD_at kLaw_law_t3 (i := 2) rfl
theorem dLaw_law_361 : decode (mcc mLaw_law) 361 = .ok (.iconst 1, 1) := chkD_at kLaw_law_t3 (i := 3) rfl
theorem dLaw_law_362 : decode (mcc mLaw_law) 362 = .ok (.iadd, 1) := chkD_at kLaw_law_t3 (i := 4) rfl
theorem dLaw_law_363 : decode (mcc mLaw_law) 363 = .ok (.iaload, 1) := chkD_at kLaw_law_t3 (i := 5) rfl
theorem dLaw_law_364 : decode (mcc mLaw_law) 364 = .ok (.aload_n 0, 1) := chkD_at kLaw_law_t3 (i := 6) rfl
theorem dLaw_law_365 : decode (mcc mLaw_law) 365 = .ok (.iload_n 3, 1) := chkD_at kLaw_law_t3 (i := 7) rfl
theorem dLaw_law_366 : decode (mcc mLaw_law) 366 = .ok (.iconst 2, 1) := chkD_at kLaw_law_t3 (i := 8) rfl
theorem dLaw_law_367 : decode (mcc mLaw_law) 367 = .ok (.iadd, 1) := chkD_at kLaw_law_t3 (i := 9) rfl
theorem dLaw_law_368 : decode (mcc mLaw_law) 368 = .ok (.iaload, 1) := chkD_at kLaw_law_t3 (i := 10) rfl
theorem dLaw_law_369 : decode (mcc mLaw_law) 369 = .ok (.aload_n 0, 1) := chkD_at kLaw_law_t3 (i := 11) rfl
theorem dLaw_law_370 : decode (mcc mLaw_law) 370 = .ok (.iload_n 3, 1) := chkD_at kLaw_law_t3 (i := 12) rfl
theorem dLaw_law_371 : decode (mcc mLaw_law) 371 = .ok (.iconst 3, 1) := chkD_at kLaw_law_t3 (i := 13) rfl
theorem dLaw_law_372 : decode (mcc mLaw_law) 372 = .ok (.iadd, 1) := chkD_at kLaw_law_t3 (i := 14) rfl
theorem dLaw_law_373 : decode (mcc mLaw_law) 373 = .ok (.iaload, 1) := chkD_at kLaw_law_t3 (i := 15) rfl
theorem dLaw_law_374 : decode (mcc mLaw_law) 374 = .ok (.aload_n 0, 1) := chkD_at kLaw_law_t3 (i := 16) rfl
theorem dLaw_law_375 : decode (mcc mLaw_law) 375 = .ok (.iload_n 3, 1) := chkD_at kLaw_law_t3 (i := 17) rfl
theorem dLaw_law_376 : decode (mcc mLaw_law) 376 = .ok (.iconst 4, 1) := chkD_at kLaw_law_t3 (i := 18) rfl
theorem dLaw_law_377 : decode (mcc mLaw_law) 377 = .ok (.iadd, 1) := chkD_at kLaw_law_t3 (i := 19) rfl
theorem dLaw_law_378 : decode (mcc mLaw_law) 378 = .ok (.iaload, 1) := chkD_at kLaw_law_t3 (i := 20) rfl
theorem dLaw_law_379 : decode (mcc mLaw_law) 379 = .ok (.aload_n 0, 1) := chkD_at kLaw_law_t3 (i := 21) rfl
theorem dLaw_law_380 : decode (mcc mLaw_law) 380 = .ok (.iload_n 3, 1) := chkD_at kLaw_law_t3 (i := 22) rfl
theorem dLaw_law_381 : decode (mcc mLaw_law) 381 = .ok (.iconst 5, 1) := chkD_at kLaw_law_t3 (i := 23) rfl
theorem dLaw_law_382 : decode (mcc mLaw_law) 382 = .ok (.iadd, 1) := chkD_at kLaw_law_t3 (i := 24) rfl
theorem dLaw_law_383 : decode (mcc mLaw_law) 383 = .ok (.iaload, 1) := chkD_at kLaw_law_t3 (i := 25) rfl
theorem dLaw_law_384 : decode (mcc mLaw_law) 384 = .ok (.aload_n 0, 1) := chkD_at kLaw_law_t3 (i := 26) rfl
theorem dLaw_law_385 : decode (mcc mLaw_law) 385 = .ok (.iload_n 3, 1) := chkD_at kLaw_law_t3 (i := 27) rfl
theorem dLaw_law_386 : decode (mcc mLaw_law) 386 = .ok (.bipush 6, 2) := chkD_at kLaw_law_t3 (i := 28) rfl
theorem dLaw_law_388 : decode (mcc mLaw_law) 388 = .ok (.iadd, 1) := chkD_at kLaw_law_t3 (i := 29) rfl
theorem dLaw_law_389 : decode (mcc mLaw_law) 389 = .ok (.iaload, 1) := chkD_at kLaw_law_t3 (i := 30) rfl
theorem dLaw_law_390 : decode (mcc mLaw_law) 390 = .ok (.invokevirtual 32, 3) := chkD_at kLaw_law_t3 (i := 31) rfl
theorem dLaw_law_393 : decode (mcc mLaw_law) 393 = .ok (.pop, 1) := chkD_at kLaw_law_t3 (i := 32) rfl
theorem dLaw_law_394 : decode (mcc mLaw_law) 394 = .ok (.aload_n 2, 1) := chkD_at kLaw_law_t3 (i := 33) rfl
theorem dLaw_law_395 : decode (mcc mLaw_law) 395 = .ok (.aload_n 0, 1) := chkD_at kLaw_law_t3 (i := 34) rfl
theorem dLaw_law_396 : decode (mcc mLaw_law) 396 = .ok (.iload_n 3, 1) := chkD_at kLaw_law_t3 (i := 35) rfl
theorem dLaw_law_397 : decode (mcc mLaw_law) 397 = .ok (.iconst 1, 1) := chkD_at kLaw_law_t3 (i := 36) rfl
theorem dLaw_law_398 : decode (mcc mLaw_law) 398 = .ok (.iadd, 1) := chkD_at kLaw_law_t3 (i := 37) rfl
theorem dLaw_law_399 : decode (mcc mLaw_law) 399 = .ok (.iaload, 1) := chkD_at kLaw_law_t3 (i := 38) rfl
theorem dLaw_law_400 : decode (mcc mLaw_law) 400 = .ok (.aload_n 0, 1) := chkD_at kLaw_law_t3 (i := 39) rfl
def tLaw_law_t4 : List (Nat × Instr × Nat) := [(401, .iload_n 3, 1), (402, .iconst 2, 1), (403, .iadd, 1), (404, .iaload, 1), (405, .aload_n 0, 1), (406, .iload_n 3, 1), (407, .iconst 3, 1), (408, .iadd, 1), (409, .iaload, 1), (410, .aload_n 0, 1), (411, .iload_n 3, 1), (412, .iconst 4, 1), (413, .iadd, 1), (414, .iaload, 1), (415, .aload_n 0, 1), (416, .iload_n 3, 1), (417, .iconst 5, 1), (418, .iadd, 1), (419, .iaload, 1), (420, .aload_n 0, 1), (421, .iload_n 3, 1), (422, .bipush 6, 2), (424, .iadd, 1), (425, .iaload, 1), (426, .invokevirtual 36, 3), (429, .pop, 1), (430, .goto 1289, 3), (433, .aload_n 1, 1), (434, .invokevirtual 37, 3), (437, .pop, 1), (438, .aload_n 2, 1), (439, .invokevirtual 41, 3), (442, .pop, 1), (443, .goto 1276, 3), (446, .aload_n 1, 1), (447, .aload_n 0, 1), (448, .iload_n 3, 1), (449, .iconst 1, 1), (450, .iadd, 1), (451, .iaload, 1)]
theorem kLaw_law_t4 : chkD (mcc mLaw_law) tLaw_law_t4 = true := by decide +kernel
theorem dLaw_law_401 : decode (mcc mLaw_law) 401 = .ok (.iload_n 3, 1) := chkD_at kLaw_law_t4 (i := 0) rfl
theorem dLaw_law_402 : decode (mcc mLaw_law) 402 = .ok (.iconst 2, 1) := chkD_at kLaw_law_t4 (i := 1) rfl
theorem dLaw_law_403 : decode (mcc mLaw_law) 403 = .ok (.iadd, 1) := chkD_at kLaw_law_t4 (i := 2) rfl
theorem dLaw_law_404 : decode (mcc mLaw_law) 404 = .ok (.iaload, 1) := chkD_at kLaw_law_t4 (i := 3) rfl
theorem dLaw_law_405 : decode (mcc mLaw_law) 405 = .ok (.aload_n 0, 1) := chkD_at kLaw_law_t4 (i := 4) rfl
theorem dLaw_law_406 : decode (mcc mLaw_law) 406 = .ok (.iload_n 3, 1) := chkD_at kLaw_law_t4 (i := 5) rfl
theorem dLaw_law_407 : decode (mcc mLaw_law) 407 = .ok (.iconst 3, 1) := chkD_at kLaw_law_t4 (i := 6) rfl
theorem dLaw_law_408 : decode (mcc mLaw_law) 408 = .ok (.iadd, 1) := chkD_at kLaw_law_t4 (i := 7) rfl
theorem dLaw_law_409 : decode (mcc mLaw_law) 409 = .ok (.iaload, 1) := chkD_at kLaw_law_t4 (i := 8) rfl
theorem dLaw_law_410 : decode (mcc mLaw_law) 410 = .ok (.aload_n 0, 1) := chkD_at kLaw_law_t4 (i := 9) rfl
theorem dLaw_law_411 : decode (mcc mLaw_law) 411 = .ok (.iload_n 3, 1) := chkD_at kLaw_law_t4 (i := 10) rfl
theorem dLaw_law_412 : decode (mcc mLaw_law) 412 = .ok (.iconst 4, 1) := chkD_at kLaw_law_t4 (i := 11) rfl
theorem dLaw_law_413 : decode (mcc mLaw_law) 413 = .ok (.iadd, 1) := chkD_at kLaw_law_t4 (i := 12) rfl
theorem dLaw_law_414 : decode (mcc mLaw_law) 414 = .ok (.iaload, 1) := chkD_at kLaw_law_t4 (i := 13) rfl
theorem dLaw_law_415 : decode (mcc mLaw_law) 415 = .ok (.aload_n 0, 1) := chkD_at kLaw_law_t4 (i := 14) rfl
theorem dLaw_law_416 : decode (mcc mLaw_law) 416 = .ok (.iload_n 3, 1) := chkD_at kLaw_law_t4 (i := 15) rfl
theorem dLaw_law_417 : decode (mcc mLaw_law) 417 = .ok (.iconst 5, 1) := chkD_at kLaw_law_t4 (i := 16) rfl
theorem dLaw_law_418 : decode (mcc mLaw_law) 418 = .ok (.iadd, 1) := chkD_at kLaw_law_t4 (i := 17) rfl
theorem dLaw_law_419 : decode (mcc mLaw_law) 419 = .ok (.iaload, 1) := chkD_at kLaw_law_t4 (i := 18) rfl
theorem dLaw_law_420 : decode (mcc mLaw_law) 420 = .ok (.aload_n 0, 1) := chkD_at kLaw_law_t4 (i := 19) rfl
theorem dLaw_law_421 : decode (mcc mLaw_law) 421 = .ok (.iload_n 3, 1) := chkD_at kLaw_law_t4 (i := 20) rfl
theorem dLaw_law_422 : decode (mcc mLaw_law) 422 = .ok (.bipush 6, 2) := chkD_at kLaw_law_t4 (i := 21) rfl
theorem dLaw_law_424 : decode (mcc mLaw_law) 424 = .ok (.iadd, 1) := chkD_at kLaw_law_t4 (i := 22) rfl
theorem dLaw_law_425 : decode (mcc mLaw_law) 425 = .ok (.iaload, 1) := chkD_at kLaw_law_t4 (i := 23) rfl
theorem dLaw_law_426 : decode (mcc mLaw_law) 426 = .ok (.invokevirtual 36, 3) := chkD_at kLaw_law_t4 (i := 24) rfl
theorem dLaw_law_429 : decode (mcc mLaw_law) 429 = .ok (.pop, 1) := chkD_at kLaw_law_t4 (i := 25) rfl
theorem dLaw_law_430 : decode (mcc mLaw_law) 430 = .ok (.goto 1289, 3) := chkD_at kLaw_law_t4 (i := 26) rfl
theorem dLaw_law_433 : decode (mcc mLaw_law) 433 = .ok (.aload_n 1, 1) := chkD_at kLaw_law_t4 (i := 27) rfl
theorem dLaw_law_434 : decode (mcc mLaw_law) 434 = .ok (.invokevirtual 37, 3) := chkD_at kLaw_law_t4 (i := 28) rfl
theorem dLaw_law_437 : decode (mcc mLaw_law) 437 = .ok (.pop, 1) := chkD_at kLaw_law_t4 (i := 29) rfl
theorem dLaw_law_438 : decode (mcc mLaw_law) 438 = .ok (.aload_n 2, 1) := chkD_at kLaw_law_t4 (i := 30) rfl
theorem dLaw_law_439 : decode (mcc mLaw_law) 439 = .ok (.invokevirtual 41, 3) := chkD_at kLaw_law_t4 (i := 31) rfl
theorem dLaw_law_442 : decode (mcc mLaw_law) 442 = .ok (.pop, 1) := chkD_at kLaw_law_t4 (i := 32) rfl
theorem dLaw_law_443 : decode (mcc mLaw_law) 443 = .ok (.goto 1276, 3) := chkD_at kLaw_law_t4 (i := 33) rfl
theorem dLaw_law_446 : decode (mcc mLaw_law) 446 = .ok (.aload_n 1, 1) := chkD_at kLaw_law_t4 (i := 34) rfl
theorem dLaw_law_447 : decode (mcc mLaw_law) 447 = .ok (.aload_n 0, 1) := chkD_at kLaw_law_t4 (i := 35) rfl
theorem dLaw_law_448 : decode (mcc mLaw_law) 448 = .ok (.iload_n 3, 1) := chkD_at kLaw_law_t4 (i := 36) rfl
theorem dLaw_law_449 : decode (mcc mLaw_law) 449 = .ok (.iconst 1, 1) := chkD_at kLaw_law_t4 (i := 37) rfl
theorem dLaw_law_450 : decode (mcc mLaw_law) 450 = .ok (.iadd, 1) := chkD_at kLaw_law_t4 (i := 38) rfl
theorem dLaw_law_451 : decode (mcc mLaw_law) 451 = .ok (.iaload, 1) := chkD_at kLaw_law_t4 (i := 39) rfl
def tLaw_law_t5 : List (Nat × Instr × Nat) := [(452, .invokevirtual 42, 3), (455, .pop, 1), (456, .aload_n 2, 1), (457, .aload_n 0, 1), (458, .iload_n 3, 1), (459, .iconst 1, 1), (460, .iadd, 1), (461, .iaload, 1), (462, .invokevirtual 45, 3), (465, .pop, 1), (466, .goto 1253, 3), (469, .aload_n 1, 1), (470, .aload_n 0, 1), (471, .iload_n 3, 1), (472, .iconst 1, 1), (473, .iadd, 1), (474, .iaload, 1), (475, .aload_n 0, 1), (476, .iload_n 3, 1), (477, .iconst 2, 1), (478, .iadd, 1), (479, .iaload, 1), (480, .aload_n 0, 1), (481, .iload_n 3, 1), (482, .iconst 3, 1), (483, .iadd, 1), (484, .iaload, 1), (485, .aload_n 0, 1), (486, .iload_n 3, 1), (487, .iconst 4, 1), (488, .iadd, 1), (489, .iaload, 1), (490, .invokevirtual 46, 3), (493, .pop, 1), (494, .aload_n 2, 1), (495, .aload_n 0, 1), (496, .iload_n 3, 1), (497, .iconst 1, 1), (498, .iadd, 1), (499, .iaload, 1)]
theorem kLaw_law_t5 : chkD (mcc mLaw_law) tLaw_law_t5 = true := by decide +kernel
theorem dLaw_law_452 : decode (mcc mLaw_law) 452 = .ok (.invokevirtual 42, 3) := chkD_at kLaw_law_t5 (i := 0) rfl
theorem dLaw_law_455 : decode (mcc mLaw_law) 455 = .ok (.pop, 1) := chkD_at kLaw_law_t5 (i := 1) rfl
theorem dLaw_law_456 : decode (mcc mLaw_law) 456 = .ok (.aload_n 2, 1) := chkD_at kLaw_law_t5 (i := 2) rfl
theorem dLaw_law_457 : decode (mcc mLaw_law) 457 = .ok (.aload_n 0, 1) := chkD_at kLaw_law_t5 (i := 3) rfl
theorem dLaw_law_458 : decode (mcc mLaw_law) 458 = .ok (.iload_n 3, 1) := chkD_at kLaw_law_t5 (i := 4) rfl
theorem dLaw_law_459 : decode (mcc mLaw_law) 459 = .ok (.iconst 1, 1) := chkD_at kLaw_law_t5 (i := 5) rfl
theorem dLaw_law_460 : decode (mcc mLaw_law) 460 = .ok (.iadd, 1) := chkD_at kLaw_law_t5 (i := 6) rfl
theorem dLaw_law_461 : decode (mcc mLaw_law) 461 = .ok (.iaload, 1) := chkD_at kLaw_law_t5 (i := 7) rfl
theorem dLaw_law_462 : decode (mcc mLaw_law) 462 = .ok (.invokevirtual 45, 3) := chkD_at kLaw_law_t5 (i := 8) rfl
theorem dLaw_law_465 : decode (mcc mLaw_law) 465 = .ok (.pop, 1) := chkD_at kLaw_law_t5 (i := 9) rfl
theorem dLaw_law_466 : decode (mcc mLaw_law) 466 = .ok (.goto 1253, 3) := chkD_at kLaw_law_t5 (i := 10) rfl
theorem dLaw_law_469 : decode (mcc mLaw_law) 469 = .ok (.aload_n 1, 1) := chkD_at kLaw_law_t5 (i := 11) rfl
theorem dLaw_law_470 : decode (mcc mLaw_law) 470 = .ok (.aload_n 0, 1) := chkD_at kLaw_law_t5 (i := 12) rfl
theorem dLaw_law_471 : decode (mcc mLaw_law) 471 = .ok (.iload_n 3, 1) := chkD_at kLaw_law_t5 (i := 13) rfl
theorem dLaw_law_472 : decode (mcc mLaw_law) 472 = .ok (.iconst 1, 1) := chkD_at kLaw_law_t5 (i := 14) rfl
theorem dLaw_law_473 : decode (mcc mLaw_law) 473 = .ok (.iadd, 1) := chkD_at kLaw_law_t5 (i := 15) rfl
theorem dLaw_law_474 : decode (mcc mLaw_law) 474 = .ok (.iaload, 1) := chkD_at kLaw_law_t5 (i := 16) rfl
theorem dLaw_law_475 : decode (mcc mLaw_law) 475 = .ok (.aload_n 0, 1) := chkD_at kLaw_law_t5 (i := 17) rfl
theorem dLaw_law_476 : decode (mcc mLaw_law) 476 = .ok (.iload_n 3, 1) := chkD_at kLaw_law_t5 (i := 18) rfl
theorem dLaw_law_477 : decode (mcc mLaw_law) 477 = .ok (.iconst 2, 1) := chkD_at kLaw_law_t5 (i := 19) rfl
theorem dLaw_law_478 : decode (mcc mLaw_law) 478 = .ok (.iadd, 1) := chkD_at kLaw_law_t5 (i := 20) rfl
theorem dLaw_law_479 : decode (mcc mLaw_law) 479 = .ok (.iaload, 1) := chkD_at kLaw_law_t5 (i := 21) rfl
theorem dLaw_law_480 : decode (mcc mLaw_law) 480 = .ok (.aload_n 0, 1) := chkD_at kLaw_law_t5 (i := 22) rfl
theorem dLaw_law_481 : decode (mcc mLaw_law) 481 = .ok (.iload_n 3, 1) := chkD_at kLaw_law_t5 (i := 23) rfl
theorem dLaw_law_482 : decode (mcc mLaw_law) 482 = .ok (.iconst 3, 1) := chkD_at kLaw_law_t5 (i := 24) rfl
theorem dLaw_law_483 : decode (mcc mLaw_law) 483 = .ok (.iadd, 1) := chkD_at kLaw_law_t5 (i := 25) rfl
theorem dLaw_law_484 : decode (mcc mLaw_law) 484 = .ok (.iaload, 1) := chkD_at kLaw_law_t5 (i := 26) rfl
theorem dLaw_law_485 : decode (mcc mLaw_law) 485 = .ok (.aload_n 0, 1) := chkD_at kLaw_law_t5 (i := 27) rfl
theorem dLaw_law_486 : decode (mcc mLaw_law) 486 = .ok (.iload_n 3, 1) := chkD_at kLaw_law_t5 (i := 28) rfl
theorem dLaw_law_487 : decode (mcc mLaw_law) 487 = .ok (.iconst 4, 1) := chkD_at kLaw_law_t5 (i := 29) rfl
theorem dLaw_law_488 : decode (mcc mLaw_law) 488 = .ok (.iadd, 1) := chkD_at kLaw_law_t5 (i := 30) rfl
theorem dLaw_law_489 : decode (mcc mLaw_law) 489 = .ok (.iaload, 1) := chkD_at kLaw_law_t5 (i := 31) rfl
theorem dLaw_law_490 : decode (mcc mLaw_law) 490 = .ok (.invokevirtual 46, 3) := chkD_at kLaw_law_t5 (i := 32) rfl
theorem dLaw_law_493 : decode (mcc mLaw_law) 493 = .ok (.pop, 1) := chkD_at kLaw_law_t5 (i := 33) rfl
theorem dLaw_law_494 : decode (mcc mLaw_law) 494 = .ok (.aload_n 2, 1) := chkD_at kLaw_law_t5 (i := 34) rfl
theorem dLaw_law_495 : decode (mcc mLaw_law) 495 = .ok (.aload_n 0, 1) := chkD_at kLaw_law_t5 (i := 35) rfl
theorem dLaw_law_496 : decode (mcc mLaw_law) 496 = .ok (.iload_n 3, 1) := chkD_at kLaw_law_t5 (i := 36) rfl
theorem dLaw_law_497 : decode (mcc mLaw_law) 497 = .ok (.iconst 1, 1) := chkD_at kLaw_law_t5 (i := 37) rfl
theorem dLaw_law_498 : decode (mcc mLaw_law) 498 = .ok (.iadd, 1) := chkD_at kLaw_law_t5 (i := 38) rfl
theorem dLaw_law_499 : decode (mcc mLaw_law) 499 = .ok (.iaload, 1) := chkD_at kLaw_law_t5 (i := 39) rfl
def tLaw_law_t6 : List (Nat × Instr × Nat) := [(500, .aload_n 0, 1), (501, .iload_n 3, 1), (502, .iconst 2, 1), (503, .iadd, 1), (504, .iaload, 1), (505, .aload_n 0, 1), (506, .iload_n 3, 1), (507, .iconst 3, 1), (508, .iadd, 1), (509, .iaload, 1), (510, .aload_n 0, 1), (511, .iload_n 3, 1), (512, .iconst 4, 1), (513, .iadd, 1), (514, .iaload, 1), (515, .invokevirtual 50, 3), (518, .pop, 1), (519, .goto 1200, 3), (522, .aload_n 1, 1), (523, .aload_n 0, 1), (524, .iload_n 3, 1), (525, .iconst 1, 1), (526, .iadd, 1), (527, .iaload, 1), (528, .aload_n 0, 1), (529, .iload_n 3, 1), (530, .iconst 2, 1), (531, .iadd, 1), (532, .iaload, 1), (533, .invokevirtual 51, 3), (536, .pop, 1), (537, .aload_n 2, 1), (538, .aload_n 0, 1), (539, .iload_n 3, 1), (540, .iconst 1, 1), (541, .iadd, 1), (542, .iaload, 1), (543, .aload_n 0, 1), (544, .iload_n 3, 1), (545, .iconst 2, 1)]
theorem kLaw_law_t6 : chkD (mcc mLaw_law) tLaw_law_t6 = true := by decide +kernel
theorem dLaw_law_500 : decode (mcc mLaw_law) 500 = .ok (.aload_n 0, 1) := chkD_at kLaw_law_t6 (i := 0) rfl
theorem dLaw_law_501 : decode (mcc mLaw_law) 501 = .ok (.iload_n 3, 1) := chkD_at kLaw_law_t6 (i := 1) rfl
theorem dLaw_law_502 : decode (mcc mLaw_law) 502 = .ok (.iconst 2, 1) := chkD_at kLaw_law_t6 (i := 2) rfl
theorem dLaw_law_503 : decode (mcc mLaw_law) 503 = .ok (.iadd, 1) := chkD_at kLaw_law_t6 (i := 3) rfl
theorem dLaw_law_504 : decode (mcc mLaw_law) 504 = .ok (.iaload, 1) := chkD_at kLaw_law_t6 (i := 4) rfl
theorem dLaw_law_505 : decode (mcc mLaw_law) 505 = .ok (.aload_n 0, 1) := chkD_at kLaw_law_t6 (i := 5) rfl
theorem dLaw_law_506 : decode (mcc mLaw_law) 506 = .ok (.iload_n 3, 1) := chkD_at kLaw_law_t6 (i := 6) rfl
theorem dLaw_law_507 : decode (mcc mLaw_law) 507 = .ok (.iconst 3, 1) := chkD_at kLaw_law_t6 (i := 7) rfl
theorem dLaw_law_508 : decode (mcc mLaw_law) 508 = .ok (.iadd, 1) := chkD_at kLaw_law_t6 (i := 8) rfl
theorem dLaw_law_509 : decode (mcc mLaw_law) 509 = .ok (.iaload, 1) := chkD_at kLaw_law_t6 (i := 9) rfl
theorem dLaw_law_510 : decode (mcc mLaw_law) 510 = .ok (.aload_n 0, 1) := chkD_at kLaw_law_t6 (i := 10) rfl
theorem dLaw_law_511 : decode (mcc mLaw_law) 511 = .ok (.iload_n 3, 1) := chkD_at kLaw_law_t6 (i := 11) rfl
theorem dLaw_law_512 : decode (mcc mLaw_law) 512 = .ok (.iconst 4, 1) := chkD_at kLaw_law_t6 (i := 12) rfl
theorem dLaw_law_513 : decode (mcc mLaw_law) 513 = .ok (.iadd, 1) := chkD_at kLaw_law_t6 (i := 13) rfl
theorem dLaw_law_514 : decode (mcc mLaw_law) 514 = .ok (.iaload, 1) := chkD_at kLaw_law_t6 (i := 14) rfl
theorem dLaw_law_515 : decode (mcc mLaw_law) 515 = .ok (.invokevirtual 50, 3) := chkD_at kLaw_law_t6 (i := 15) rfl
theorem dLaw_law_518 : decode (mcc mLaw_law) 518 = .ok (.pop, 1) := chkD_at kLaw_law_t6 (i := 16) rfl
theorem dLaw_law_519 : decode (mcc mLaw_law) 519 = .ok (.goto 1200, 3) := chkD_at kLaw_law_t6 (i := 17) rfl
theorem dLaw_law_522 : decode (mcc mLaw_law) 522 = .ok (.aload_n 1, 1) := chkD_at kLaw_law_t6 (i := 18) rfl
theorem dLaw_law_523 : decode (mcc mLaw_law) 523 = .ok (.aload_n 0, 1) := chkD_at kLaw_law_t6 (i := 19) rfl
theorem dLaw_law_524 : decode (mcc mLaw_law) 524 = .ok (.iload_n 3, 1) := chkD_at kLaw_law_t6 (i := 20) rfl
theorem dLaw_law_525 : decode (mcc mLaw_law) 525 = .ok (.iconst 1, 1) := chkD_at kLaw_law_t6 (i := 21) rfl
theorem dLaw_law_526 : decode (mcc mLaw_law) 526 = .ok (.iadd, 1) := chkD_at kLaw_law_t6 (i := 22) rfl
theorem dLaw_law_527 : decode (mcc mLaw_law) 527 = .ok (.iaload, 1) := chkD_at kLaw_law_t6 (i := 23) rfl
theorem dLaw_law_528 : decode (mcc mLaw_law) 528 = .ok (.aload_n 0, 1) := chkD_at kLaw_law_t6 (i := 24) rfl
theorem dLaw_law_529 : decode (mcc mLaw_law) 529 = .ok (.iload_n 3, 1) := chkD_at kLaw_law_t6 (i := 25) rfl
theorem dLaw_law_530 : decode (mcc mLaw_law) 530 = .ok (.iconst 2, 1) := chkD_at kLaw_law_t6 (i := 26) rfl
theorem dLaw_law_531 : decode (mcc mLaw_law) 531 = .ok (.iadd, 1) := chkD_at kLaw_law_t6 (i := 27) rfl
theorem dLaw_law_532 : decode (mcc mLaw_law) 532 = .ok (.iaload, 1) := chkD_at kLaw_law_t6 (i := 28) rfl
theorem dLaw_law_533 : decode (mcc mLaw_law) 533 = .ok (.invokevirtual 51, 3) := chkD_at kLaw_law_t6 (i := 29) rfl
theorem dLaw_law_536 : decode (mcc mLaw_law) 536 = .ok (.pop, 1) := chkD_at kLaw_law_t6 (i := 30) rfl
theorem dLaw_law_537 : decode (mcc mLaw_law) 537 = .ok (.aload_n 2, 1) := chkD_at kLaw_law_t6 (i := 31) rfl
theorem dLaw_law_538 : decode (mcc mLaw_law) 538 = .ok (.aload_n 0, 1) := chkD_at kLaw_law_t6 (i := 32) rfl
theorem dLaw_law_539 : decode (mcc mLaw_law) 539 = .ok (.iload_n 3, 1) := chkD_at kLaw_law_t6 (i := 33) rfl
theorem dLaw_law_540 : decode (mcc mLaw_law) 540 = .ok (.iconst 1, 1) := chkD_at kLaw_law_t6 (i := 34) rfl
theorem dLaw_law_541 : decode (mcc mLaw_law) 541 = .ok (.iadd, 1) := chkD_at kLaw_law_t6 (i := 35) rfl
theorem dLaw_law_542 : decode (mcc mLaw_law) 542 = .ok (.iaload, 1) := chkD_at kLaw_law_t6 (i := 36) rfl
theorem dLaw_law_543 : decode (mcc mLaw_law) 543 = .ok (.aload_n 0, 1) := chkD_at kLaw_law_t6 (i := 37) rfl
theorem dLaw_law_544 : decode (mcc mLaw_law) 544 = .ok (.iload_n 3, 1) := chkD_at kLaw_law_t6 (i := 38) rfl
theorem dLaw_law_545 : decode (mcc mLaw_law) 545 = .ok (.iconst 2, 1) := chkD_at kLaw_law_t6 (i := 39) rfl
def tLaw_law_t7 : List (Nat × Instr × Nat) := [(546, .iadd, 1), (547, .iaload, 1), (548, .invokevirtual 54, 3), (551, .pop, 1), (552, .goto 1167, 3), (555, .aload_n 1, 1), (556, .aload_n 0, 1), (557, .iload_n 3, 1), (558, .iconst 1, 1), (559, .iadd, 1), (560, .iaload, 1), (561, .aload_n 0, 1), (562, .iload_n 3, 1), (563, .iconst 2, 1), (564, .iadd, 1), (565, .iaload, 1), (566, .invokevirtual 55, 3), (569, .pop, 1), (570, .aload_n 2, 1), (571, .aload_n 0, 1), (572, .iload_n 3, 1), (573, .iconst 1, 1), (574, .iadd, 1), (575, .iaload, 1), (576, .aload_n 0, 1), (577, .iload_n 3, 1), (578, .iconst 2, 1), (579, .iadd, 1), (580, .iaload, 1), (581, .invokevirtual 58, 3), (584, .pop, 1), (585, .goto 1134, 3), (588, .aload_n 1, 1), (589, .aload_n 0, 1), (590, .iload_n 3, 1), (591, .iconst 1, 1), (592, .iadd, 1), (593, .iaload, 1), (594, .aload_n 0, 1), (595, .iload_n 3, 1)]
theorem kLaw_law_t7 : chkD (mcc mLaw_law) tLaw_law_t7 = true := by decide +kernel
theorem dLaw_law_546 : decode (mcc mLaw_law) 546 = .ok (.iadd, 1) := chkD_at kLaw_law_t7 (i := 0) rfl
theorem dLaw_law_547 : decode (mcc mLaw_law) 547 = .ok (.iaload, 1) := chkD_at kLaw_law_t7 (i := 1) rfl
theorem dLaw_law_548 : decode (mcc mLaw_law) 548 = .ok (.invokevirtual 54, 3) := chkD_at kLaw_law_t7 (i := 2) rfl
theorem dLaw_law_551 : decode (mcc mLaw_law) 551 = .ok (.pop, 1) := chkD_at kLaw_law_t7 (i := 3) rfl
theorem dLaw_law_552 : decode (mcc mLaw_law) 552 = .ok (.goto 1167, 3) := chkD_at kLaw_law_t7 (i := 4) rfl
theorem dLaw_law_555 : decode (mcc mLaw_law) 555 = .ok (.aload_n 1, 1) := chkD_at kLaw_law_t7 (i := 5) rfl
theorem dLaw_law_556 : decode (mcc mLaw_law) 556 = .ok (.aload_n 0, 1) := chkD_at kLaw_law_t7 (i := 6) rfl
theorem dLaw_law_557 : decode (mcc mLaw_law) 557 = .ok (.iload_n 3, 1) := chkD_at kLaw_law_t7 (i := 7) rfl
theorem dLaw_law_558 : decode (mcc mLaw_law) 558 = .ok (.iconst 1, 1) := chkD_at kLaw_law_t7 (i := 8) rfl
theorem dLaw_law_559 : decode (mcc mLaw_law) 559 = .ok (.iadd, 1) := chkD_at kLaw_law_t7 (i := 9) rfl
theorem dLaw_law_560 : decode (mcc mLaw_law) 560 = .ok (.iaload, 1) := chkD_at kLaw_law_t7 (i := 10) rfl
theorem dLaw_law_561 : decode (mcc mLaw_law) 561 = .ok (.aload_n 0, 1) := chkD_at kLaw_law_t7 (i := 11) rfl
theorem dLaw_law_562 : decode (mcc mLaw_law) 562 = .ok (.iload_n 3, 1) := chkD_at kLaw_law_t7 (i := 12) rfl
theorem dLaw_law_563 : decode (mcc mLaw_law) 563 = .ok (.iconst 2, 1) := chkD_at kLaw_law_t7 (i := 13) rfl
theorem dLaw_law_564 : decode (mcc mLaw_law) 564 = .ok (.iadd, 1) := chkD_at kLaw_law_t7 (i := 14) rfl
theorem dLaw_law_565 : decode (mcc mLaw_law) 565 = .ok (.iaload, 1) := chkD_at kLaw_law_t7 (i := 15) rfl
theorem dLaw_law_566 : decode (mcc mLaw_law) 566 = .ok (.invokevirtual 55, 3) := chkD_at kLaw_law_t7 (i := 16) rfl
theorem dLaw_law_569 : decode (mcc mLaw_law) 569 = .ok (.pop, 1) := chkD_at kLaw_law_t7 (i := 17) rfl
theorem dLaw_law_570 : decode (mcc mLaw_law) 570 = .ok (.aload_n 2, 1) := chkD_at kLaw_law_t7 (i := 18) rfl
theorem dLaw_law_571 : decode (mcc mLaw_law) 571 = .ok (.aload_n 0, 1) := chkD_at kLaw_law_t7 (i := 19) rfl
theorem dLaw_law_572 : decode (mcc mLaw_law) 572 = .ok (.iload_n 3, 1) := chkD_at kLaw_law_t7 (i := 20) rfl
theorem dLaw_law_573 : decode (mcc mLaw_law) 573 = .ok (.iconst 1, 1) := chkD_at kLaw_law_t7 (i := 21) rfl
theorem dLaw_law_574 : decode (mcc mLaw_law) 574 = .ok (.iadd, 1) := chkD_at kLaw_law_t7 (i := 22) rfl
theorem dLaw_law_575 : decode (mcc mLaw_law) 575 = .ok (.iaload, 1) := chkD_at kLaw_law_t7 (i := 23) rfl
theorem dLaw_law_576 : decode (mcc mLaw_law) 576 = .ok (.aload_n 0, 1) := chkD_at kLaw_law_t7 (i := 24) rfl
theorem dLaw_law_577 : decode (mcc mLaw_law) 577 = .ok (.iload_n 3, 1) := chkD_at kLaw_law_t7 (i := 25) rfl
theorem dLaw_law_578 : decode (mcc mLaw_law) 578 = .ok (.iconst 2, 1) := chkD_at kLaw_law_t7 (i := 26) rfl
theorem dLaw_law_579 : decode (mcc mLaw_law) 579 = .ok (.iadd, 1) := chkD_at kLaw_law_t7 (i := 27) rfl
theorem dLaw_law_580 : decode (mcc mLaw_law) 580 = .ok (.iaload, 1) := chkD_at kLaw_law_t7 (i := 28) rfl
theorem dLaw_law_581 : decode (mcc mLaw_law) 581 = .ok (.invokevirtual 58, 3) := chkD_at kLaw_law_t7 (i := 29) rfl
theorem dLaw_law_584 : decode (mcc mLaw_law) 584 = .ok (.pop, 1) := chkD_at kLaw_law_t7 (i := 30) rfl
theorem dLaw_law_585 : decode (mcc mLaw_law) 585 = .ok (.goto 1134, 3) := chkD_at kLaw_law_t7 (i := 31) rfl
theorem dLaw_law_588 : decode (mcc mLaw_law) 588 = .ok (.aload_n 1, 1) := chkD_at kLaw_law_t7 (i := 32) rfl
theorem dLaw_law_589 : decode (mcc mLaw_law) 589 = .ok (.aload_n 0, 1) := chkD_at kLaw_law_t7 (i := 33) rfl
theorem dLaw_law_590 : decode (mcc mLaw_law) 590 = .ok (.iload_n 3, 1) := chkD_at kLaw_law_t7 (i := 34) rfl
theorem dLaw_law_591 : decode (mcc mLaw_law) 591 = .ok (.iconst 1, 1) := chkD_at kLaw_law_t7 (i := 35) rfl
theorem dLaw_law_592 : decode (mcc mLaw_law) 592 = .ok (.iadd, 1) := chkD_at kLaw_law_t7 (i := 36) rfl
theorem dLaw_law_593 : decode (mcc mLaw_law) 593 = .ok (.iaload, 1) := chkD_at kLaw_law_t7 (i := 37) rfl
theorem dLaw_law_594 : decode (mcc mLaw_law) 594 = .ok (.aload_n 0, 1) := chkD_at kLaw_law_t7 (i := 38) rfl
theorem dLaw_law_595 : decode (mcc mLaw_law) 595 = .ok (.iload_n 3, 1) := chkD_at kLaw_law_t7 (i := 39) rfl
def tLaw_law_t8 : List (Nat × Instr × Nat) := [(596, .iconst 2, 1), (597, .iadd, 1), (598, .iaload, 1), (599, .aload_n 0, 1), (600, .iload_n 3, 1), (601, .iconst 3, 1), (602, .iadd, 1), (603, .iaload, 1), (604, .aload_n 0, 1), (605, .iload_n 3, 1), (606, .iconst 4, 1), (607, .iadd, 1), (608, .iaload, 1), (609, .invokevirtual 59, 3), (612, .pop, 1), (613, .aload_n 2, 1), (614, .aload_n 0, 1), (615, .iload_n 3, 1), (616, .iconst 1, 1), (617, .iadd, 1), (618, .iaload, 1), (619, .aload_n 0, 1), (620, .iload_n 3, 1), (621, .iconst 2, 1), (622, .iadd, 1), (623, .iaload, 1), (624, .aload_n 0, 1), (625, .iload_n 3, 1), (626, .iconst 3, 1), (627, .iadd, 1), (628, .iaload, 1), (629, .aload_n 0, 1), (630, .iload_n 3, 1), (631, .iconst 4, 1), (632, .iadd, 1), (633, .iaload, 1), (634, .invokevirtual 62, 3), (637, .pop, 1), (638, .goto 1081, 3), (641, .aload_n 1, 1)]
theorem kLaw_law_t8 : chkD (mcc mLaw_law) tLaw_law_t8 = true := by decide +kernel
theorem dLaw_law_596 : decode (mcc mLaw_law) 596 = .ok (.iconst 2, 1) := chkD_at kLaw_law_t8 (i := 0) rfl
theorem dLaw_law_597 : decode (mcc mLaw_law) 597 = .ok (.iadd, 1) := chkD_at kLaw_law_t8 (i := 1) rfl
theorem dLaw_law_598 : decode (mcc mLaw_law) 598 = .ok (.iaload, 1) := chkD_at kLaw_law_t8 (i := 2) rfl
theorem dLaw_law_599 : decode (mcc mLaw_law) 599 = .ok (.aload_n 0, 1) := chkD_at kLaw_law_t8 (i := 3) rfl
theorem dLaw_law_600 : decode (mcc mLaw_law) 600 = .ok (.iload_n 3, 1) := chkD_at kLaw_law_t8 (i := 4) rfl
theorem dLaw_law_601 : decode (mcc mLaw_law) 601 = .ok (.iconst 3, 1) := chkD_at kLaw_law_t8 (i := 5) rfl
theorem dLaw_law_602 : decode (mcc mLaw_law) 602 = .ok (.iadd, 1) := chkD_at kLaw_law_t8 (i := 6) rfl
theorem dLaw_law_603 : decode (mcc mLaw_law) 603 = .ok (.iaload, 1) := chkD_at kLaw_law_t8 (i := 7) rfl
theorem dLaw_law_604 : decode (mcc mLaw_law) 604 = .ok (.aload_n 0, 1) := chkD_at kLaw_law_t8 (i := 8) rfl
theorem dLaw_law_605 : decode (mcc mLaw_law) 605 = .ok (.iload_n 3, 1) := chkD_at kLaw_law_t8 (i := 9) rfl
theorem dLaw_law_606 : decode (mcc mLaw_law) 606 = .ok (.iconst 4, 1) := chkD_at kLaw_law_t8 (i := 10) rfl
theorem dLaw_law_607 : decode (mcc mLaw_law) 607 = .ok (.iadd, 1) := chkD_at kLaw_law_t8 (i := 11) rfl
theorem dLaw_law_608 : decode (mcc mLaw_law) 608 = .ok (.iaload, 1) := chkD_at kLaw_law_t8 (i := 12) rfl
theorem dLaw_law_609 : decode (mcc mLaw_law) 609 = .ok (.invokevirtual 59, 3) := chkD_at kLaw_law_t8 (i := 13) rfl
theorem dLaw_law_612 : decode (mcc mLaw_law) 612 = .ok (.pop, 1) := chkD_at kLaw_law_t8 (i := 14) rfl
theorem dLaw_law_613 : decode (mcc mLaw_law) 613 = .ok (.aload_n 2, 1) := chkD_at kLaw_law_t8 (i := 15) rfl
theorem dLaw_law_614 : decode (mcc mLaw_law) 614 = .ok (.aload_n 0, 1) := chkD_at kLaw_law_t8 (i := 16) rfl
theorem dLaw_law_615 : decode (mcc mLaw_law) 615 = .ok (.iload_n 3, 1) := chkD_at kLaw_law_t8 (i := 17) rfl
theorem dLaw_law_616 : decode (mcc mLaw_law) 616 = .ok (.iconst 1, 1) := chkD_at kLaw_law_t8 (i := 18) rfl
theorem dLaw_law_617 : decode (mcc mLaw_law) 617 = .ok (.iadd, 1) := chkD_at kLaw_law_t8 (i := 19) rfl
theorem dLaw_law_618 : decode (mcc mLaw_law) 618 = .ok (.iaload, 1) := chkD_at kLaw_law_t8 (i := 20) rfl
theorem dLaw_law_619 : decode (mcc mLaw_law) 619 = .ok (.aload_n 0, 1) := chkD_at kLaw_law_t8 (i := 21) rfl
theorem dLaw_law_620 : decode (mcc mLaw_law) 620 = .ok (.iload_n 3, 1) := chkD_at kLaw_law_t8 (i := 22) rfl
theorem dLaw_law_621 : decode (mcc mLaw_law) 621 = .ok (.iconst 2, 1) := chkD_at kLaw_law_t8 (i := 23) rfl
theorem dLaw_law_622 : decode (mcc mLaw_law) 622 = .ok (.iadd, 1) := chkD_at kLaw_law_t8 (i := 24) rfl
theorem dLaw_law_623 : decode (mcc mLaw_law) 623 = .ok (.iaload, 1) := chkD_at kLaw_law_t8 (i := 25) rfl
theorem dLaw_law_624 : decode (mcc mLaw_law) 624 = .ok (.aload_n 0, 1) := chkD_at kLaw_law_t8 (i := 26) rfl
theorem dLaw_law_625 : decode (mcc mLaw_law) 625 = .ok (.iload_n 3, 1) := chkD_at kLaw_law_t8 (i := 27) rfl
theorem dLaw_law_626 : decode (mcc mLaw_law) 626 = .ok (.iconst 3, 1) := chkD_at kLaw_law_t8 (i := 28) rfl
theorem dLaw_law_627 : decode (mcc mLaw_law) 627 = .ok (.iadd, 1) := chkD_at kLaw_law_t8 (i := 29) rfl
theorem dLaw_law_628 : decode (mcc mLaw_law) 628 = .ok (.iaload, 1) := chkD_at kLaw_law_t8 (i := 30) rfl
theorem dLaw_law_629 : decode (mcc mLaw_law) 629 = .ok (.aload_n 0, 1) := chkD_at kLaw_law_t8 (i := 31) rfl
theorem dLaw_law_630 : decode (mcc mLaw_law) 630 = .ok (.iload_n 3, 1) := chkD_at kLaw_law_t8 (i := 32) rfl
theorem dLaw_law_631 : decode (mcc mLaw_law) 631 = .ok (.iconst 4, 1) := chkD_at kLaw_law_t8 (i := 33) rfl
theorem dLaw_law_632 : decode (mcc mLaw_law) 632 = .ok (.iadd, 1) := chkD_at kLaw_law_t8 (i := 34) rfl
theorem dLaw_law_633 : decode (mcc mLaw_law) 633 = .ok (.iaload, 1) := chkD_at kLaw_law_t8 (i := 35) rfl
theorem dLaw_law_634 : decode (mcc mLaw_law) 634 = .ok (.invokevirtual 62, 3) := chkD_at kLaw_law_t8 (i := 36) rfl
theorem dLaw_law_637 : decode (mcc mLaw_law) 637 = .ok (.pop, 1) := chkD_at kLaw_law_t8 (i := 37) rfl
theorem dLaw_law_638 : decode (mcc mLaw_law) 638 = .ok (.goto 1081, 3) := chkD_at kLaw_law_t8 (i := 38) rfl
theorem dLaw_law_641 : decode (mcc mLaw_law) 641 = .ok (.aload_n 1, 1) := chkD_at kLaw_law_t8 (i := 39) rfl
def tLaw_law_t9 : List (Nat × Instr × Nat) := [(642, .aload_n 0, 1), (643, .iload_n 3, 1), (644, .iconst 1, 1), (645, .iadd, 1), (646, .iaload, 1), (647, .aload_n 0, 1), (648, .iload_n 3, 1), (649, .iconst 2, 1), (650, .iadd, 1), (651, .iaload, 1), (652, .invokevirtual 63, 3), (655, .pop, 1), (656, .aload_n 2, 1), (657, .aload_n 0, 1), (658, .iload_n 3, 1), (659, .iconst 1, 1), (660, .iadd, 1), (661, .iaload, 1), (662, .aload_n 0, 1), (663, .iload_n 3, 1), (664, .iconst 2, 1), (665, .iadd, 1), (666, .iaload, 1), (667, .invokevirtual 66, 3), (670, .pop, 1), (671, .goto 1048, 3), (674, .aload_n 1, 1), (675, .aload_n 0, 1), (676, .iload_n 3, 1), (677, .iconst 1, 1), (678, .iadd, 1), (679, .iaload, 1), (680, .aload_n 0, 1), (681, .iload_n 3, 1), (682, .iconst 2, 1), (683, .iadd, 1), (684, .iaload, 1), (685, .invokevirtual 67, 3), (688, .pop, 1), (689, .aload_n 2, 1)]
theorem kLaw_law_t9 : chkD (mcc mLaw_law) tLaw_law_t9 = true := by decide +kernel
theorem dLaw_law_642 : decode (mcc mLaw_law) 642 = .ok (.aload_n 0, 1) := chkD_at kLaw_law_t9 (i := 0) rfl
theorem dLaw_law_643 : decode (mcc mLaw_law) 643 = .ok (.iload_n 3, 1) := chkD_at kLaw_law_t9 (i := 1) rfl
theorem dLaw_law_644 : decode (mcc mLaw_law) 644 = .ok (.iconst 1, 1) := chkD_at kLaw_law_t9 (i := 2) rfl
theorem dLaw_law_645 : decode (mcc mLaw_law) 645 = .ok (.iadd, 1) := chkD_at kLaw_law_t9 (i := 3) rfl
theorem dLaw_law_646 : decode (mcc mLaw_law) 646 = .ok (.iaload, 1) := chkD_at kLaw_law_t9 (i := 4) rfl
theorem dLaw_law_647 : decode (mcc mLaw_law) 647 = .ok (.aload_n 0, 1) := chkD_at kLaw_law_t9 (i := 5) rfl
theorem dLaw_law_648 : decode (mcc mLaw_law) 648 = .ok (.iload_n 3, 1) := chkD_at kLaw_law_t9 (i := 6) rfl
theorem dLaw_law_649 : decode (mcc mLaw_law) 649 = .ok (.iconst 2, 1) := chkD_at kLaw_law_t9 (i := 7) rfl
theorem dLaw_law_650 : decode (mcc mLaw_law) 650 = .ok (.iadd, 1) := chkD_at kLaw_law_t9 (i := 8) rfl
theorem dLaw_law_651 : decode (mcc mLaw_law) 651 = .ok (.iaload, 1) := chkD_at kLaw_law_t9 (i := 9) rfl
theorem dLaw_law_652 : decode (mcc mLaw_law) 652 = .ok (.invokevirtual 63, 3) := chkD_at kLaw_law_t9 (i := 10) rfl
theorem dLaw_law_655 : decode (mcc mLaw_law) 655 = .ok (.pop, 1) := chkD_at kLaw_law_t9 (i := 11) rfl
theorem dLaw_law_656 : decode (mcc mLaw_law) 656 = .ok (.aload_n 2, 1) := chkD_at kLaw_law_t9 (i := 12) rfl
theorem dLaw_law_657 : decode (mcc mLaw_law) 657 = .ok (.aload_n 0, 1) := chkD_at kLaw_law_t9 (i := 13) rfl
theorem dLaw_law_658 : decode (mcc mLaw_law) 658 = .ok (.iload_n 3, 1) := chkD_at kLaw_law_t9 (i := 14) rfl
theorem dLaw_law_659 : decode (mcc mLaw_law) 659 = .ok (.iconst 1, 1) := chkD_at kLaw_law_t9 (i := 15) rfl
theorem dLaw_law_660 : decode (mcc mLaw_law) 660 = .ok (.iadd, 1) := chkD_at kLaw_law_t9 (i := 16) rfl
theorem dLaw_law_661 : decode (mcc mLaw_law) 661 = .ok (.iaload, 1) := chkD_at kLaw_law_t9 (i := 17) rfl
theorem dLaw_law_662 : decode (mcc mLaw_law) 662 = .ok (.aload_n 0, 1) := chkD_at kLaw_law_t9 (i := 18) rfl
theorem dLaw_law_663 : decode (mcc mLaw_law) 663 = .ok (.iload_n 3, 1) := chkD_at kLaw_law_t9 (i := 19) rfl
theorem dLaw_law_664 : decode (mcc mLaw_law) 664 = .ok (.iconst 2, 1) := chkD_at kLaw_law_t9 (i := 20) rfl
theorem dLaw_law_665 : decode (mcc mLaw_law) 665 = .ok (.iadd, 1) := chkD_at kLaw_law_t9 (i := 21) rfl
theorem dLaw_law_666 : decode (mcc mLaw_law) 666 = .ok (.iaload, 1) := chkD_at kLaw_law_t9 (i := 22) rfl
theorem dLaw_law_667 : decode (mcc mLaw_law) 667 = .ok (.invokevirtual 66, 3) := chkD_at kLaw_law_t9 (i := 23) rfl
theorem dLaw_law_670 : decode (mcc mLaw_law) 670 = .ok (.pop, 1) := chkD_at kLaw_law_t9 (i := 24) rfl
theorem dLaw_law_671 : decode (mcc mLaw_law) 671 = .ok (.goto 1048, 3) := chkD_at kLaw_law_t9 (i := 25) rfl
theorem dLaw_law_674 : decode (mcc mLaw_law) 674 = .ok (.aload_n 1, 1) := chkD_at kLaw_law_t9 (i := 26) rfl
theorem dLaw_law_675 : decode (mcc mLaw_law) 675 = .ok (.aload_n 0, 1) := chkD_at kLaw_law_t9 (i := 27) rfl
theorem dLaw_law_676 : decode (mcc mLaw_law) 676 = .ok (.iload_n 3, 1) := chkD_at kLaw_law_t9 (i := 28) rfl
theorem dLaw_law_677 : decode (mcc mLaw_law) 677 = .ok (.iconst 1, 1) := chkD_at kLaw_law_t9 (i := 29) rfl
theorem dLaw_law_678 : decode (mcc mLaw_law) 678 = .ok (.iadd, 1) := chkD_at kLaw_law_t9 (i := 30) rfl
theorem dLaw_law_679 : decode (mcc mLaw_law) 679 = .ok (.iaload, 1) := chkD_at kLaw_law_t9 (i := 31) rfl
theorem dLaw_law_680 : decode (mcc mLaw_law) 680 = .ok (.aload_n 0, 1) := chkD_at kLaw_law_t9 (i := 32) rfl
theorem dLaw_law_681 : decode (mcc mLaw_law) 681 = .ok (.iload_n 3, 1) := chkD_at kLaw_law_t9 (i := 33) rfl
theorem dLaw_law_682 : decode (mcc mLaw_law) 682 = .ok (.iconst 2, 1) := chkD_at kLaw_law_t9 (i := 34) rfl
theorem dLaw_law_683 : decode (mcc mLaw_law) 683 = .ok (.iadd, 1) := chkD_at kLaw_law_t9 (i := 35) rfl
theorem dLaw_law_684 : decode (mcc mLaw_law) 684 = .ok (.iaload, 1) := chkD_at kLaw_law_t9 (i := 36) rfl
theorem dLaw_law_685 : decode (mcc mLaw_law) 685 = .ok (.invokevirtual 67, 3) := chkD_at kLaw_law_t9 (i := 37) rfl
theorem dLaw_law_688 : decode (mcc mLaw_law) 688 = .ok (.pop, 1) := chkD_at kLaw_law_t9 (i := 38) rfl
theorem dLaw_law_689 : decode (mcc mLaw_law) 689 = .ok (.aload_n 2, 1) := chkD_at kLaw_law_t9 (i := 39) rfl
def tLaw_law_t10 : List (Nat × Instr × Nat) := [(690, .aload_n 0, 1), (691, .iload_n 3, 1), (692, .iconst 1, 1), (693, .iadd, 1), (694, .iaload, 1), (695, .aload_n 0, 1), (696, .iload_n 3, 1), (697, .iconst 2, 1), (698, .iadd, 1), (699, .iaload, 1), (700, .invokevirtual 70, 3), (703, .pop, 1), (704, .goto 1015, 3), (707, .aload_n 1, 1), (708, .invokevirtual 71, 3), (711, .pop, 1), (712, .aload_n 2, 1), (713, .invokevirtual 74, 3), (716, .pop, 1), (717, .goto 1002, 3), (720, .aload_n 1, 1), (721, .aload_n 0, 1), (722, .iload_n 3, 1), (723, .iconst 1, 1), (724, .iadd, 1), (725, .iaload, 1), (726, .aload_n 0, 1), (727, .iload_n 3, 1), (728, .iconst 2, 1), (729, .iadd, 1), (730, .iaload, 1), (731, .invokevirtual 75, 3), (734, .pop, 1), (735, .aload_n 2, 1), (736, .aload_n 0, 1), (737, .iload_n 3, 1), (738, .iconst 1, 1), (739, .iadd, 1), (740, .iaload, 1), (741, .aload_n 0, 1)]
theorem kLaw_law_t10 : chkD (mcc mLaw_law) tLaw_law_t10 = true := by decide +kernel
theorem dLaw_law_690 : decode (mcc mLaw_law) 690 = .ok (.aload_n 0, 1) := chkD_at kLaw_law_t10 (i := 0) rfl
theorem dLaw_law_691 : decode (mcc mLaw_law) 691 = .ok (.iload_n 3, 1) := chkD_at kLaw_law_t10 (i := 1) rfl
theorem dLaw_law_692 : decode (mcc mLaw_law) 692 = .ok (.iconst 1, 1) := chkD_at kLaw_law_t10 (i := 2) rfl
theorem dLaw_law_693 : decode (mcc mLaw_law) 693 = .ok (.iadd, 1) := chkD_at kLaw_law_t10 (i := 3) rfl
theorem dLaw_law_694 : decode (mcc mLaw_law) 694 = .ok (.iaload, 1) := chkD_at kLaw_law_t10 (i := 4) rfl
theorem dLaw_law_695 : decode (mcc mLaw_law) 695 = .ok (.aload_n 0, 1) := chkD_at kLaw_law_t10 (i := 5) rfl
theorem dLaw_law_696 : decode (mcc mLaw_law) 696 = .ok (.iload_n 3, 1) := chkD_at kLaw_law_t10 (i := 6) rfl
theorem dLaw_law_697 : decode (mcc mLaw_law) 697 = .ok (.iconst 2, 1) := chkD_at kLaw_law_t10 (i := 7) rfl
theorem dLaw_law_698 : decode (mcc mLaw_law) 698 = .ok (.iadd, 1) := chkD_at kLaw_law_t10 (i := 8) rfl
theorem dLaw_law_699 : decode (mcc mLaw_law) 699 = .ok (.iaload, 1) := chkD_at kLaw_law_t10 (i := 9) rfl
theorem dLaw_law_700 : decode (mcc mLaw_law) 700 = .ok (.invokevirtual 70, 3) := chkD_at kLaw_law_t10 (i := 10) rfl
theorem dLaw_law_703 : decode (mcc mLaw_law) 703 = .ok (.pop, 1) := chkD_at kLaw_law_t10 (i := 11) rfl
theorem dLaw_law_704 : decode (mcc mLaw_law) 704 = .ok (.goto 1015, 3) := chkD_at kLaw_law_t10 (i := 12) rfl
theorem dLaw_law_707 : decode (mcc mLaw_law) 707 = .ok (.aload_n 1, 1) := chkD_at kLaw_law_t10 (i := 13) rfl
theorem dLaw_law_708 : decode (mcc mLaw_law) 708 = .ok (.invokevirtual 71, 3) := chkD_at kLaw_law_t10 (i := 14) rfl
theorem dLaw_law_711 : decode (mcc mLaw_law) 711 = .ok (.pop, 1) := chkD_at kLaw_law_t10 (i := 15) rfl
theorem dLaw_law_712 : decode (mcc mLaw_law) 712 = .ok (.aload_n 2, 1) := chkD_at kLaw_law_t10 (i := 16) rfl
theorem dLaw_law_713 : decode (mcc mLaw_law) 713 = .ok (.invokevirtual 74, 3) := chkD_at kLaw_law_t10 (i := 17) rfl
theorem dLaw_law_716 : decode (mcc mLaw_law) 716 = .ok (.pop, 1) := chkD_at kLaw_law_t10 (i := 18) rfl
theorem dLaw_law_717 : decode (mcc mLaw_law) 717 = .ok (.goto 1002, 3) := chkD_at kLaw_law_t10 (i := 19) rfl
theorem dLaw_law_720 : decode (mcc mLaw_law) 720 = .ok (.aload_n 1, 1) := chkD_at kLaw_law_t10 (i := 20) rfl
theorem dLaw_law_721 : decode (mcc mLaw_law) 721 = .ok (.aload_n 0, 1) := chkD_at kLaw_law_t10 (i := 21) rfl
theorem dLaw_law_722 : decode (mcc mLaw_law) 722 = .ok (.iload_n 3, 1) := chkD_at kLaw_law_t10 (i := 22) rfl
theorem dLaw_law_723 : decode (mcc mLaw_law) 723 = .ok (.iconst 1, 1) := chkD_at kLaw_law_t10 (i := 23) rfl
theorem dLaw_law_724 : decode (mcc mLaw_law) 724 = .ok (.iadd, 1) := chkD_at kLaw_law_t10 (i := 24) rfl
theorem dLaw_law_725 : decode (mcc mLaw_law) 725 = .ok (.iaload, 1) := chkD_at kLaw_law_t10 (i := 25) rfl
theorem dLaw_law_726 : decode (mcc mLaw_law) 726 = .ok (.aload_n 0, 1) := chkD_at kLaw_law_t10 (i := 26) rfl
theorem dLaw_law_727 : decode (mcc mLaw_law) 727 = .ok (.iload_n 3, 1) := chkD_at kLaw_law_t10 (i := 27) rfl
theorem dLaw_law_728 : decode (mcc mLaw_law) 728 = .ok (.iconst 2, 1) := chkD_at kLaw_law_t10 (i := 28) rfl
theorem dLaw_law_729 : decode (mcc mLaw_law) 729 = .ok (.iadd, 1) := chkD_at kLaw_law_t10 (i := 29) rfl
theorem dLaw_law_730 : decode (mcc mLaw_law) 730 = .ok (.iaload, 1) := chkD_at kLaw_law_t10 (i := 30) rfl
theorem dLaw_law_731 : decode (mcc mLaw_law) 731 = .ok (.invokevirtual 75, 3) := chkD_at kLaw_law_t10 (i := 31) rfl
theorem dLaw_law_734 : decode (mcc mLaw_law) 734 = .ok (.pop, 1) := chkD_at kLaw_law_t10 (i := 32) rfl
theorem dLaw_law_735 : decode (mcc mLaw_law) 735 = .ok (.aload_n 2, 1) := chkD_at kLaw_law_t10 (i := 33) rfl
theorem dLaw_law_736 : decode (mcc mLaw_law) 736 = .ok (.aload_n 0, 1) := chkD_at kLaw_law_t10 (i := 34) rfl
theorem dLaw_law_737 : decode (mcc mLaw_law) 737 = .ok (.iload_n 3, 1) := chkD_at kLaw_law_t10 (i := 35) rfl
theorem dLaw_law_738 : decode (mcc mLaw_law) 738 = .ok (.iconst 1, 1) := chkD_at kLaw_law_t10 (i := 36) rfl
theorem dLaw_law_739 : decode (mcc mLaw_law) 739 = .ok (.iadd, 1) := chkD_at kLaw_law_t10 (i := 37) rfl
theorem dLaw_law_740 : decode (mcc mLaw_law) 740 = .ok (.iaload, 1) := chkD_at kLaw_law_t10 (i := 38) rfl
theorem dLaw_law_741 : decode (mcc mLaw_law) 741 = .ok (.aload_n 0, 1) := chkD_at kLaw_law_t10 (i := 39) rfl
def tLaw_law_t11 : List (Nat × Instr × Nat) := [(742, .iload_n 3, 1), (743, .iconst 2, 1), (744, .iadd, 1), (745, .iaload, 1), (746, .invokevirtual 78, 3), (749, .pop, 1), (750, .goto 969, 3), (753, .aload_n 1, 1), (754, .aload_n 0, 1), (755, .iload_n 3, 1), (756, .iconst 1, 1), (757, .iadd, 1), (758, .iaload, 1), (759, .aload_n 0, 1), (760, .iload_n 3, 1), (761, .iconst 2, 1), (762, .iadd, 1), (763, .iaload, 1), (764, .invokevirtual 79, 3), (767, .pop, 1), (768, .aload_n 2, 1), (769, .aload_n 0, 1), (770, .iload_n 3, 1), (771, .iconst 1, 1), (772, .iadd, 1), (773, .iaload, 1), (774, .aload_n 0, 1), (775, .iload_n 3, 1), (776, .iconst 2, 1), (777, .iadd, 1), (778, .iaload, 1), (779, .invokevirtual 82, 3), (782, .pop, 1), (783, .goto 936, 3), (786, .aload_n 1, 1), (787, .aload_n 0, 1), (788, .iload_n 3, 1), (789, .iconst 1, 1), (790, .iadd, 1), (791, .iaload, 1)]
theorem kLaw_law_t11 : chkD (mcc mLaw_law) tLaw_law_t11 = true := by decide +kernel
theorem dLaw_law_742 : decode (mcc mLaw_law) 742 = .ok (.iload_n 3, 1) := chkD_at kLaw_law_t11 (i := 0) rfl
theorem dLaw_law_743 : decode (mcc mLaw_law) 743 = .ok (.iconst 2, 1) := chkD_at kLaw_law_t11 (i := 1) rfl
theorem dLaw_law_744 : decode (mcc mLaw_law) 744 = .ok (.iadd, 1) := chkD_at kLaw_law_t11 (i := 2) rfl
theorem dLaw_law_745 : decode (mcc mLaw_law) 745 = .ok (.iaload, 1) := chkD_at kLaw_law_t11 (i := 3) rfl
theorem dLaw_law_746 : decode (mcc mLaw_law) 746 = .ok (.invokevirtual 78, 3) := chkD_at kLaw_law_t11 (i := 4) rfl
theorem dLaw_law_749 : decode (mcc mLaw_law) 749 = .ok (.pop, 1) := chkD_at kLaw_law_t11 (i := 5) rfl
theorem dLaw_law_750 : decode (mcc mLaw_law) 750 = .ok (.goto 969, 3) := chkD_at kLaw_law_t11 (i := 6) rfl
theorem dLaw_law_753 : decode (mcc mLaw_law) 753 = .ok (.aload_n 1, 1) := chkD_at kLaw_law_t11 (i := 7) rfl
theorem dLaw_law_754 : decode (mcc mLaw_law) 754 = .ok (.aload_n 0, 1) := chkD_at kLaw_law_t11 (i := 8) rfl
theorem dLaw_law_755 : decode (mcc mLaw_law) 755 = .ok (.iload_n 3, 1) := chkD_at kLaw_law_t11 (i := 9) rfl
theorem dLaw_law_756 : decode (mcc mLaw_law) 756 = .ok (.iconst 1, 1) := chkD_at kLaw_law_t11 (i := 10) rfl
theorem dLaw_law_757 : decode (mcc mLaw_law) 757 = .ok (.iadd, 1) := chkD_at kLaw_law_t11 (i := 11) rfl
theorem dLaw_law_758 : decode (mcc mLaw_law) 758 = .ok (.iaload, 1) := chkD_at kLaw_law_t11 (i := 12) rfl
theorem dLaw_law_759 : decode (mcc mLaw_law) 759 = .ok (.aload_n 0, 1) := chkD_at kLaw_law_t11 (i := 13) rfl
theorem dLaw_law_760 : decode (mcc mLaw_law) 760 = .ok (.iload_n 3, 1) := chkD_at kLaw_law_t11 (i := 14) rfl
theorem dLaw_law_761 : decode (mcc mLaw_law) 761 = .ok (.iconst 2, 1) := chkD_at kLaw_law_t11 (i := 15) rfl
theorem dLaw_law_762 : decode (mcc mLaw_law) 762 = .ok (.iadd, 1) := chkD_at kLaw_law_t11 (i := 16) rfl
theorem dLaw_law_763 : decode (mcc mLaw_law) 763 = .ok (.iaload, 1) := chkD_at kLaw_law_t11 (i := 17) rfl
theorem dLaw_law_764 : decode (mcc mLaw_law) 764 = .ok (.invokevirtual 79, 3) := chkD_at kLaw_law_t11 (i := 18) rfl
theorem dLaw_law_767 : decode (mcc mLaw_law) 767 = .ok (.pop, 1) := chkD_at kLaw_law_t11 (i := 19) rfl
theorem dLaw_law_768 : decode (mcc mLaw_law) 768 = .ok (.aload_n 2, 1) := chkD_at kLaw_law_t11 (i := 20) rfl
theorem dLaw_law_769 : decode (mcc mLaw_law) 769 = .ok (.aload_n 0, 1) := chkD_at kLaw_law_t11 (i := 21) rfl
theorem dLaw_law_770 : decode (mcc mLaw_law) 770 = .ok (.iload_n 3, 1) := chkD_at kLaw_law_t11 (i := 22) rfl
theorem dLaw_law_771 : decode (mcc mLaw_law) 771 = .ok (.iconst 1, 1) := chkD_at kLaw_law_t11 (i := 23) rfl
theorem dLaw_law_772 : decode (mcc mLaw_law) 772 = .ok (.iadd, 1) := chkD_at kLaw_law_t11 (i := 24) rfl
theorem dLaw_law_773 : decode (mcc mLaw_law) 773 = .ok (.iaload, 1) := chkD_at kLaw_law_t11 (i := 25) rfl
theorem dLaw_law_774 : decode (mcc mLaw_law) 774 = .ok (.aload_n 0, 1) := chkD_at kLaw_law_t11 (i := 26) rfl
theorem dLaw_law_775 : decode (mcc mLaw_law) 775 = .ok (.iload_n 3, 1) := chkD_at kLaw_law_t11 (i := 27) rfl
theorem dLaw_law_776 : decode (mcc mLaw_law) 776 = .ok (.iconst 2, 1) := chkD_at kLaw_law_t11 (i := 28) rfl
theorem dLaw_law_777 : decode (mcc mLaw_law) 777 = .ok (.iadd, 1) := chkD_at kLaw_law_t11 (i := 29) rfl
theorem dLaw_law_778 : decode (mcc mLaw_law) 778 = .ok (.iaload, 1) := chkD_at kLaw_law_t11 (i := 30) rfl
theorem dLaw_law_779 : decode (mcc mLaw_law) 779 = .ok (.invokevirtual 82, 3) := chkD_at kLaw_law_t11 (i := 31) rfl
theorem dLaw_law_782 : decode (mcc mLaw_law) 782 = .ok (.pop, 1) := chkD_at kLaw_law_t11 (i := 32) rfl
theorem dLaw_law_783 : decode (mcc mLaw_law) 783 = .ok (.goto 936, 3) := chkD_at kLaw_law_t11 (i := 33) rfl
theorem dLaw_law_786 : decode (mcc mLaw_law) 786 = .ok (.aload_n 1, 1) := chkD_at kLaw_law_t11 (i := 34) rfl
theorem dLaw_law_787 : decode (mcc mLaw_law) 787 = .ok (.aload_n 0, 1) := chkD_at kLaw_law_t11 (i := 35) rfl
theorem dLaw_law_788 : decode (mcc mLaw_law) 788 = .ok (.iload_n 3, 1) := chkD_at kLaw_law_t11 (i := 36) rfl
theorem dLaw_law_789 : decode (mcc mLaw_law) 789 = .ok (.iconst 1, 1) := chkD_at kLaw_law_t11 (i := 37) rfl
theorem dLaw_law_790 : decode (mcc mLaw_law) 790 = .ok (.iadd, 1) := chkD_at kLaw_law_t11 (i := 38) rfl
theorem dLaw_law_791 : decode (mcc mLaw_law) 791 = .ok (.iaload, 1) := chkD_at kLaw_law_t11 (i := 39) rfl
def tLaw_law_t12 : List (Nat × Instr × Nat) := [(792, .invokevirtual 83, 3), (795, .pop, 1), (796, .aload_n 2, 1), (797, .aload_n 0, 1), (798, .iload_n 3, 1), (799, .iconst 1, 1), (800, .iadd, 1), (801, .iaload, 1), (802, .invokevirtual 86, 3), (805, .pop, 1), (806, .goto 913, 3), (809, .aload_n 1, 1), (810, .invokevirtual 87, 3), (813, .pop, 1), (814, .aload_n 2, 1), (815, .invokevirtual 90, 3), (818, .pop, 1), (819, .goto 900, 3), (822, .aload_n 1, 1), (823, .aload_n 0, 1), (824, .iload_n 3, 1), (825, .iconst 1, 1), (826, .iadd, 1), (827, .iaload, 1), (828, .aload_n 0, 1), (829, .iload_n 3, 1), (830, .iconst 2, 1), (831, .iadd, 1), (832, .iaload, 1), (833, .invokevirtual 91, 3), (836, .pop, 1), (837, .aload_n 2, 1), (838, .aload_n 0, 1), (839, .iload_n 3, 1), (840, .iconst 1, 1), (841, .iadd, 1), (842, .iaload, 1), (843, .aload_n 0, 1), (844, .iload_n 3, 1), (845, .iconst 2, 1)]
theorem kLaw_law_t12 : chkD (mcc mLaw_law) tLaw_law_t12 = true := by decide +kernel
theorem dLaw_law_792 : decode (mcc mLaw_law) 792 = .ok (.invokevirtual 83, 3) := chkD_at kLaw_law_t12 (i := 0) rfl
theorem dLaw_law_795 : decode (mcc mLaw_law) 795 = .ok (.pop, 1) := chkD_at kLaw_law_t12 (i := 1) rfl
theorem dLaw_law_796 : decode (mcc mLaw_law) 796 = .ok (.aload_n 2, 1) := chkD_at kLaw_law_t12 (i := 2) rfl
theorem dLaw_law_797 : decode (mcc mLaw_law) 797 = .ok (.aload_n 0, 1) := chkD_at kLaw_law_t12 (i := 3) rfl
theorem dLaw_law_798 : decode (mcc mLaw_law) 798 = .ok (.iload_n 3, 1) := chkD_at kLaw_law_t12 (i := 4) rfl
theorem dLaw_law_799 : decode (mcc mLaw_law) 799 = .ok (.iconst 1, 1) := chkD_at kLaw_law_t12 (i := 5) rfl
theorem dLaw_law_800 : decode (mcc mLaw_law) 800 = .ok (.iadd, 1) := chkD_at kLaw_law_t12 (i := 6) rfl
theorem dLaw_law_801 : decode (mcc mLaw_law) 801 = .ok (.iaload, 1) := chkD_at kLaw_law_t12 (i := 7) rfl
theorem dLaw_law_802 : decode (mcc mLaw_law) 802 = .ok (.invokevirtual 86, 3) := chkD_at kLaw_law_t12 (i := 8) rfl
theorem dLaw_law_805 : decode (mcc mLaw_law) 805 = .ok (.pop, 1) := chkD_at kLaw_law_t12 (i := 9) rfl
theorem dLaw_law_806 : decode (mcc mLaw_law) 806 = .ok (.goto 913, 3) := chkD_at kLaw_law_t12 (i := 10) rfl
theorem dLaw_law_809 : decode (mcc mLaw_law) 809 = .ok (.aload_n 1, 1) := chkD_at kLaw_law_t12 (i := 11) rfl
theorem dLaw_law_810 : decode (mcc mLaw_law) 810 = .ok (.invokevirtual 87, 3) := chkD_at kLaw_law_t12 (i := 12) rfl
theorem dLaw_law_813 : decode (mcc mLaw_law) 813 = .ok (.pop, 1) := chkD_at kLaw_law_t12 (i := 13) rfl
theorem dLaw_law_814 : decode (mcc mLaw_law) 814 = .ok (.aload_n 2, 1) := chkD_at kLaw_law_t12 (i := 14) rfl
theorem dLaw_law_815 : decode (mcc mLaw_law) 815 = .ok (.invokevirtual 90, 3) := chkD_at kLaw_law_t12 (i := 15) rfl
theorem dLaw_law_818 : decode (mcc mLaw_law) 818 = .ok (.pop, 1) := chkD_at kLaw_law_t12 (i := 16) rfl
theorem dLaw_law_819 : decode (mcc mLaw_law) 819 = .ok (.goto 900, 3) := chkD_at kLaw_law_t12 (i := 17) rfl
theorem dLaw_law_822 : decode (mcc mLaw_law) 822 = .ok (.aload_n 1, 1) := chkD_at kLaw_law_t12 (i := 18) rfl
theorem dLaw_law_823 : decode (mcc mLaw_law) 823 = .ok (.aload_n 0, 1) := chkD_at kLaw_law_t12 (i := 19) rfl
theorem dLaw_law_824 : decode (mcc mLaw_law) 824 = .ok (.iload_n 3, 1) := chkD_at kLaw_law_t12 (i := 20) rfl
theorem dLaw_law_825 : decode (mcc mLaw_law) 825 = .ok (.iconst 1, 1) := chkD_at kLaw_law_t12 (i := 21) rfl
theorem dLaw_law_826 : decode (mcc mLaw_law) 826 = .ok (.iadd, 1) := chkD_at kLaw_law_t12 (i := 22) rfl
theorem dLaw_law_827 : decode (mcc mLaw_law) 827 = .ok (.iaload, 1) := chkD_at kLaw_law_t12 (i := 23) rfl
theorem dLaw_law_828 : decode (mcc mLaw_law) 828 = .ok (.aload_n 0, 1) := chkD_at kLaw_law_t12 (i := 24) rfl
theorem dLaw_law_829 : decode (mcc mLaw_law) 829 = .ok (.iload_n 3, 1) := chkD_at kLaw_law_t12 (i := 25) rfl
theorem dLaw_law_830 : decode (mcc mLaw_law) 830 = .ok (.iconst 2, 1) := chkD_at kLaw_law_t12 (i := 26) rfl
theorem dLaw_law_831 : decode (mcc mLaw_law) 831 = .ok (.iadd, 1) := chkD_at kLaw_law_t12 (i := 27) rfl
theorem dLaw_law_832 : decode (mcc mLaw_law) 832 = .ok (.iaload, 1) := chkD_at kLaw_law_t12 (i := 28) rfl
theorem dLaw_law_833 : decode (mcc mLaw_law) 833 = .ok (.invokevirtual 91, 3) := chkD_at kLaw_law_t12 (i := 29) rfl
theorem dLaw_law_836 : decode (mcc mLaw_law) 836 = .ok (.pop, 1) := chkD_at kLaw_law_t12 (i := 30) rfl
theorem dLaw_law_837 : decode (mcc mLaw_law) 837 = .ok (.aload_n 2, 1) := chkD_at kLaw_law_t12 (i := 31) rfl
theorem dLaw_law_838 : decode (mcc mLaw_law) 838 = .ok (.aload_n 0, 1) := chkD_at kLaw_law_t12 (i := 32) rfl
theorem dLaw_law_839 : decode (mcc mLaw_law) 839 = .ok (.iload_n 3, 1) := chkD_at kLaw_law_t12 (i := 33) rfl
theorem dLaw_law_840 : decode (mcc mLaw_law) 840 = .ok (.iconst 1, 1) := chkD_at kLaw_law_t12 (i := 34) rfl
theorem dLaw_law_841 : decode (mcc mLaw_law) 841 = .ok (.iadd, 1) := chkD_at kLaw_law_t12 (i := 35) rfl
theorem dLaw_law_842 : decode (mcc mLaw_law) 842 = .ok (.iaload, 1) := chkD_at kLaw_law_t12 (i := 36) rfl
theorem dLaw_law_843 : decode (mcc mLaw_law) 843 = .ok (.aload_n 0, 1) := chkD_at kLaw_law_t12 (i := 37) rfl
theorem dLaw_law_844 : decode (mcc mLaw_law) 844 = .ok (.iload_n 3, 1) := chkD_at kLaw_law_t12 (i := 38) rfl
theorem dLaw_law_845 : decode (mcc mLaw_law) 845 = .ok (.iconst 2, 1) := chkD_at kLaw_law_t12 (i := 39) rfl
def tLaw_law_t13 : List (Nat × Instr × Nat) := [(846, .iadd, 1), (847, .iaload, 1), (848, .invokevirtual 94, 3), (851, .pop, 1), (852, .goto 867, 3), (855, .aload_n 1, 1), (856, .aload_n 0, 1), (857, .iload_n 3, 1), (858, .iconst 1, 1), (859, .iadd, 1), (860, .iaload, 1), (861, .aload_n 0, 1), (862, .iload_n 3, 1), (863, .iconst 2, 1), (864, .iadd, 1), (865, .iaload, 1), (866, .invokevirtual 95, 3), (869, .pop, 1), (870, .aload_n 2, 1), (871, .aload_n 0, 1), (872, .iload_n 3, 1), (873, .iconst 1, 1), (874, .iadd, 1), (875, .iaload, 1), (876, .aload_n 0, 1), (877, .iload_n 3, 1), (878, .iconst 2, 1), (879, .iadd, 1), (880, .iaload, 1), (881, .invokevirtual 98, 3), (884, .pop, 1), (885, .goto 834, 3), (888, .aload_n 1, 1), (889, .aload_n 0, 1), (890, .iload_n 3, 1), (891, .iconst 1, 1), (892, .iadd, 1), (893, .iaload, 1), (894, .invokevirtual 99, 3), (897, .pop, 1)]
theorem kLaw_law_t13 : chkD (mcc mLaw_law) tLaw_law_t13 = true := by decide +kernel
theorem dLaw_law_846 : decode (mcc mLaw_law) 846 = .ok (.iadd, 1) := chkD_at kLaw_law_t13 (i := 0) rfl
theorem dLaw_law_847 : decode (mcc mLaw_law) 847 = .ok (.iaload, 1) := chkD_at kLaw_law_t13 (i := 1) rfl
theorem dLaw_law_848 : decode (mcc mLaw_law) 848 = .ok (.invokevirtual 94, 3) := chkD_at kLaw_law_t13 (i := 2) rfl
theorem dLaw_law_851 : decode (mcc mLaw_law) 851 = .ok (.pop, 1) := chkD_at kLaw_law_t13 (i := 3) rfl
theorem dLaw_law_852 : decode (mcc mLaw_law) 852 = .ok (.goto 867, 3) := chkD_at kLaw_law_t13 (i := 4) rfl
theorem dLaw_law_855 : decode (mcc mLaw_law) 855 = .ok (.aload_n 1, 1) := chkD_at kLaw_law_t13 (i := 5) rfl
theorem dLaw_law_856 : decode (mcc mLaw_law) 856 = .ok (.aload_n 0, 1) := chkD_at kLaw_law_t13 (i := 6) rfl
theorem dLaw_law_857 : decode (mcc mLaw_law) 857 = .ok (.iload_n 3, 1) := chkD_at kLaw_law_t13 (i := 7) rfl
theorem dLaw_law_858 : decode (mcc mLaw_law) 858 = .ok (.iconst 1, 1) := chkD_at kLaw_law_t13 (i := 8) rfl
theorem dLaw_law_859 : decode (mcc mLaw_law) 859 = .ok (.iadd, 1) := chkD_at kLaw_law_t13 (i := 9) rfl
theorem dLaw_law_860 : decode (mcc mLaw_law) 860 = .ok (.iaload, 1) := chkD_at kLaw_law_t13 (i := 10) rfl
theorem dLaw_law_861 : decode (mcc mLaw_law) 861 = .ok (.aload_n 0, 1) := chkD_at kLaw_law_t13 (i := 11) rfl
theorem dLaw_law_862 : decode (mcc mLaw_law) 862 = .ok (.iload_n 3, 1) := chkD_at kLaw_law_t13 (i := 12) rfl
theorem dLaw_law_863 : decode (mcc mLaw_law) 863 = .ok (.iconst 2, 1) := chkD_at kLaw_law_t13 (i := 13) rfl
theorem dLaw_law_864 : decode (mcc mLaw_law) 864 = .ok (.iadd, 1) := chkD_at kLaw_law_t13 (i := 14) rfl
theorem dLaw_law_865 : decode (mcc mLaw_law) 865 = .ok (.iaload, 1) := chkD_at kLaw_law_t13 (i := 15) rfl
theorem dLaw_law_866 : decode (mcc mLaw_law) 866 = .ok (.invokevirtual 95, 3) := chkD_at kLaw_law_t13 (i := 16) rfl
theorem dLaw_law_869 : decode (mcc mLaw_law) 869 = .ok (.pop, 1) := chkD_at kLaw_law_t13 (i := 17) rfl
theorem dLaw_law_870 : decode (mcc mLaw_law) 870 = .ok (.aload_n 2, 1) := chkD_at kLaw_law_t13 (i := 18) rfl
theorem dLaw_law_871 : decode (mcc mLaw_law) 871 = .ok (.aload_n 0, 1) := chkD_at kLaw_law_t13 (i := 19) rfl
theorem dLaw_law_872 : decode (mcc mLaw_law) 872 = .ok (.iload_n 3, 1) := chkD_at kLaw_law_t13 (i := 20) rfl
theorem dLaw_law_873 : decode (mcc mLaw_law) 873 = .ok (.iconst 1, 1) := chkD_at kLaw_law_t13 (i := 21) rfl
theorem dLaw_law_874 : decode (mcc mLaw_law) 874 = .ok (.iadd, 1) := chkD_at kLaw_law_t13 (i := 22) rfl
theorem dLaw_law_875 : decode (mcc mLaw_law) 875 = .ok (.iaload, 1) := chkD_at kLaw_law_t13 (i := 23) rfl
theorem dLaw_law_876 : decode (mcc mLaw_law) 876 = .ok (.aload_n 0, 1) := chkD_at kLaw_law_t13 (i := 24) rfl
theorem dLaw_law_877 : decode (mcc mLaw_law) 877 = .ok (.iload_n 3, 1) := chkD_at kLaw_law_t13 (i := 25) rfl
theorem dLaw_law_878 : decode (mcc mLaw_law) 878 = .ok (.iconst 2, 1) := chkD_at kLaw_law_t13 (i := 26) rfl
theorem dLaw_law_879 : decode (mcc mLaw_law) 879 = .ok (.iadd, 1) := chkD_at kLaw_law_t13 (i := 27) rfl
theorem dLaw_law_880 : decode (mcc mLaw_law) 880 = .ok (.iaload, 1) := chkD_at kLaw_law_t13 (i := 28) rfl
theorem dLaw_law_881 : decode (mcc mLaw_law) 881 = .ok (.invokevirtual 98, 3) := chkD_at kLaw_law_t13 (i := 29) rfl
theorem dLaw_law_884 : decode (mcc mLaw_law) 884 = .ok (.pop, 1) := chkD_at kLaw_law_t13 (i := 30) rfl
theorem dLaw_law_885 : decode (mcc mLaw_law) 885 = .ok (.goto 834, 3) := chkD_at kLaw_law_t13 (i := 31) rfl
theorem dLaw_law_888 : decode (mcc mLaw_law) 888 = .ok (.aload_n 1, 1) := chkD_at kLaw_law_t13 (i := 32) rfl
theorem dLaw_law_889 : decode (mcc mLaw_law) 889 = .ok (.aload_n 0, 1) := chkD_at kLaw_law_t13 (i := 33) rfl
theorem dLaw_law_890 : decode (mcc mLaw_law) 890 = .ok (.iload_n 3, 1) := chkD_at kLaw_law_t13 (i := 34) rfl
theorem dLaw_law_891 : decode (mcc mLaw_law) 891 = .ok (.iconst 1, 1) := chkD_at kLaw_law_t13 (i := 35) rfl
theorem dLaw_law_892 : decode (mcc mLaw_law) 892 = .ok (.iadd, 1) := chkD_at kLaw_law_t13 (i := 36) rfl
theorem dLaw_law_893 : decode (mcc mLaw_law) 893 = .ok (.iaload, 1) := chkD_at kLaw_law_t13 (i := 37) rfl
theorem dLaw_law_894 : decode (mcc mLaw_law) 894 = .ok (.invokevirtual 99, 3) := chkD_at kLaw_law_t13 (i := 38) rfl
theorem dLaw_law_897 : decode (mcc mLaw_law) 897 = .ok (.pop, 1) := chkD_at kLaw_law_t13 (i := 39) rfl
def tLaw_law_t14 : List (Nat × Instr × Nat) := [(898, .aload_n 2, 1), (899, .aload_n 0, 1), (900, .iload_n 3, 1), (901, .iconst 1, 1), (902, .iadd, 1), (903, .iaload, 1), (904, .invokevirtual 102, 3), (907, .pop, 1), (908, .goto 811, 3), (911, .aload_n 1, 1), (912, .aload_n 0, 1), (913, .iload_n 3, 1), (914, .iconst 1, 1), (915, .iadd, 1), (916, .iaload, 1), (917, .invokevirtual 103, 3), (920, .pop, 1), (921, .aload_n 2, 1), (922, .aload_n 0, 1), (923, .iload_n 3, 1), (924, .iconst 1, 1), (925, .iadd, 1), (926, .iaload, 1), (927, .invokevirtual 106, 3), (930, .pop, 1), (931, .goto 788, 3), (934, .aload_n 1, 1), (935, .invokevirtual 107, 3), (938, .pop, 1), (939, .aload_n 2, 1), (940, .invokevirtual 110, 3), (943, .pop, 1), (944, .goto 775, 3), (947, .aload_n 1, 1), (948, .invokevirtual 111, 3), (951, .pop, 1), (952, .aload_n 2, 1), (953, .invokevirtual 114, 3), (956, .pop, 1), (957, .goto 762, 3)]
theorem kLaw_law_t14 : chkD (mcc mLaw_law) tLaw_law_t14 = true := by decide +kernel
theorem dLaw_law_898 : decode (mcc mLaw_law) 898 = .ok (.aload_n 2, 1) := chkD_at kLaw_law_t14 (i := 0) rfl
theorem dLaw_law_899 : decode (mcc mLaw_law) 899 = .ok (.aload_n 0, 1) := chkD_at kLaw_law_t14 (i := 1) rfl
theorem dLaw_law_900 : decode (mcc mLaw_law) 900 = .ok (.iload_n 3, 1) := chkD_at kLaw_law_t14 (i := 2) rfl
theorem dLaw_law_901 : decode (mcc mLaw_law) 901 = .ok (.iconst 1, 1) := chkD_at kLaw_law_t14 (i := 3) rfl
theorem dLaw_law_902 : decode (mcc mLaw_law) 902 = .ok (.iadd, 1) := chkD_at kLaw_law_t14 (i := 4) rfl
theorem dLaw_law_903 : decode (mcc mLaw_law) 903 = .ok (.iaload, 1) := chkD_at kLaw_law_t14 (i := 5) rfl
theorem dLaw_law_904 : decode (mcc mLaw_law) 904 = .ok (.invokevirtual 102, 3) := chkD_at kLaw_law_t14 (i := 6) rfl
theorem dLaw_law_907 : decode (mcc mLaw_law) 907 = .ok (.pop, 1) := chkD_at kLaw_law_t14 (i := 7) rfl
theorem dLaw_law_908 : decode (mcc mLaw_law) 908 = .ok (.goto 811, 3) := chkD_at kLaw_law_t14 (i := 8) rfl
theorem dLaw_law_911 : decode (mcc mLaw_law) 911 = .ok (.aload_n 1, 1) := chkD_at kLaw_law_t14 (i := 9) rfl
theorem dLaw_law_912 : decode (mcc mLaw_law) 912 = .ok (.aload_n 0, 1) := chkD_at kLaw_law_t14 (i := 10) rfl
theorem dLaw_law_913 : decode (mcc mLaw_law) 913 = .ok (.iload_n 3, 1) := chkD_at kLaw_law_t14 (i := 11) rfl
theorem dLaw_law_914 : decode (mcc mLaw_law) 914 = .ok (.iconst 1, 1) := chkD_at kLaw_law_t14 (i := 12) rfl
theorem dLaw_law_915 : decode (mcc mLaw_law) 915 = .ok (.iadd, 1) := chkD_at kLaw_law_t14 (i := 13) rfl
theorem dLaw_law_916 : decode (mcc mLaw_law) 916 = .ok (.iaload, 1) := chkD_at kLaw_law_t14 (i := 14) rfl
theorem dLaw_law_917 : decode (mcc mLaw_law) 917 = .ok (.invokevirtual 103, 3) := chkD_at kLaw_law_t14 (i := 15) rfl
theorem dLaw_law_920 : decode (mcc mLaw_law) 920 = .ok (.pop, 1) := chkD_at kLaw_law_t14 (i := 16) rfl
theorem dLaw_law_921 : decode (mcc mLaw_law) 921 = .ok (.aload_n 2, 1) := chkD_at kLaw_law_t14 (i := 17) rfl
theorem dLaw_law_922 : decode (mcc mLaw_law) 922 = .ok (.aload_n 0, 1) := chkD_at kLaw_law_t14 (i := 18) rfl
theorem dLaw_law_923 : decode (mcc mLaw_law) 923 = .ok (.iload_n 3, 1) := chkD_at kLaw_law_t14 (i := 19) rfl
theorem dLaw_law_924 : decode (mcc mLaw_law) 924 = .ok (.iconst 1, 1) := chkD_at kLaw_law_t14 (i := 20) rfl
theorem dLaw_law_925 : decode (mcc mLaw_law) 925 = .ok (.iadd, 1) := chkD_at kLaw_law_t14 (i := 21) rfl
theorem dLaw_law_926 : decode (mcc mLaw_law) 926 = .ok (.iaload, 1) := chkD_at kLaw_law_t14 (i := 22) rfl
theorem dLaw_law_927 : decode (mcc mLaw_law) 927 = .ok (.invokevirtual 106, 3) := chkD_at kLaw_law_t14 (i := 23) rfl
theorem dLaw_law_930 : decode (mcc mLaw_law) 930 = .ok (.pop, 1) := chkD_at kLaw_law_t14 (i := 24) rfl
theorem dLaw_law_931 : decode (mcc mLaw_law) 931 = .ok (.goto 788, 3) := chkD_at kLaw_law_t14 (i := 25) rfl
theorem dLaw_law_934 : decode (mcc mLaw_law) 934 = .ok (.aload_n 1, 1) := chkD_at kLaw_law_t14 (i := 26) rfl
theorem dLaw_law_935 : decode (mcc mLaw_law) 935 = .ok (.invokevirtual 107, 3) := chkD_at kLaw_law_t14 (i := 27) rfl
theorem dLaw_law_938 : decode (mcc mLaw_law) 938 = .ok (.pop, 1) := chkD_at kLaw_law_t14 (i := 28) rfl
theorem dLaw_law_939 : decode (mcc mLaw_law) 939 = .ok (.aload_n 2, 1) := chkD_at kLaw_law_t14 (i := 29) rfl
theorem dLaw_law_940 : decode (mcc mLaw_law) 940 = .ok (.invokevirtual 110, 3) := chkD_at kLaw_law_t14 (i := 30) rfl
theorem dLaw_law_943 : decode (mcc mLaw_law) 943 = .ok (.pop, 1) := chkD_at kLaw_law_t14 (i := 31) rfl
theorem dLaw_law_944 : decode (mcc mLaw_law) 944 = .ok (.goto 775, 3) := chkD_at kLaw_law_t14 (i := 32) rfl
theorem dLaw_law_947 : decode (mcc mLaw_law) 947 = .ok (.aload_n 1, 1) := chkD_at kLaw_law_t14 (i := 33) rfl
theorem dLaw_law_948 : decode (mcc mLaw_law) 948 = .ok (.invokevirtual 111, 3) := chkD_at kLaw_law_t14 (i := 34) rfl
theorem dLaw_law_951 : decode (mcc mLaw_law) 951 = .ok (.pop, 1) := chkD_at kLaw_law_t14 (i := 35) rfl
theorem dLaw_law_952 : decode (mcc mLaw_law) 952 = .ok (.aload_n 2, 1) := chkD_at kLaw_law_t14 (i := 36) rfl
theorem dLaw_law_953 : decode (mcc mLaw_law) 953 = .ok (.invokevirtual 114, 3) := chkD_at kLaw_law_t14 (i := 37) rfl
theorem dLaw_law_956 : decode (mcc mLaw_law) 956 = .ok (.pop, 1) := chkD_at kLaw_law_t14 (i := 38) rfl
theorem dLaw_law_957 : decode (mcc mLaw_law) 957 = .ok (.goto 762, 3) := chkD_at kLaw_law_t14 (i := 39) rfl
def tLaw_law_t15 : List (Nat × Instr × Nat) := [(960, .aload_n 1, 1), (961, .aload_n 0, 1), (962, .iload_n 3, 1), (963, .iconst 1, 1), (964, .iadd, 1), (965, .iaload, 1), (966, .aload_n 0, 1), (967, .iload_n 3, 1), (968, .iconst 2, 1), (969, .iadd, 1), (970, .iaload, 1), (971, .invokevirtual 115, 3), (974, .pop, 1), (975, .aload_n 2, 1), (976, .aload_n 0, 1), (977, .iload_n 3, 1), (978, .iconst 1, 1), (979, .iadd, 1), (980, .iaload, 1), (981, .aload_n 0, 1), (982, .iload_n 3, 1), (983, .iconst 2, 1), (984, .iadd, 1), (985, .iaload, 1), (986, .invokevirtual 118, 3), (989, .pop, 1), (990, .goto 729, 3), (993, .aload_n 1, 1), (994, .aload_n 0, 1), (995, .iload_n 3, 1), (996, .iconst 1, 1), (997, .iadd, 1), (998, .iaload, 1), (999, .aload_n 0, 1), (1000, .iload_n 3, 1), (1001, .iconst 2, 1), (1002, .iadd, 1), (1003, .iaload, 1), (1004, .aload_n 0, 1), (1005, .iload_n 3, 1)]
theorem kLaw_law_t15 : chkD (mcc mLaw_law) tLaw_law_t15 = true := by decide +kernel
theorem dLaw_law_960 : decode (mcc mLaw_law) 960 = .ok (.aload_n 1, 1) := chkD_at kLaw_law_t15 (i := 0) rfl
theorem dLaw_law_961 : decode (mcc mLaw_law) 961 = .ok (.aload_n 0, 1) := chkD_at kLaw_law_t15 (i := 1) rfl
theorem dLaw_law_962 : decode (mcc mLaw_law) 962 = .ok (.iload_n 3, 1) := chkD_at kLaw_law_t15 (i := 2) rfl
theorem dLaw_law_963 : decode (mcc mLaw_law) 963 = .ok (.iconst 1, 1) := chkD_at kLaw_law_t15 (i := 3) rfl
theorem dLaw_law_964 : decode (mcc mLaw_law) 964 = .ok (.iadd, 1) := chkD_at kLaw_law_t15 (i := 4) rfl
theorem dLaw_law_965 : decode (mcc mLaw_law) 965 = .ok (.iaload, 1) := chkD_at kLaw_law_t15 (i := 5) rfl
theorem dLaw_law_966 : decode (mcc mLaw_law) 966 = .ok (.aload_n 0, 1) := chkD_at kLaw_law_t15 (i := 6) rfl
theorem dLaw_law_967 : decode (mcc mLaw_law) 967 = .ok (.iload_n 3, 1) := chkD_at kLaw_law_t15 (i := 7) rfl
theorem dLaw_law_968 : decode (mcc mLaw_law) 968 = .ok (.iconst 2, 1) := chkD_at kLaw_law_t15 (i := 8) rfl
theorem dLaw_law_969 : decode (mcc mLaw_law) 969 = .ok (.iadd, 1) := chkD_at kLaw_law_t15 (i := 9) rfl
theorem dLaw_law_970 : decode (mcc mLaw_law) 970 = .ok (.iaload, 1) := chkD_at kLaw_law_t15 (i := 10) rfl
theorem dLaw_law_971 : decode (mcc mLaw_law) 971 = .ok (.invokevirtual 115, 3) := chkD_at kLaw_law_t15 (i := 11) rfl
theorem dLaw_law_974 : decode (mcc mLaw_law) 974 = .ok (.pop, 1) := chkD_at kLaw_law_t15 (i := 12) rfl
theorem dLaw_law_975 : decode (mcc mLaw_law) 975 = .ok (.aload_n 2, 1) := chkD_at kLaw_law_t15 (i := 13) rfl
theorem dLaw_law_976 : decode (mcc mLaw_law) 976 = .ok (.aload_n 0, 1) := chkD_at kLaw_law_t15 (i := 14) rfl
theorem dLaw_law_977 : decode (mcc mLaw_law) 977 = .ok (.iload_n 3, 1) := chkD_at kLaw_law_t15 (i := 15) rfl
theorem dLaw_law_978 : decode (mcc mLaw_law) 978 = .ok (.iconst 1, 1) := chkD_at kLaw_law_t15 (i := 16) rfl
theorem dLaw_law_979 : decode (mcc mLaw_law) 979 = .ok (.iadd, 1) := chkD_at kLaw_law_t15 (i := 17) rfl
theorem dLaw_law_980 : decode (mcc mLaw_law) 980 = .ok (.iaload, 1) := chkD_at kLaw_law_t15 (i := 18) rfl
theorem dLaw_law_981 : decode (mcc mLaw_law) 981 = .ok (.aload_n 0, 1) := chkD_at kLaw_law_t15 (i := 19) rfl
theorem dLaw_law_982 : decode (mcc mLaw_law) 982 = .ok (.iload_n 3, 1) := chkD_at kLaw_law_t15 (i := 20) rfl
theorem dLaw_law_983 : decode (mcc mLaw_law) 983 = .ok (.iconst 2, 1) := chkD_at kLaw_law_t15 (i := 21) rfl
theorem dLaw_law_984 : decode (mcc mLaw_law) 984 = .ok (.iadd, 1) := chkD_at kLaw_law_t15 (i := 22) rfl
theorem dLaw_law_985 : decode (mcc mLaw_law) 985 = .ok (.iaload, 1) := chkD_at kLaw_law_t15 (i := 23) rfl
theorem dLaw_law_986 : decode (mcc mLaw_law) 986 = .ok (.invokevirtual 118, 3) := chkD_at kLaw_law_t15 (i := 24) rfl
theorem dLaw_law_989 : decode (mcc mLaw_law) 989 = .ok (.pop, 1) := chkD_at kLaw_law_t15 (i := 25) rfl
theorem dLaw_law_990 : decode (mcc mLaw_law) 990 = .ok (.goto 729, 3) := chkD_at kLaw_law_t15 (i := 26) rfl
theorem dLaw_law_993 : decode (mcc mLaw_law) 993 = .ok (.aload_n 1, 1) := chkD_at kLaw_law_t15 (i := 27) rfl
theorem dLaw_law_994 : decode (mcc mLaw_law) 994 = .ok (.aload_n 0, 1) := chkD_at kLaw_law_t15 (i := 28) rfl
theorem dLaw_law_995 : decode (mcc mLaw_law) 995 = .ok (.iload_n 3, 1) := chkD_at kLaw_law_t15 (i := 29) rfl
theorem dLaw_law_996 : decode (mcc mLaw_law) 996 = .ok (.iconst 1, 1) := chkD_at kLaw_law_t15 (i := 30) rfl
theorem dLaw_law_997 : decode (mcc mLaw_law) 997 = .ok (.iadd, 1) := chkD_at kLaw_law_t15 (i := 31) rfl
theorem dLaw_law_998 : decode (mcc mLaw_law) 998 = .ok (.iaload, 1) := chkD_at kLaw_law_t15 (i := 32) rfl
theorem dLaw_law_999 : decode (mcc mLaw_law) 999 = .ok (.aload_n 0, 1) := chkD_at kLaw_law_t15 (i := 33) rfl
theorem dLaw_law_1000 : decode (mcc mLaw_law) 1000 = .ok (.iload_n 3, 1) := chkD_at kLaw_law_t15 (i := 34) rfl
theorem dLaw_law_1001 : decode (mcc mLaw_law) 1001 = .ok (.iconst 2, 1) := chkD_at kLaw_law_t15 (i := 35) rfl
theorem dLaw_law_1002 : decode (mcc mLaw_law) 1002 = .ok (.iadd, 1) := chkD_at kLaw_law_t15 (i := 36) rfl
theorem dLaw_law_1003 : decode (mcc mLaw_law) 1003 = .ok (.iaload, 1) := chkD_at kLaw_law_t15 (i := 37) rfl
theorem dLaw_law_1004 : decode (mcc mLaw_law) 1004 = .ok (.aload_n 0, 1) := chkD_at kLaw_law_t15 (i := 38) rfl
theorem dLaw_law_1005 : decode (mcc mLaw_law) 1005 = .ok (.iload_n 3, 1) := chkD_at kLaw_law_t15 (i := 39) rfl
def tLaw_law_t16 : List (Nat × Instr × Nat) := [(1006, .iconst 3, 1), (1007, .iadd, 1), (1008, .iaload, 1), (1009, .invokevirtual 119, 3), (1012, .pop, 1), (1013, .aload_n 2, 1), (1014, .aload_n 0, 1), (1015, .iload_n 3, 1), (1016, .iconst 1, 1), (1017, .iadd, 1), (1018, .iaload, 1), (1019, .aload_n 0, 1), (1020, .iload_n 3, 1), (1021, .iconst 2, 1), (1022, .iadd, 1), (1023, .iaload, 1), (1024, .aload_n 0, 1), (1025, .iload_n 3, 1), (1026, .iconst 3, 1), (1027, .iadd, 1), (1028, .iaload, 1), (1029, .invokevirtual 122, 3), (1032, .pop, 1), (1033, .goto 686, 3), (1036, .aload_n 1, 1), (1037, .aload_n 0, 1), (1038, .iload_n 3, 1), (1039, .iconst 1, 1), (1040, .iadd, 1), (1041, .iaload, 1), (1042, .aload_n 0, 1), (1043, .iload_n 3, 1), (1044, .iconst 2, 1), (1045, .iadd, 1), (1046, .iaload, 1), (1047, .aload_n 0, 1), (1048, .iload_n 3, 1), (1049, .iconst 3, 1), (1050, .iadd, 1), (1051, .iaload, 1)]
theorem kLaw_law_t16 : chkD (mcc mLaw_law) tLaw_law_t16 = true := by decide +kernel
theorem dLaw_law_1006 : decode (mcc mLaw_law) 1006 = .ok (.iconst 3, 1) := chkD_at kLaw_law_t16 (i := 0) rfl
theorem dLaw_law_1007 : decode (mcc mLaw_law) 1007 = .ok (.iadd, 1) := chkD_at kLaw_law_t16 (i := 1) rfl
theorem dLaw_law_1008 : decode (mcc mLaw_law) 1008 = .ok (.iaload, 1) := chkD_at kLaw_law_t16 (i := 2) rfl
theorem dLaw_law_1009 : decode (mcc mLaw_law) 1009 = .ok (.invokevirtual 119, 3) := chkD_at kLaw_law_t16 (i := 3) rfl
theorem dLaw_law_1012 : decode (mcc mLaw_law) 1012 = .ok (.pop, 1) := chkD_at kLaw_law_t16 (i := 4) rfl
theorem dLaw_law_1013 : decode (mcc mLaw_law) 1013 = .ok (.aload_n 2, 1) := chkD_at kLaw_law_t16 (i := 5) rfl
theorem dLaw_law_1014 : decode (mcc mLaw_law) 1014 = .ok (.aload_n 0, 1) := chkD_at kLaw_law_t16 (i := 6) rfl
theorem dLaw_law_1015 : decode (mcc mLaw_law) 1015 = .ok (.iload_n 3, 1) := chkD_at kLaw_law_t16 (i := 7) rfl
theorem dLaw_law_1016 : decode (mcc mLaw_law) 1016 = .ok (.iconst 1, 1) := chkD_at kLaw_law_t16 (i := 8) rfl
theorem dLaw_law_1017 : decode (mcc mLaw_law) 1017 = .ok (.iadd, 1) := chkD_at kLaw_law_t16 (i := 9) rfl
theorem dLaw_law_1018 : decode (mcc mLaw_law) 1018 = .ok (.iaload, 1) := chkD_at kLaw_law_t16 (i := 10) rfl
theorem dLaw_law_1019 : decode (mcc mLaw_law) 1019 = .ok (.aload_n 0, 1) := chkD_at kLaw_law_t16 (i := 11) rfl
theorem dLaw_law_1020 : decode (mcc mLaw_law) 1020 = .ok (.iload_n 3, 1) := chkD_at kLaw_law_t16 (i := 12) rfl
theorem dLaw_law_1021 : decode (mcc mLaw_law) 1021 = .ok (.iconst 2, 1) := chkD_at kLaw_law_t16 (i := 13) rfl
theorem dLaw_law_1022 : decode (mcc mLaw_law) 1022 = .ok (.iadd, 1) := chkD_at kLaw_law_t16 (i := 14) rfl
theorem dLaw_law_1023 : decode (mcc mLaw_law) 1023 = .ok (.iaload, 1) := chkD_at kLaw_law_t16 (i := 15) rfl
theorem dLaw_law_1024 : decode (mcc mLaw_law) 1024 = .ok (.aload_n 0, 1) := chkD_at kLaw_law_t16 (i := 16) rfl
theorem dLaw_law_1025 : decode (mcc mLaw_law) 1025 = .ok (.iload_n 3, 1) := chkD_at kLaw_law_t16 (i := 17) rfl
theorem dLaw_law_1026 : decode (mcc mLaw_law) 1026 = .ok (.iconst 3, 1) := chkD_at kLaw_law_t16 (i := 18) rfl
theorem dLaw_law_1027 : decode (mcc mLaw_law) 1027 = .ok (.iadd, 1) := chkD_at kLaw_law_t16 (i := 19) rfl
theorem dLaw_law_1028 : decode (mcc mLaw_law) 1028 = .ok (.iaload, 1) := chkD_at kLaw_law_t16 (i := 20) rfl
theorem dLaw_law_1029 : decode (mcc mLaw_law) 1029 = .ok (.invokevirtual 122, 3) := chkD_at kLaw_law_t16 (i := 21) rfl
theorem dLaw_law_1032 : decode (mcc mLaw_law) 1032 = .ok (.pop, 1) := chkD_at kLaw_law_t16 (i := 22) rfl
theorem dLaw_law_1033 : decode (mcc mLaw_law) 1033 = .ok (.goto 686, 3) := chkD_at kLaw_law_t16 (i := 23) rfl
theorem dLaw_law_1036 : decode (mcc mLaw_law) 1036 = .ok (.aload_n 1, 1) := chkD_at kLaw_law_t16 (i := 24) rfl
theorem dLaw_law_1037 : decode (mcc mLaw_law) 1037 = .ok (.aload_n 0, 1) := chkD_at kLaw_law_t16 (i := 25) rfl
theorem dLaw_law_1038 : decode (mcc mLaw_law) 1038 = .ok (.iload_n 3, 1) := chkD_at kLaw_law_t16 (i := 26) rfl
theorem dLaw_law_1039 : decode (mcc mLaw_law) 1039 = .ok (.iconst 1, 1) := chkD_at kLaw_law_t16 (i := 27) rfl
theorem dLaw_law_1040 : decode (mcc mLaw_law) 1040 = .ok (.iadd, 1) := chkD_at kLaw_law_t16 (i := 28) rfl
theorem dLaw_law_1041 : decode (mcc mLaw_law) 1041 = .ok (.iaload, 1) := chkD_at kLaw_law_t16 (i := 29) rfl
theorem dLaw_law_1042 : decode (mcc mLaw_law) 1042 = .ok (.aload_n 0, 1) := chkD_at kLaw_law_t16 (i := 30) rfl
theorem dLaw_law_1043 : decode (mcc mLaw_law) 1043 = .ok (.iload_n 3, 1) := chkD_at kLaw_law_t16 (i := 31) rfl
theorem dLaw_law_1044 : decode (mcc mLaw_law) 1044 = .ok (.iconst 2, 1) := chkD_at kLaw_law_t16 (i := 32) rfl
theorem dLaw_law_1045 : decode (mcc mLaw_law) 1045 = .ok (.iadd, 1) := chkD_at kLaw_law_t16 (i := 33) rfl
theorem dLaw_law_1046 : decode (mcc mLaw_law) 1046 = .ok (.iaload, 1) := chkD_at kLaw_law_t16 (i := 34) rfl
theorem dLaw_law_1047 : decode (mcc mLaw_law) 1047 = .ok (.aload_n 0, 1) := chkD_at kLaw_law_t16 (i := 35) rfl
theorem dLaw_law_1048 : decode (mcc mLaw_law) 1048 = .ok (.iload_n 3, 1) := chkD_at kLaw_law_t16 (i := 36) rfl
theorem dLaw_law_1049 : decode (mcc mLaw_law) 1049 = .ok (.iconst 3, 1) := chkD_at kLaw_law_t16 (i := 37) rfl
theorem dLaw_law_1050 : decode (mcc mLaw_law) 1050 = .ok (.iadd, 1) := chkD_at kLaw_law_t16 (i := 38) rfl
theorem dLaw_law_1051 : decode (mcc mLaw_law) 1051 = .ok (.iaload, 1) := chkD_at kLaw_law_t16 (i := 39) rfl
def tLaw_law_t17 : List (Nat × Instr × Nat) := [(1052, .invokevirtual 123, 3), (1055, .pop, 1), (1056, .aload_n 2, 1), (1057, .aload_n 0, 1), (1058, .iload_n 3, 1), (1059, .iconst 1, 1), (1060, .iadd, 1), (1061, .iaload, 1), (1062, .aload_n 0, 1), (1063, .iload_n 3, 1), (1064, .iconst 2, 1), (1065, .iadd, 1), (1066, .iaload, 1), (1067, .aload_n 0, 1), (1068, .iload_n 3, 1), (1069, .iconst 3, 1), (1070, .iadd, 1), (1071, .iaload, 1), (1072, .invokevirtual 126, 3), (1075, .pop, 1), (1076, .goto 643, 3), (1079, .aload_n 1, 1), (1080, .invokevirtual 127, 3), (1083, .pop, 1), (1084, .aload_n 2, 1), (1085, .invokevirtual 130, 3), (1088, .pop, 1), (1089, .goto 630, 3), (1092, .aload_n 1, 1), (1093, .aload_n 0, 1), (1094, .iload_n 3, 1), (1095, .iconst 1, 1), (1096, .iadd, 1), (1097, .iaload, 1), (1098, .aload_n 0, 1), (1099, .iload_n 3, 1), (1100, .iconst 2, 1), (1101, .iadd, 1), (1102, .iaload, 1), (1103, .invokevirtual 131, 3)]
theorem kLaw_law_t17 : chkD (mcc mLaw_law) tLaw_law_t17 = true := by decide +kernel
theorem dLaw_law_1052 : decode (mcc mLaw_law) 1052 = .ok (.invokevirtual 123, 3) := chkD_at kLaw_law_t17 (i := 0) rfl
theorem dLaw_law_1055 : decode (mcc mLaw_law) 1055 = .ok (.pop, 1) := chkD_at kLaw_law_t17 (i := 1) rfl
theorem dLaw_law_1056 : decode (mcc mLaw_law) 1056 = .ok (.aload_n 2, 1) := chkD_at kLaw_law_t17 (i := 2) rfl
theorem dLaw_law_1057 : decode (mcc mLaw_law) 1057 = .ok (.aload_n 0, 1) := chkD_at kLaw_law_t17 (i := 3) rfl
theorem dLaw_law_1058 : decode (mcc mLaw_law) 1058 = .ok (.iload_n 3, 1) := chkD_at kLaw_law_t17 (i := 4) rfl
theorem dLaw_law_1059 : decode (mcc mLaw_law) 1059 = .ok (.iconst 1, 1) := chkD_at kLaw_law_t17 (i := 5) rfl
theorem dLaw_law_1060 : decode (mcc mLaw_law) 1060 = .ok (.iadd, 1) := chkD_at kLaw_law_t17 (i := 6) rfl
theorem dLaw_law_1061 : decode (mcc mLaw_law) 1061 = .ok (.iaload, 1) := chkD_at kLaw_law_t17 (i := 7) rfl
theorem dLaw_law_1062 : decode (mcc mLaw_law) 1062 = .ok (.aload_n 0, 1) := chkD_at kLaw_law_t17 (i := 8) rfl
theorem dLaw_law_1063 : decode (mcc mLaw_law) 1063 = .ok (.iload_n 3, 1) := chkD_at kLaw_law_t17 (i := 9) rfl
theorem dLaw_law_1064 : decode (mcc mLaw_law) 1064 = .ok (.iconst 2, 1) := chkD_at kLaw_law_t17 (i := 10) rfl
theorem dLaw_law_1065 : decode (mcc mLaw_law) 1065 = .ok (.iadd, 1) := chkD_at kLaw_law_t17 (i := 11) rfl
theorem dLaw_law_1066 : decode (mcc mLaw_law) 1066 = .ok (.iaload, 1) := chkD_at kLaw_law_t17 (i := 12) rfl
theorem dLaw_law_1067 : decode (mcc mLaw_law) 1067 = .ok (.aload_n 0, 1) := chkD_at kLaw_law_t17 (i := 13) rfl
theorem dLaw_law_1068 : decode (mcc mLaw_law) 1068 = .ok (.iload_n 3, 1) := chkD_at kLaw_law_t17 (i := 14) rfl
theorem dLaw_law_1069 : decode (mcc mLaw_law) 1069 = .ok (.iconst 3, 1) := chkD_at kLaw_law_t17 (i := 15) rfl
theorem dLaw_law_1070 : decode (mcc mLaw_law) 1070 = .ok (.iadd, 1) := chkD_at kLaw_law_t17 (i := 16) rfl
theorem dLaw_law_1071 : decode (mcc mLaw_law) 1071 = .ok (.iaload, 1) := chkD_at kLaw_law_t17 (i := 17) rfl
theorem dLaw_law_1072 : decode (mcc mLaw_law) 1072 = .ok (.invokevirtual 126, 3) := chkD_at kLaw_law_t17 (i := 18) rfl
theorem dLaw_law_1075 : decode (mcc mLaw_law) 1075 = .ok (.pop, 1) := chkD_at kLaw_law_t17 (i := 19) rfl
theorem dLaw_law_1076 : decode (mcc mLaw_law) 1076 = .ok (.goto 643, 3) := chkD_at kLaw_law_t17 (i := 20) rfl
theorem dLaw_law_1079 : decode (mcc mLaw_law) 1079 = .ok (.aload_n 1, 1) := chkD_at kLaw_law_t17 (i := 21) rfl
theorem dLaw_law_1080 : decode (mcc mLaw_law) 1080 = .ok (.invokevirtual 127, 3) := chkD_at kLaw_law_t17 (i := 22) rfl
theorem dLaw_law_1083 : decode (mcc mLaw_law) 1083 = .ok (.pop, 1) := chkD_at kLaw_law_t17 (i := 23) rfl
theorem dLaw_law_1084 : decode (mcc mLaw_law) 1084 = .ok (.aload_n 2, 1) := chkD_at kLaw_law_t17 (i := 24) rfl
theorem dLaw_law_1085 : decode (mcc mLaw_law) 1085 = .ok (.invokevirtual 130, 3) := chkD_at kLaw_law_t17 (i := 25) rfl
theorem dLaw_law_1088 : decode (mcc mLaw_law) 1088 = .ok (.pop, 1) := chkD_at kLaw_law_t17 (i := 26) rfl
theorem dLaw_law_1089 : decode (mcc mLaw_law) 1089 = .ok (.goto 630, 3) := chkD_at kLaw_law_t17 (i := 27) rfl
theorem dLaw_law_1092 : decode (mcc mLaw_law) 1092 = .ok (.aload_n 1, 1) := chkD_at kLaw_law_t17 (i := 28) rfl
theorem dLaw_law_1093 : decode (mcc mLaw_law) 1093 = .ok (.aload_n 0, 1) := chkD_at kLaw_law_t17 (i := 29) rfl
theorem dLaw_law_1094 : decode (mcc mLaw_law) 1094 = .ok (.iload_n 3, 1) := chkD_at kLaw_law_t17 (i := 30) rfl
theorem dLaw_law_1095 : decode (mcc mLaw_law) 1095 = .ok (.iconst 1, 1) := chkD_at kLaw_law_t17 (i := 31) rfl
theorem dLaw_law_1096 : decode (mcc mLaw_law) 1096 = .ok (.iadd, 1) := chkD_at kLaw_law_t17 (i := 32) rfl
theorem dLaw_law_1097 : decode (mcc mLaw_law) 1097 = .ok (.iaload, 1) := chkD_at kLaw_law_t17 (i := 33) rfl
theorem dLaw_law_1098 : decode (mcc mLaw_law) 1098 = .ok (.aload_n 0, 1) := chkD_at kLaw_law_t17 (i := 34) rfl
theorem dLaw_law_1099 : decode (mcc mLaw_law) 1099 = .ok (.iload_n 3, 1) := chkD_at kLaw_law_t17 (i := 35) rfl
theorem dLaw_law_1100 : decode (mcc mLaw_law) 1100 = .ok (.iconst 2, 1) := chkD_at kLaw_law_t17 (i := 36) rfl
theorem dLaw_law_1101 : decode (mcc mLaw_law) 1101 = .ok (.iadd, 1) := chkD_at kLaw_law_t17 (i := 37) rfl
theorem dLaw_law_1102 : decode (mcc mLaw_law) 1102 = .ok (.iaload, 1) := chkD_at kLaw_law_t17 (i := 38) rfl
theorem dLaw_law_1103 : decode (mcc mLaw_law) 1103 = .ok (.invokevirtual 131, 3) := chkD_at kLaw_law_t17 (i := 39) rfl
def tLaw_law_t18 : List (Nat × Instr × Nat) := [(1106, .pop, 1), (1107, .aload_n 2, 1), (1108, .aload_n 0, 1), (1109, .iload_n 3, 1), (1110, .iconst 1, 1), (1111, .iadd, 1), (1112, .iaload, 1), (1113, .aload_n 0, 1), (1114, .iload_n 3, 1), (1115, .iconst 2, 1), (1116, .iadd, 1), (1117, .iaload, 1), (1118, .invokevirtual 134, 3), (1121, .pop, 1), (1122, .goto 597, 3), (1125, .aload_n 1, 1), (1126, .aload_n 0, 1), (1127, .iload_n 3, 1), (1128, .iconst 1, 1), (1129, .iadd, 1), (1130, .iaload, 1), (1131, .invokevirtual 135, 3), (1134, .pop, 1), (1135, .aload_n 2, 1), (1136, .aload_n 0, 1), (1137, .iload_n 3, 1), (1138, .iconst 1, 1), (1139, .iadd, 1), (1140, .iaload, 1), (1141, .invokevirtual 138, 3), (1144, .pop, 1), (1145, .goto 574, 3), (1148, .aload_n 1, 1), (1149, .aload_n 0, 1), (1150, .iload_n 3, 1), (1151, .iconst 1, 1), (1152, .iadd, 1), (1153, .iaload, 1), (1154, .aload_n 0, 1), (1155, .iload_n 3, 1)]
theorem kLaw_law_t18 : chkD (mcc mLaw_law) tLaw_law_t18 = true := by decide +kernel
theorem dLaw_law_1106 : decode (mcc mLaw_law) 1106 = .ok (.pop, 1) := chkD_at kLaw_law_t18 (i := 0) rfl
theorem dLaw_law_1107 : decode (mcc mLaw_law) 1107 = .ok (.aload_n 2, 1) := chkD_at kLaw_law_t18 (i := 1) rfl
theorem dLaw_law_1108 : decode (mcc mLaw_law) 1108 = .ok (.aload_n 0, 1) := chkD_at kLaw_law_t18 (i := 2) rfl
theorem dLaw_law_1109 : decode (mcc mLaw_law) 1109 = .ok (.iload_n 3, 1) := chkD_at kLaw_law_t18 (i := 3) rfl
theorem dLaw_law_1110 : decode (mcc mLaw_law) 1110 = .ok (.iconst 1, 1) := chkD_at kLaw_law_t18 (i := 4) rfl
theorem dLaw_law_1111 : decode (mcc mLaw_law) 1111 = .ok (.iadd, 1) := chkD_at kLaw_law_t18 (i := 5) rfl
theorem dLaw_law_1112 : decode (mcc mLaw_law) 1112 = .ok (.iaload, 1) := chkD_at kLaw_law_t18 (i := 6) rfl
theorem dLaw_law_1113 : decode (mcc mLaw_law) 1113 = .ok (.aload_n 0, 1) := chkD_at kLaw_law_t18 (i := 7) rfl
theorem dLaw_law_1114 : decode (mcc mLaw_law) 1114 = .ok (.iload_n 3, 1) := chkD_at kLaw_law_t18 (i := 8) rfl
theorem dLaw_law_1115 : decode (mcc mLaw_law) 1115 = .ok (.iconst 2, 1) := chkD_at kLaw_law_t18 (i := 9) rfl
theorem dLaw_law_1116 : decode (mcc mLaw_law) 1116 = .ok (.iadd, 1) := chkD_at kLaw_law_t18 (i := 10) rfl
theorem dLaw_law_1117 : decode (mcc mLaw_law) 1117 = .ok (.iaload, 1) := chkD_at kLaw_law_t18 (i := 11) rfl
theorem dLaw_law_1118 : decode (mcc mLaw_law) 1118 = .ok (.invokevirtual 134, 3) := chkD_at kLaw_law_t18 (i := 12) rfl
theorem dLaw_law_1121 : decode (mcc mLaw_law) 1121 = .ok (.pop, 1) := chkD_at kLaw_law_t18 (i := 13) rfl
theorem dLaw_law_1122 : decode (mcc mLaw_law) 1122 = .ok (.goto 597, 3) := chkD_at kLaw_law_t18 (i := 14) rfl
theorem dLaw_law_1125 : decode (mcc mLaw_law) 1125 = .ok (.aload_n 1, 1) := chkD_at kLaw_law_t18 (i := 15) rfl
theorem dLaw_law_1126 : decode (mcc mLaw_law) 1126 = .ok (.aload_n 0, 1) := chkD_at kLaw_law_t18 (i := 16) rfl
theorem dLaw_law_1127 : decode (mcc mLaw_law) 1127 = .ok (.iload_n 3, 1) := chkD_at kLaw_law_t18 (i := 17) rfl
theorem dLaw_law_1128 : decode (mcc mLaw_law) 1128 = .ok (.iconst 1, 1) := chkD_at kLaw_law_t18 (i := 18) rfl
theorem dLaw_law_1129 : decode (mcc mLaw_law) 1129 = .ok (.iadd, 1) := chkD_at kLaw_law_t18 (i := 19) rfl
theorem dLaw_law_1130 : decode (mcc mLaw_law) 1130 = .ok (.iaload, 1) := chkD_at kLaw_law_t18 (i := 20) rfl
theorem dLaw_law_1131 : decode (mcc mLaw_law) 1131 = .ok (.invokevirtual 135, 3) := chkD_at kLaw_law_t18 (i := 21) rfl
theorem dLaw_law_1134 : decode (mcc mLaw_law) 1134 = .ok (.pop, 1) := chkD_at kLaw_law_t18 (i := 22) rfl
theorem dLaw_law_1135 : decode (mcc mLaw_law) 1135 = .ok (.aload_n 2, 1) := chkD_at kLaw_law_t18 (i := 23) rfl
theorem dLaw_law_1136 : decode (mcc mLaw_law) 1136 = .ok (.aload_n 0, 1) := chkD_at kLaw_law_t18 (i := 24) rfl
theorem dLaw_law_1137 : decode (mcc mLaw_law) 1137 = .ok (.iload_n 3, 1) := chkD_at kLaw_law_t18 (i := 25) rfl
theorem dLaw_law_1138 : decode (mcc mLaw_law) 1138 = .ok (.iconst 1, 1) := chkD_at kLaw_law_t18 (i := 26) rfl
theorem dLaw_law_1139 : decode (mcc mLaw_law) 1139 = .ok (.iadd, 1) := chkD_at kLaw_law_t18 (i := 27) rfl
theorem dLaw_law_1140 : decode (mcc mLaw_law) 1140 = .ok (.iaload, 1) := chkD_at kLaw_law_t18 (i := 28) rfl
theorem dLaw_law_1141 : decode (mcc mLaw_law) 1141 = .ok (.invokevirtual 138, 3) := chkD_at kLaw_law_t18 (i := 29) rfl
theorem dLaw_law_1144 : decode (mcc mLaw_law) 1144 = .ok (.pop, 1) := chkD_at kLaw_law_t18 (i := 30) rfl
theorem dLaw_law_1145 : decode (mcc mLaw_law) 1145 = .ok (.goto 574, 3) := chkD_at kLaw_law_t18 (i := 31) rfl
theorem dLaw_law_1148 : decode (mcc mLaw_law) 1148 = .ok (.aload_n 1, 1) := chkD_at kLaw_law_t18 (i := 32) rfl
theorem dLaw_law_1149 : decode (mcc mLaw_law) 1149 = .ok (.aload_n 0, 1) := chkD_at kLaw_law_t18 (i := 33) rfl
theorem dLaw_law_1150 : decode (mcc mLaw_law) 1150 = .ok (.iload_n 3, 1) := chkD_at kLaw_law_t18 (i := 34) rfl
theorem dLaw_law_1151 : decode (mcc mLaw_law) 1151 = .ok (.iconst 1, 1) := chkD_at kLaw_law_t18 (i := 35) rfl
theorem dLaw_law_1152 : decode (mcc mLaw_law) 1152 = .ok (.iadd, 1) := chkD_at kLaw_law_t18 (i := 36) rfl
theorem dLaw_law_1153 : decode (mcc mLaw_law) 1153 = .ok (.iaload, 1) := chkD_at kLaw_law_t18 (i := 37) rfl
theorem dLaw_law_1154 : decode (mcc mLaw_law) 1154 = .ok (.aload_n 0, 1) := chkD_at kLaw_law_t18 (i := 38) rfl
theorem dLaw_law_1155 : decode (mcc mLaw_law) 1155 = .ok (.iload_n 3, 1) := chkD_at kLaw_law_t18 (i := 39) rfl
def tLaw_law_t19 : List (Nat × Instr × Nat) := [(1156, .iconst 2, 1), (1157, .iadd, 1), (1158, .iaload, 1), (1159, .invokevirtual 139, 3), (1162, .pop, 1), (1163, .aload_n 2, 1), (1164, .aload_n 0, 1), (1165, .iload_n 3, 1), (1166, .iconst 1, 1), (1167, .iadd, 1), (1168, .iaload, 1), (1169, .aload_n 0, 1), (1170, .iload_n 3, 1), (1171, .iconst 2, 1), (1172, .iadd, 1), (1173, .iaload, 1), (1174, .invokevirtual 142, 3), (1177, .pop, 1), (1178, .goto 541, 3), (1181, .aload_n 1, 1), (1182, .aload_n 0, 1), (1183, .iload_n 3, 1), (1184, .iconst 1, 1), (1185, .iadd, 1), (1186, .iaload, 1), (1187, .aload_n 0, 1), (1188, .iload_n 3, 1), (1189, .iconst 2, 1), (1190, .iadd, 1), (1191, .iaload, 1), (1192, .invokevirtual 143, 3), (1195, .pop, 1), (1196, .aload_n 2, 1), (1197, .aload_n 0, 1), (1198, .iload_n 3, 1), (1199, .iconst 1, 1), (1200, .iadd, 1), (1201, .iaload, 1), (1202, .aload_n 0, 1), (1203, .iload_n 3, 1)]
theorem kLaw_law_t19 : chkD (mcc mLaw_law) tLaw_law_t19 = true := by decide +kernel
theorem dLaw_law_1156 : decode (mcc mLaw_law) 1156 = .ok (.iconst 2, 1) := chkD_at kLaw_law_t19 (i := 0) rfl
theorem dLaw_law_1157 : decode (mcc mLaw_law) 1157 = .ok (.iadd, 1) := chkD_at kLaw_law_t19 (i := 1) rfl
theorem dLaw_law_1158 : decode (mcc mLaw_law) 1158 = .ok (.iaload, 1) := chkD_at kLaw_law_t19 (i := 2) rfl
theorem dLaw_law_1159 : decode (mcc mLaw_law) 1159 = .ok (.invokevirtual 139, 3) := chkD_at kLaw_law_t19 (i := 3) rfl
theorem dLaw_law_1162 : decode (mcc mLaw_law) 1162 = .ok (.pop, 1) := chkD_at kLaw_law_t19 (i := 4) rfl
theorem dLaw_law_1163 : decode (mcc mLaw_law) 1163 = .ok (.aload_n 2, 1) := chkD_at kLaw_law_t19 (i := 5) rfl
theorem dLaw_law_1164 : decode (mcc mLaw_law) 1164 = .ok (.aload_n 0, 1) := chkD_at kLaw_law_t19 (i := 6) rfl
theorem dLaw_law_1165 : decode (mcc mLaw_law) 1165 = .ok (.iload_n 3, 1) := chkD_at kLaw_law_t19 (i := 7) rfl
theorem dLaw_law_1166 : decode (mcc mLaw_law) 1166 = .ok (.iconst 1, 1) := chkD_at kLaw_law_t19 (i := 8) rfl
theorem dLaw_law_1167 : decode (mcc mLaw_law) 1167 = .ok (.iadd, 1) := chkD_at kLaw_law_t19 (i := 9) rfl
theorem dLaw_law_1168 : decode (mcc mLaw_law) 1168 = .ok (.iaload, 1) := chkD_at kLaw_law_t19 (i := 10) rfl
theorem dLaw_law_1169 : decode (mcc mLaw_law) 1169 = .ok (.aload_n 0, 1) := chkD_at kLaw_law_t19 (i := 11) rfl
theorem dLaw_law_1170 : decode (mcc mLaw_law) 1170 = .ok (.iload_n 3, 1) := chkD_at kLaw_law_t19 (i := 12) rfl
theorem dLaw_law_1171 : decode (mcc mLaw_law) 1171 = .ok (.iconst 2, 1) := chkD_at kLaw_law_t19 (i := 13) rfl
theorem dLaw_law_1172 : decode (mcc mLaw_law) 1172 = .ok (.iadd, 1) := chkD_at kLaw_law_t19 (i := 14) rfl
theorem dLaw_law_1173 : decode (mcc mLaw_law) 1173 = .ok (.iaload, 1) := chkD_at kLaw_law_t19 (i := 15) rfl
theorem dLaw_law_1174 : decode (mcc mLaw_law) 1174 = .ok (.invokevirtual 142, 3) := chkD_at kLaw_law_t19 (i := 16) rfl
theorem dLaw_law_1177 : decode (mcc mLaw_law) 1177 = .ok (.pop, 1) := chkD_at kLaw_law_t19 (i := 17) rfl
theorem dLaw_law_1178 : decode (mcc mLaw_law) 1178 = .ok (.goto 541, 3) := chkD_at kLaw_law_t19 (i := 18) rfl
theorem dLaw_law_1181 : decode (mcc mLaw_law) 1181 = .ok (.aload_n 1, 1) := chkD_at kLaw_law_t19 (i := 19) rfl
theorem dLaw_law_1182 : decode (mcc mLaw_law) 1182 = .ok (.aload_n 0, 1) := chkD_at kLaw_law_t19 (i := 20) rfl
theorem dLaw_law_1183 : decode (mcc mLaw_law) 1183 = .ok (.iload_n 3, 1) := chkD_at kLaw_law_t19 (i := 21) rfl
theorem dLaw_law_1184 : decode (mcc mLaw_law) 1184 = .ok (.iconst 1, 1) := chkD_at kLaw_law_t19 (i := 22) rfl
theorem dLaw_law_1185 : decode (mcc mLaw_law) 1185 = .ok (.iadd, 1) := chkD_at kLaw_law_t19 (i := 23) rfl
theorem dLaw_law_1186 : decode (mcc mLaw_law) 1186 = .ok (.iaload, 1) := chkD_at kLaw_law_t19 (i := 24) rfl
theorem dLaw_law_1187 : decode (mcc mLaw_law) 1187 = .ok (.aload_n 0, 1) := chkD_at kLaw_law_t19 (i := 25) rfl
theorem dLaw_law_1188 : decode (mcc mLaw_law) 1188 = .ok (.iload_n 3, 1) := chkD_at kLaw_law_t19 (i := 26) rfl
theorem dLaw_law_1189 : decode (mcc mLaw_law) 1189 = .ok (.iconst 2, 1) := chkD_at kLaw_law_t19 (i := 27) rfl
theorem dLaw_law_1190 : decode (mcc mLaw_law) 1190 = .ok (.iadd, 1) := chkD_at kLaw_law_t19 (i := 28) rfl
theorem dLaw_law_1191 : decode (mcc mLaw_law) 1191 = .ok (.iaload, 1) := chkD_at kLaw_law_t19 (i := 29) rfl
theorem dLaw_law_1192 : decode (mcc mLaw_law) 1192 = .ok (.invokevirtual 143, 3) := chkD_at kLaw_law_t19 (i := 30) rfl
theorem dLaw_law_1195 : decode (mcc mLaw_law) 1195 = .ok (.pop, 1) := chkD_at kLaw_law_t19 (i := 31) rfl
theorem dLaw_law_1196 : decode (mcc mLaw_law) 1196 = .ok (.aload_n 2, 1) := chkD_at kLaw_law_t19 (i := 32) rfl
theorem dLaw_law_1197 : decode (mcc mLaw_law) 1197 = .ok (.aload_n 0, 1) := chkD_at kLaw_law_t19 (i := 33) rfl
theorem dLaw_law_1198 : decode (mcc mLaw_law) 1198 = .ok (.iload_n 3, 1) := chkD_at kLaw_law_t19 (i := 34) rfl
theorem dLaw_law_1199 : decode (mcc mLaw_law) 1199 = .ok (.iconst 1, 1) := chkD_at kLaw_law_t19 (i := 35) rfl
theorem dLaw_law_1200 : decode (mcc mLaw_law) 1200 = .ok (.iadd, 1) := chkD_at kLaw_law_t19 (i := 36) rfl
theorem dLaw_law_1201 : decode (mcc mLaw_law) 1201 = .ok (.iaload, 1) := chkD_at kLaw_law_t19 (i := 37) rfl
theorem dLaw_law_1202 : decode (mcc mLaw_law) 1202 = .ok (.aload_n 0, 1) := chkD_at kLaw_law_t19 (i := 38) rfl
theorem dLaw_law_1203 : decode (mcc mLaw_law) 1203 = .ok (.iload_n 3, 1) := chkD_at kLaw_law_t19 (i := 39) rfl
def tLaw_law_t20 : List (Nat × Instr × Nat) := [(1204, .iconst 2, 1), (1205, .iadd, 1), (1206, .iaload, 1), (1207, .invokevirtual 146, 3), (1210, .pop, 1), (1211, .goto 508, 3), (1214, .aload_n 1, 1), (1215, .aload_n 0, 1), (1216, .iload_n 3, 1), (1217, .iconst 1, 1), (1218, .iadd, 1), (1219, .iaload, 1), (1220, .invokevirtual 147, 3), (1223, .pop, 1), (1224, .aload_n 2, 1), (1225, .aload_n 0, 1), (1226, .iload_n 3, 1), (1227, .iconst 1, 1), (1228, .iadd, 1), (1229, .iaload, 1), (1230, .invokevirtual 150, 3), (1233, .pop, 1), (1234, .goto 485, 3), (1237, .aload_n 1, 1), (1238, .aload_n 0, 1), (1239, .iload_n 3, 1), (1240, .iconst 1, 1), (1241, .iadd, 1), (1242, .iaload, 1), (1243, .aload_n 0, 1), (1244, .iload_n 3, 1), (1245, .iconst 2, 1), (1246, .iadd, 1), (1247, .iaload, 1), (1248, .invokevirtual 151, 3), (1251, .pop2, 1), (1252, .aload_n 2, 1), (1253, .aload_n 0, 1), (1254, .iload_n 3, 1), (1255, .iconst 1, 1)]
theorem kLaw_law_t20 : chkD (mcc mLaw_law) tLaw_law_t20 = true := by decide +kernel
theorem dLaw_law_1204 : decode (mcc mLaw_law) 1204 = .ok (.iconst 2, 1) := chkD_at kLaw_law_t20 (i := 0) rfl
theorem dLaw_law_1205 : decode (mcc mLaw_law) 1205 = .ok (.iadd, 1) := chkD_at kLaw_law_t20 (i := 1) rfl
theorem dLaw_law_1206 : decode (mcc mLaw_law) 1206 = .ok (.iaload, 1) := chkD_at kLaw_law_t20 (i := 2) rfl
theorem dLaw_law_1207 : decode (mcc mLaw_law) 1207 = .ok (.invokevirtual 146, 3) := chkD_at kLaw_law_t20 (i := 3) rfl
theorem dLaw_law_1210 : decode (mcc mLaw_law) 1210 = .ok (.pop, 1) := chkD_at kLaw_law_t20 (i := 4) rfl
theorem dLaw_law_1211 : decode (mcc mLaw_law) 1211 = .ok (.goto 508, 3) := chkD_at kLaw_law_t20 (i := 5) rfl
theorem dLaw_law_1214 : decode (mcc mLaw_law) 1214 = .ok (.aload_n 1, 1) := chkD_at kLaw_law_t20 (i := 6) rfl
theorem dLaw_law_1215 : decode (mcc mLaw_law) 1215 = .ok (.aload_n 0, 1) := chkD_at kLaw_law_t20 (i := 7) rfl
theorem dLaw_law_1216 : decode (mcc mLaw_law) 1216 = .ok (.iload_n 3, 1) := chkD_at kLaw_law_t20 (i := 8) rfl
theorem dLaw_law_1217 : decode (mcc mLaw_law) 1217 = .ok (.iconst 1, 1) := chkD_at kLaw_law_t20 (i := 9) rfl
theorem dLaw_law_1218 : decode (mcc mLaw_law) 1218 = .ok (.iadd, 1) := chkD_at kLaw_law_t20 (i := 10) rfl
theorem dLaw_law_1219 : decode (mcc mLaw_law) 1219 = .ok (.iaload, 1) := chkD_at kLaw_law_t20 (i := 11) rfl
theorem dLaw_law_1220 : decode (mcc mLaw_law) 1220 = .ok (.invokevirtual 147, 3) := chkD_at kLaw_law_t20 (i := 12) rfl
theorem dLaw_law_1223 : decode (mcc mLaw_law) 1223 = .ok (.pop, 1) := chkD_at kLaw_law_t20 (i := 13) rfl
theorem dLaw_law_1224 : decode (mcc mLaw_law) 1224 = .ok (.aload_n 2, 1) := chkD_at kLaw_law_t20 (i := 14) rfl
theorem dLaw_law_1225 : decode (mcc mLaw_law) 1225 = .ok (.aload_n 0, 1) := chkD_at kLaw_law_t20 (i := 15) rfl
theorem dLaw_law_1226 : decode (mcc mLaw_law) 1226 = .ok (.iload_n 3, 1) := chkD_at kLaw_law_t20 (i := 16) rfl
theorem dLaw_law_1227 : decode (mcc mLaw_law) 1227 = .ok (.iconst 1, 1) := chkD_at kLaw_law_t20 (i := 17) rfl
theorem dLaw_law_1228 : decode (mcc mLaw_law) 1228 = .ok (.iadd, 1) := chkD_at kLaw_law_t20 (i := 18) rfl
theorem dLaw_law_1229 : decode (mcc mLaw_law) 1229 = .ok (.iaload, 1) := chkD_at kLaw_law_t20 (i := 19) rfl
theorem dLaw_law_1230 : decode (mcc mLaw_law) 1230 = .ok (.invokevirtual 150, 3) := chkD_at kLaw_law_t20 (i := 20) rfl
theorem dLaw_law_1233 : decode (mcc mLaw_law) 1233 = .ok (.pop, 1) := chkD_at kLaw_law_t20 (i := 21) rfl
theorem dLaw_law_1234 : decode (mcc mLaw_law) 1234 = .ok (.goto 485, 3) := chkD_at kLaw_law_t20 (i := 22) rfl
theorem dLaw_law_1237 : decode (mcc mLaw_law) 1237 = .ok (.aload_n 1, 1) := chkD_at kLaw_law_t20 (i := 23) rfl
theorem dLaw_law_1238 : decode (mcc mLaw_law) 1238 = .ok (.aload_n 0, 1) := chkD_at kLaw_law_t20 (i := 24) rfl
theorem dLaw_law_1239 : decode (mcc mLaw_law) 1239 = .ok (.iload_n 3, 1) := chkD_at kLaw_law_t20 (i := 25) rfl
theorem dLaw_law_1240 : decode (mcc mLaw_law) 1240 = .ok (.iconst 1, 1) := chkD_at kLaw_law_t20 (i := 26) rfl
theorem dLaw_law_1241 : decode (mcc mLaw_law) 1241 = .ok (.iadd, 1) := chkD_at kLaw_law_t20 (i := 27) rfl
theorem dLaw_law_1242 : decode (mcc mLaw_law) 1242 = .ok (.iaload, 1) := chkD_at kLaw_law_t20 (i := 28) rfl
theorem dLaw_law_1243 : decode (mcc mLaw_law) 1243 = .ok (.aload_n 0, 1) := chkD_at kLaw_law_t20 (i := 29) rfl
theorem dLaw_law_1244 : decode (mcc mLaw_law) 1244 = .ok (.iload_n 3, 1) := chkD_at kLaw_law_t20 (i := 30) rfl
theorem dLaw_law_1245 : decode (mcc mLaw_law) 1245 = .ok (.iconst 2, 1) := chkD_at kLaw_law_t20 (i := 31) rfl
theorem dLaw_law_1246 : decode (mcc mLaw_law) 1246 = .ok (.iadd, 1) := chkD_at kLaw_law_t20 (i := 32) rfl
theorem dLaw_law_1247 : decode (mcc mLaw_law) 1247 = .ok (.iaload, 1) := chkD_at kLaw_law_t20 (i := 33) rfl
theorem dLaw_law_1248 : decode (mcc mLaw_law) 1248 = .ok (.invokevirtual 151, 3) := chkD_at kLaw_law_t20 (i := 34) rfl
theorem dLaw_law_1251 : decode (mcc mLaw_law) 1251 = .ok (.pop2, 1) := chkD_at kLaw_law_t20 (i := 35) rfl
theorem dLaw_law_1252 : decode (mcc mLaw_law) 1252 = .ok (.aload_n 2, 1) := chkD_at kLaw_law_t20 (i := 36) rfl
theorem dLaw_law_1253 : decode (mcc mLaw_law) 1253 = .ok (.aload_n 0, 1) := chkD_at kLaw_law_t20 (i := 37) rfl
theorem dLaw_law_1254 : decode (mcc mLaw_law) 1254 = .ok (.iload_n 3, 1) := chkD_at kLaw_law_t20 (i := 38) rfl
theorem dLaw_law_1255 : decode (mcc mLaw_law) 1255 = .ok (.iconst 1, 1) := chkD_at kLaw_law_t20 (i := 39) rfl
def tLaw_law_t21 : List (Nat × Instr × Nat) := [(1256, .iadd, 1), (1257, .iaload, 1), (1258, .aload_n 0, 1), (1259, .iload_n 3, 1), (1260, .iconst 2, 1), (1261, .iadd, 1), (1262, .iaload, 1), (1263, .invokevirtual 155, 3), (1266, .pop2, 1), (1267, .goto 452, 3), (1270, .aload_n 1, 1), (1271, .aload_n 0, 1), (1272, .iload_n 3, 1), (1273, .iconst 1, 1), (1274, .iadd, 1), (1275, .iaload, 1), (1276, .invokevirtual 156, 3), (1279, .pop2, 1), (1280, .aload_n 2, 1), (1281, .aload_n 0, 1), (1282, .iload_n 3, 1), (1283, .iconst 1, 1), (1284, .iadd, 1), (1285, .iaload, 1), (1286, .invokevirtual 160, 3), (1289, .pop2, 1), (1290, .goto 429, 3), (1293, .aload_n 1, 1), (1294, .aload_n 0, 1), (1295, .iload_n 3, 1), (1296, .iconst 1, 1), (1297, .iadd, 1), (1298, .iaload, 1), (1299, .invokevirtual 161, 3), (1302, .pop, 1), (1303, .aload_n 2, 1), (1304, .aload_n 0, 1), (1305, .iload_n 3, 1), (1306, .iconst 1, 1), (1307, .iadd, 1)]
theorem kLaw_law_t21 : chkD (mcc mLaw_law) tLaw_law_t21 = true := by decide +kernel
theorem dLaw_law_1256 : decode (mcc mLaw_law) 1256 = .ok (.iadd, 1) := chkD_at kLaw_law_t21 (i := 0) rfl
theorem dLaw_law_1257 : decode (mcc mLaw_law) 1257 = .ok (.iaload, 1) := chkD_at kLaw_law_t21 (i := 1) rfl
theorem dLaw_law_1258 : decode (mcc mLaw_law) 1258 = .ok (.aload_n 0, 1) := chkD_at kLaw_law_t21 (i := 2) rfl
theorem dLaw_law_1259 : decode (mcc mLaw_law) 1259 = .ok (.iload_n 3, 1) := chkD_at kLaw_law_t21 (i := 3) rfl
theorem dLaw_law_1260 : decode (mcc mLaw_law) 1260 = .ok (.iconst 2, 1) := chkD_at kLaw_law_t21 (i := 4) rfl
theorem dLaw_law_1261 : decode (mcc mLaw_law) 1261 = .ok (.iadd, 1) := chkD_at kLaw_law_t21 (i := 5) rfl
theorem dLaw_law_1262 : decode (mcc mLaw_law) 1262 = .ok (.iaload, 1) := chkD_at kLaw_law_t21 (i := 6) rfl
theorem dLaw_law_1263 : decode (mcc mLaw_law) 1263 = .ok (.invokevirtual 155, 3) := chkD_at kLaw_law_t21 (i := 7) rfl
theorem dLaw_law_1266 : decode (mcc mLaw_law) 1266 = .ok (.pop2, 1) := chkD_at kLaw_law_t21 (i := 8) rfl
theorem dLaw_law_1267 : decode (mcc mLaw_law) 1267 = .ok (.goto 452, 3) := chkD_at kLaw_law_t21 (i := 9) rfl
theorem dLaw_law_1270 : decode (mcc mLaw_law) 1270 = .ok (.aload_n 1, 1) := chkD_at kLaw_law_t21 (i := 10) rfl
theorem dLaw_law_1271 : decode (mcc mLaw_law) 1271 = .ok (.aload_n 0, 1) := chkD_at kLaw_law_t21 (i := 11) rfl
theorem dLaw_law_1272 : decode (mcc mLaw_law) 1272 = .ok (.iload_n 3, 1) := chkD_at kLaw_law_t21 (i := 12) rfl
theorem dLaw_law_1273 : decode (mcc mLaw_law) 1273 = .ok (.iconst 1, 1) := chkD_at kLaw_law_t21 (i := 13) rfl
theorem dLaw_law_1274 : decode (mcc mLaw_law) 1274 = .ok (.iadd, 1) := chkD_at kLaw_law_t21 (i := 14) rfl
theorem dLaw_law_1275 : decode (mcc mLaw_law) 1275 = .ok (.iaload, 1) := chkD_at kLaw_law_t21 (i := 15) rfl
theorem dLaw_law_1276 : decode (mcc mLaw_law) 1276 = .ok (.invokevirtual 156, 3) := chkD_at kLaw_law_t21 (i := 16) rfl
theorem dLaw_law_1279 : decode (mcc mLaw_law) 1279 = .ok (.pop2, 1) := chkD_at kLaw_law_t21 (i := 17) rfl
theorem dLaw_law_1280 : decode (mcc mLaw_law) 1280 = .ok (.aload_n 2, 1) := chkD_at kLaw_law_t21 (i := 18) rfl
theorem dLaw_law_1281 : decode (mcc mLaw_law) 1281 = .ok (.aload_n 0, 1) := chkD_at kLaw_law_t21 (i := 19) rfl
theorem dLaw_law_1282 : decode (mcc mLaw_law) 1282 = .ok (.iload_n 3, 1) := chkD_at kLaw_law_t21 (i := 20) rfl
theorem dLaw_law_1283 : decode (mcc mLaw_law) 1283 = .ok (.iconst 1, 1) := chkD_at kLaw_law_t21 (i := 21) rfl
theorem dLaw_law_1284 : decode (mcc mLaw_law) 1284 = .ok (.iadd, 1) := chkD_at kLaw_law_t21 (i := 22) rfl
theorem dLaw_law_1285 : decode (mcc mLaw_law) 1285 = .ok (.iaload, 1) := chkD_at kLaw_law_t21 (i := 23) rfl
theorem dLaw_law_1286 : decode (mcc mLaw_law) 1286 = .ok (.invokevirtual 160, 3) := chkD_at kLaw_law_t21 (i := 24) rfl
theorem dLaw_law_1289 : decode (mcc mLaw_law) 1289 = .ok (.pop2, 1) := chkD_at kLaw_law_t21 (i := 25) rfl
theorem dLaw_law_1290 : decode (mcc mLaw_law) 1290 = .ok (.goto 429, 3) := chkD_at kLaw_law_t21 (i := 26) rfl
theorem dLaw_law_1293 : decode (mcc mLaw_law) 1293 = .ok (.aload_n 1, 1) := chkD_at kLaw_law_t21 (i := 27) rfl
theorem dLaw_law_1294 : decode (mcc mLaw_law) 1294 = .ok (.aload_n 0, 1) := chkD_at kLaw_law_t21 (i := 28) rfl
theorem dLaw_law_1295 : decode (mcc mLaw_law) 1295 = .ok (.iload_n 3, 1) := chkD_at kLaw_law_t21 (i := 29) rfl
theorem dLaw_law_1296 : decode (mcc mLaw_law) 1296 = .ok (.iconst 1, 1) := chkD_at kLaw_law_t21 (i := 30) rfl
theorem dLaw_law_1297 : decode (mcc mLaw_law) 1297 = .ok (.iadd, 1) := chkD_at kLaw_law_t21 (i := 31) rfl
theorem dLaw_law_1298 : decode (mcc mLaw_law) 1298 = .ok (.iaload, 1) := chkD_at kLaw_law_t21 (i := 32) rfl
theorem dLaw_law_1299 : decode (mcc mLaw_law) 1299 = .ok (.invokevirtual 161, 3) := chkD_at kLaw_law_t21 (i := 33) rfl
theorem dLaw_law_1302 : decode (mcc mLaw_law) 1302 = .ok (.pop, 1) := chkD_at kLaw_law_t21 (i := 34) rfl
theorem dLaw_law_1303 : decode (mcc mLaw_law) 1303 = .ok (.aload_n 2, 1) := chkD_at kLaw_law_t21 (i := 35) rfl
theorem dLaw_law_1304 : decode (mcc mLaw_law) 1304 = .ok (.aload_n 0, 1) := chkD_at kLaw_law_t21 (i := 36) rfl
theorem dLaw_law_1305 : decode (mcc mLaw_law) 1305 = .ok (.iload_n 3, 1) := chkD_at kLaw_law_t21 (i := 37) rfl
theorem dLaw_law_1306 : decode (mcc mLaw_law) 1306 = .ok (.iconst 1, 1) := chkD_at kLaw_law_t21 (i := 38) rfl
theorem dLaw_law_1307 : decode (mcc mLaw_law) 1307 = .ok (.iadd, 1) := chkD_at kLaw_law_t21 (i := 39) rfl
def tLaw_law_t22 : List (Nat × Instr × Nat) := [(1308, .iaload, 1), (1309, .invokevirtual 164, 3), (1312, .pop, 1), (1313, .goto 406, 3), (1316, .aload_n 1, 1), (1317, .aload_n 0, 1), (1318, .iload_n 3, 1), (1319, .iconst 1, 1), (1320, .iadd, 1), (1321, .iaload, 1), (1322, .invokevirtual 165, 3), (1325, .pop, 1), (1326, .aload_n 2, 1), (1327, .aload_n 0, 1), (1328, .iload_n 3, 1), (1329, .iconst 1, 1), (1330, .iadd, 1), (1331, .iaload, 1), (1332, .invokevirtual 168, 3), (1335, .pop, 1), (1336, .goto 383, 3), (1339, .aload_n 1, 1), (1340, .aload_n 0, 1), (1341, .iload_n 3, 1), (1342, .iconst 1, 1), (1343, .iadd, 1), (1344, .iaload, 1), (1345, .aload_n 0, 1), (1346, .iload_n 3, 1), (1347, .iconst 2, 1), (1348, .iadd, 1), (1349, .iaload, 1), (1350, .invokevirtual 169, 3), (1353, .pop, 1), (1354, .aload_n 2, 1), (1355, .aload_n 0, 1), (1356, .iload_n 3, 1), (1357, .iconst 1, 1), (1358, .iadd, 1), (1359, .iaload, 1)]
theorem kLaw_law_t22 : chkD (mcc mLaw_law) tLaw_law_t22 = true := by decide +kernel
theorem dLaw_law_1308 : decode (mcc mLaw_law) 1308 = .ok (.iaload, 1) := chkD_at kLaw_law_t22 (i := 0) rfl
theorem dLaw_law_1309 : decode (mcc mLaw_law) 1309 = .ok (.invokevirtual 164, 3) := chkD_at kLaw_law_t22 (i := 1) rfl
theorem dLaw_law_1312 : decode (mcc mLaw_law) 1312 = .ok (.pop, 1) := chkD_at kLaw_law_t22 (i := 2) rfl
theorem dLaw_law_1313 : decode (mcc mLaw_law) 1313 = .ok (.goto 406, 3) := chkD_at kLaw_law_t22 (i := 3) rfl
theorem dLaw_law_1316 : decode (mcc mLaw_law) 1316 = .ok (.aload_n 1, 1) := chkD_at kLaw_law_t22 (i := 4) rfl
theorem dLaw_law_1317 : decode (mcc mLaw_law) 1317 = .ok (.aload_n 0, 1) := chkD_at kLaw_law_t22 (i := 5) rfl
theorem dLaw_law_1318 : decode (mcc mLaw_law) 1318 = .ok (.iload_n 3, 1) := chkD_at kLaw_law_t22 (i := 6) rfl
theorem dLaw_law_1319 : decode (mcc mLaw_law) 1319 = .ok (.iconst 1, 1) := chkD_at kLaw_law_t22 (i := 7) rfl
theorem dLaw_law_1320 : decode (mcc mLaw_law) 1320 = .ok (.iadd, 1) := chkD_at kLaw_law_t22 (i := 8) rfl
theorem dLaw_law_1321 : decode (mcc mLaw_law) 1321 = .ok (.iaload, 1) := chkD_at kLaw_law_t22 (i := 9) rfl
theorem dLaw_law_1322 : decode (mcc mLaw_law) 1322 = .ok (.invokevirtual 165, 3) := chkD_at kLaw_law_t22 (i := 10) rfl
theorem dLaw_law_1325 : decode (mcc mLaw_law) 1325 = .ok (.pop, 1) := chkD_at kLaw_law_t22 (i := 11) rfl
theorem dLaw_law_1326 : decode (mcc mLaw_law) 1326 = .ok (.aload_n 2, 1) := chkD_at kLaw_law_t22 (i := 12) rfl
theorem dLaw_law_1327 : decode (mcc mLaw_law) 1327 = .ok (.aload_n 0, 1) := chkD_at kLaw_law_t22 (i := 13) rfl
theorem dLaw_law_1328 : decode (mcc mLaw_law) 1328 = .ok (.iload_n 3, 1) := chkD_at kLaw_law_t22 (i := 14) rfl
theorem dLaw_law_1329 : decode (mcc mLaw_law) 1329 = .ok (.iconst 1, 1) := chkD_at kLaw_law_t22 (i := 15) rfl
theorem dLaw_law_1330 : decode (mcc mLaw_law) 1330 = .ok (.iadd, 1) := chkD_at kLaw_law_t22 (i := 16) rfl
theorem dLaw_law_1331 : decode (mcc mLaw_law) 1331 = .ok (.iaload, 1) := chkD_at kLaw_law_t22 (i := 17) rfl
theorem dLaw_law_1332 : decode (mcc mLaw_law) 1332 = .ok (.invokevirtual 168, 3) := chkD_at kLaw_law_t22 (i := 18) rfl
theorem dLaw_law_1335 : decode (mcc mLaw_law) 1335 = .ok (.pop, 1) := chkD_at kLaw_law_t22 (i := 19) rfl
theorem dLaw_law_1336 : decode (mcc mLaw_law) 1336 = .ok (.goto 383, 3) := chkD_at kLaw_law_t22 (i := 20) rfl
theorem dLaw_law_1339 : decode (mcc mLaw_law) 1339 = .ok (.aload_n 1, 1) := chkD_at kLaw_law_t22 (i := 21) rfl
theorem dLaw_law_1340 : decode (mcc mLaw_law) 1340 = .ok (.aload_n 0, 1) := chkD_at kLaw_law_t22 (i := 22) rfl
theorem dLaw_law_1341 : decode (mcc mLaw_law) 1341 = .ok (.iload_n 3, 1) := chkD_at kLaw_law_t22 (i := 23) rfl
theorem dLaw_law_1342 : decode (mcc mLaw_law) 1342 = .ok (.iconst 1, 1) := chkD_at kLaw_law_t22 (i := 24) rfl
theorem dLaw_law_1343 : decode (mcc mLaw_law) 1343 = .ok (.iadd, 1) := chkD_at kLaw_law_t22 (i := 25) rfl
theorem dLaw_law_1344 : decode (mcc mLaw_law) 1344 = .ok (.iaload, 1) := chkD_at kLaw_law_t22 (i := 26) rfl
theorem dLaw_law_1345 : decode (mcc mLaw_law) 1345 = .ok (.aload_n 0, 1) := chkD_at kLaw_law_t22 (i := 27) rfl
theorem dLaw_law_1346 : decode (mcc mLaw_law) 1346 = .ok (.iload_n 3, 1) := chkD_at kLaw_law_t22 (i := 28) rfl
theorem dLaw_law_1347 : decode (mcc mLaw_law) 1347 = .ok (.iconst 2, 1) := chkD_at kLaw_law_t22 (i := 29) rfl
theorem dLaw_law_1348 : decode (mcc mLaw_law) 1348 = .ok (.iadd, 1) := chkD_at kLaw_law_t22 (i := 30) rfl
theorem dLaw_law_1349 : decode (mcc mLaw_law) 1349 = .ok (.iaload, 1) := chkD_at kLaw_law_t22 (i := 31) rfl
theorem dLaw_law_1350 : decode (mcc mLaw_law) 1350 = .ok (.invokevirtual 169, 3) := chkD_at kLaw_law_t22 (i := 32) rfl
theorem dLaw_law_1353 : decode (mcc mLaw_law) 1353 = .ok (.pop, 1) := chkD_at kLaw_law_t22 (i := 33) rfl
theorem dLaw_law_1354 : decode (mcc mLaw_law) 1354 = .ok (.aload_n 2, 1) := chkD_at kLaw_law_t22 (i := 34) rfl
theorem dLaw_law_1355 : decode (mcc mLaw_law) 1355 = .ok (.aload_n 0, 1) := chkD_at kLaw_law_t22 (i := 35) rfl
theorem dLaw_law_1356 : decode (mcc mLaw_law) 1356 = .ok (.iload_n 3, 1) := chkD_at kLaw_law_t22 (i := 36) rfl
theorem dLaw_law_1357 : decode (mcc mLaw_law) 1357 = .ok (.iconst 1, 1) := chkD_at kLaw_law_t22 (i := 37) rfl
theorem dLaw_law_1358 : decode (mcc mLaw_law) 1358 = .ok (.iadd, 1) := chkD_at kLaw_law_t22 (i := 38) rfl
theorem dLaw_law_1359 : decode (mcc mLaw_law) 1359 = .ok (.iaload, 1) := chkD_at kLaw_law_t22 (i := 39) rfl
def tLaw_law_t23 : List (Nat × Instr × Nat) := [(1360, .aload_n 0, 1), (1361, .iload_n 3, 1), (1362, .iconst 2, 1), (1363, .iadd, 1), (1364, .iaload, 1), (1365, .invokevirtual 172, 3), (1368, .pop, 1), (1369, .goto 350, 3), (1372, .aload_n 1, 1), (1373, .aload_n 0, 1), (1374, .iload_n 3, 1), (1375, .iconst 1, 1), (1376, .iadd, 1), (1377, .iaload, 1), (1378, .aload_n 0, 1), (1379, .iload_n 3, 1), (1380, .iconst 2, 1), (1381, .iadd, 1), (1382, .iaload, 1), (1383, .invokevirtual 173, 3), (1386, .pop, 1), (1387, .aload_n 2, 1), (1388, .aload_n 0, 1), (1389, .iload_n 3, 1), (1390, .iconst 1, 1), (1391, .iadd, 1), (1392, .iaload, 1), (1393, .aload_n 0, 1), (1394, .iload_n 3, 1), (1395, .iconst 2, 1), (1396, .iadd, 1), (1397, .iaload, 1), (1398, .invokevirtual 176, 3), (1401, .pop, 1), (1402, .goto 317, 3), (1405, .aload_n 1, 1), (1406, .aload_n 0, 1), (1407, .iload_n 3, 1), (1408, .iconst 1, 1), (1409, .iadd, 1)]
theorem kLaw_law_t23 : chkD (mcc mLaw_law) tLaw_law_t23 = true := by decide +kernel
theorem dLaw_law_1360 : decode (mcc mLaw_law) 1360 = .ok (.aload_n 0, 1) := chkD_at kLaw_law_t23 (i := 0) rfl
theorem dLaw_law_1361 : decode (mcc mLaw_law) 1361 = .ok (.iload_n 3, 1) := chkD_at kLaw_law_t23 (i := 1) rfl
theorem dLaw_law_1362 : decode (mcc mLaw_law) 1362 = .ok (.iconst 2, 1) := chkD_at kLaw_law_t23 (i := 2) rfl
theorem dLaw_law_1363 : decode (mcc mLaw_law) 1363 = .ok (.iadd, 1) := chkD_at kLaw_law_t23 (i := 3) rfl
theorem dLaw_law_1364 : decode (mcc mLaw_law) 1364 = .ok (.iaload, 1) := chkD_at kLaw_law_t23 (i := 4) rfl
theorem dLaw_law_1365 : decode (mcc mLaw_law) 1365 = .ok (.invokevirtual 172, 3) := chkD_at kLaw_law_t23 (i := 5) rfl
theorem dLaw_law_1368 : decode (mcc mLaw_law) 1368 = .ok (.pop, 1) := chkD_at kLaw_law_t23 (i := 6) rfl
theorem dLaw_law_1369 : decode (mcc mLaw_law) 1369 = .ok (.goto 350, 3) := chkD_at kLaw_law_t23 (i := 7) rfl
theorem dLaw_law_1372 : decode (mcc mLaw_law) 1372 = .ok (.aload_n 1, 1) := chkD_at kLaw_law_t23 (i := 8) rfl
theorem dLaw_law_1373 : decode (mcc mLaw_law) 1373 = .ok (.aload_n 0, 1) := chkD_at kLaw_law_t23 (i := 9) rfl
theorem dLaw_law_1374 : decode (mcc mLaw_law) 1374 = .ok (.iload_n 3, 1) := chkD_at kLaw_law_t23 (i := 10) rfl
theorem dLaw_law_1375 : decode (mcc mLaw_law) 1375 = .ok (.iconst 1, 1) := chkD_at kLaw_law_t23 (i := 11) rfl
theorem dLaw_law_1376 : decode (mcc mLaw_law) 1376 = .ok (.iadd, 1) := chkD_at kLaw_law_t23 (i := 12) rfl
theorem dLaw_law_1377 : decode (mcc mLaw_law) 1377 = .ok (.iaload, 1) := chkD_at kLaw_law_t23 (i := 13) rfl
theorem dLaw_law_1378 : decode (mcc mLaw_law) 1378 = .ok (.aload_n 0, 1) := chkD_at kLaw_law_t23 (i := 14) rfl
theorem dLaw_law_1379 : decode (mcc mLaw_law) 1379 = .ok (.iload_n 3, 1) := chkD_at kLaw_law_t23 (i := 15) rfl
theorem dLaw_law_1380 : decode (mcc mLaw_law) 1380 = .ok (.iconst 2, 1) := chkD_at kLaw_law_t23 (i := 16) rfl
theorem dLaw_law_1381 : decode (mcc mLaw_law) 1381 = .ok (.iadd, 1) := chkD_at kLaw_law_t23 (i := 17) rfl
theorem dLaw_law_1382 : decode (mcc mLaw_law) 1382 = .ok (.iaload, 1) := chkD_at kLaw_law_t23 (i := 18) rfl
theorem dLaw_law_1383 : decode (mcc mLaw_law) 1383 = .ok (.invokevirtual 173, 3) := chkD_at kLaw_law_t23 (i := 19) rfl
theorem dLaw_law_1386 : decode (mcc mLaw_law) 1386 = .ok (.pop, 1) := chkD_at kLaw_law_t23 (i := 20) rfl
theorem dLaw_law_1387 : decode (mcc mLaw_law) 1387 = .ok (.aload_n 2, 1) := chkD_at kLaw_law_t23 (i := 21) rfl
theorem dLaw_law_1388 : decode (mcc mLaw_law) 1388 = .ok (.aload_n 0, 1) := chkD_at kLaw_law_t23 (i := 22) rfl
theorem dLaw_law_1389 : decode (mcc mLaw_law) 1389 = .ok (.iload_n 3, 1) := chkD_at kLaw_law_t23 (i := 23) rfl
theorem dLaw_law_1390 : decode (mcc mLaw_law) 1390 = .ok (.iconst 1, 1) := chkD_at kLaw_law_t23 (i := 24) rfl
theorem dLaw_law_1391 : decode (mcc mLaw_law) 1391 = .ok (.iadd, 1) := chkD_at kLaw_law_t23 (i := 25) rfl
theorem dLaw_law_1392 : decode (mcc mLaw_law) 1392 = .ok (.iaload, 1) := chkD_at kLaw_law_t23 (i := 26) rfl
theorem dLaw_law_1393 : decode (mcc mLaw_law) 1393 = .ok (.aload_n 0, 1) := chkD_at kLaw_law_t23 (i := 27) rfl
theorem dLaw_law_1394 : decode (mcc mLaw_law) 1394 = .ok (.iload_n 3, 1) := chkD_at kLaw_law_t23 (i := 28) rfl
theorem dLaw_law_1395 : decode (mcc mLaw_law) 1395 = .ok (.iconst 2, 1) := chkD_at kLaw_law_t23 (i := 29) rfl
theorem dLaw_law_1396 : decode (mcc mLaw_law) 1396 = .ok (.iadd, 1) := chkD_at kLaw_law_t23 (i := 30) rfl
theorem dLaw_law_1397 : decode (mcc mLaw_law) 1397 = .ok (.iaload, 1) := chkD_at kLaw_law_t23 (i := 31) rfl
theorem dLaw_law_1398 : decode (mcc mLaw_law) 1398 = .ok (.invokevirtual 176, 3) := chkD_at kLaw_law_t23 (i := 32) rfl
theorem dLaw_law_1401 : decode (mcc mLaw_law) 1401 = .ok (.pop, 1) := chkD_at kLaw_law_t23 (i := 33) rfl
theorem dLaw_law_1402 : decode (mcc mLaw_law) 1402 = .ok (.goto 317, 3) := chkD_at kLaw_law_t23 (i := 34) rfl
theorem dLaw_law_1405 : decode (mcc mLaw_law) 1405 = .ok (.aload_n 1, 1) := chkD_at kLaw_law_t23 (i := 35) rfl
theorem dLaw_law_1406 : decode (mcc mLaw_law) 1406 = .ok (.aload_n 0, 1) := chkD_at kLaw_law_t23 (i := 36) rfl
theorem dLaw_law_1407 : decode (mcc mLaw_law) 1407 = .ok (.iload_n 3, 1) := chkD_at kLaw_law_t23 (i := 37) rfl
theorem dLaw_law_1408 : decode (mcc mLaw_law) 1408 = .ok (.iconst 1, 1) := chkD_at kLaw_law_t23 (i := 38) rfl
theorem dLaw_law_1409 : decode (mcc mLaw_law) 1409 = .ok (.iadd, 1) := chkD_at kLaw_law_t23 (i := 39) rfl
def tLaw_law_t24 : List (Nat × Instr × Nat) := [(1410, .iaload, 1), (1411, .aload_n 0, 1), (1412, .iload_n 3, 1), (1413, .iconst 2, 1), (1414, .iadd, 1), (1415, .iaload, 1), (1416, .aload_n 0, 1), (1417, .iload_n 3, 1), (1418, .iconst 3, 1), (1419, .iadd, 1), (1420, .iaload, 1), (1421, .aload_n 0, 1), (1422, .iload_n 3, 1), (1423, .iconst 4, 1), (1424, .iadd, 1), (1425, .iaload, 1), (1426, .invokevirtual 177, 3), (1429, .pop2, 1), (1430, .aload_n 2, 1), (1431, .aload_n 0, 1), (1432, .iload_n 3, 1), (1433, .iconst 1, 1), (1434, .iadd, 1), (1435, .iaload, 1), (1436, .aload_n 0, 1), (1437, .iload_n 3, 1), (1438, .iconst 2, 1), (1439, .iadd, 1), (1440, .iaload, 1), (1441, .aload_n 0, 1), (1442, .iload_n 3, 1), (1443, .iconst 3, 1), (1444, .iadd, 1), (1445, .iaload, 1), (1446, .aload_n 0, 1), (1447, .iload_n 3, 1), (1448, .iconst 4, 1), (1449, .iadd, 1), (1450, .iaload, 1), (1451, .invokevirtual 181, 3)]
theorem kLaw_law_t24 : chkD (mcc mLaw_law) tLaw_law_t24 = true := by decide +kernel
theorem dLaw_law_1410 : decode (mcc mLaw_law) 1410 = .ok (.iaload, 1) := chkD_at kLaw_law_t24 (i := 0) rfl
theorem dLaw_law_1411 : decode (mcc mLaw_law) 1411 = .ok (.aload_n 0, 1) := chkD_at kLaw_law_t24 (i := 1) rfl
theorem dLaw_law_1412 : decode (mcc mLaw_law) 1412 = .ok (.iload_n 3, 1) := chkD_at kLaw_law_t24 (i := 2) rfl
theorem dLaw_law_1413 : decode (mcc mLaw_law) 1413 = .ok (.iconst 2, 1) := chkD_at kLaw_law_t24 (i := 3) rfl
theorem dLaw_law_1414 : decode (mcc mLaw_law) 1414 = .ok (.iadd, 1) := chkD_at kLaw_law_t24 (i := 4) rfl
theorem dLaw_law_1415 : decode (mcc mLaw_law) 1415 = .ok (.iaload, 1) := chkD_at kLaw_law_t24 (i := 5) rfl
theorem dLaw_law_1416 : decode (mcc mLaw_law) 1416 = .ok (.aload_n 0, 1) := chkD_at kLaw_law_t24 (i := 6) rfl
theorem dLaw_law_1417 : decode (mcc mLaw_law) 1417 = .ok (.iload_n 3, 1) := chkD_at kLaw_law_t24 (i := 7) rfl
theorem dLaw_law_1418 : decode (mcc mLaw_law) 1418 = .ok (.iconst 3, 1) := chkD_at kLaw_law_t24 (i := 8) rfl
theorem dLaw_law_1419 : decode (mcc mLaw_law) 1419 = .ok (.iadd, 1) := chkD_at kLaw_law_t24 (i := 9) rfl
theorem dLaw_law_1420 : decode (mcc mLaw_law) 1420 = .ok (.iaload, 1) := chkD_at kLaw_law_t24 (i := 10) rfl
theorem dLaw_law_1421 : decode (mcc mLaw_law) 1421 = .ok (.aload_n 0, 1) := chkD_at kLaw_law_t24 (i := 11) rfl
theorem dLaw_law_1422 : decode (mcc mLaw_law) 1422 = .ok (.iload_n 3, 1) := chkD_at kLaw_law_t24 (i := 12) rfl
theorem dLaw_law_1423 : decode (mcc mLaw_law) 1423 = .ok (.iconst 4, 1) := chkD_at kLaw_law_t24 (i := 13) rfl
theorem dLaw_law_1424 : decode (mcc mLaw_law) 1424 = .ok (.iadd, 1) := chkD_at kLaw_law_t24 (i := 14) rfl
theorem dLaw_law_1425 : decode (mcc mLaw_law) 1425 = .ok (.iaload, 1) := chkD_at kLaw_law_t24 (i := 15) rfl
theorem dLaw_law_1426 : decode (mcc mLaw_law) 1426 = .ok (.invokevirtual 177, 3) := chkD_at kLaw_law_t24 (i := 16) rfl
theorem dLaw_law_1429 : decode (mcc mLaw_law) 1429 = .ok (.pop2, 1) := chkD_at kLaw_law_t24 (i := 17) rfl
theorem dLaw_law_1430 : decode (mcc mLaw_law) 1430 = .ok (.aload_n 2, 1) := chkD_at kLaw_law_t24 (i := 18) rfl
theorem dLaw_law_1431 : decode (mcc mLaw_law) 1431 = .ok (.aload_n 0, 1) := chkD_at kLaw_law_t24 (i := 19) rfl
theorem dLaw_law_1432 : decode (mcc mLaw_law) 1432 = .ok (.iload_n 3, 1) := chkD_at kLaw_law_t24 (i := 20) rfl
theorem dLaw_law_1433 : decode (mcc mLaw_law) 1433 = .ok (.iconst 1, 1) := chkD_at kLaw_law_t24 (i := 21) rfl
theorem dLaw_law_1434 : decode (mcc mLaw_law) 1434 = .ok (.iadd, 1) := chkD_at kLaw_law_t24 (i := 22) rfl
theorem dLaw_law_1435 : decode (mcc mLaw_law) 1435 = .ok (.iaload, 1) := chkD_at kLaw_law_t24 (i := 23) rfl
theorem dLaw_law_1436 : decode (mcc mLaw_law) 1436 = .ok (.aload_n 0, 1) := chkD_at kLaw_law_t24 (i := 24) rfl
theorem dLaw_law_1437 : decode (mcc mLaw_law) 1437 = .ok (.iload_n 3, 1) := chkD_at kLaw_law_t24 (i := 25) rfl
theorem dLaw_law_1438 : decode (mcc mLaw_law) 1438 = .ok (.iconst 2, 1) := chkD_at kLaw_law_t24 (i := 26) rfl
theorem dLaw_law_1439 : decode (mcc mLaw_law) 1439 = .ok (.iadd, 1) := chkD_at kLaw_law_t24 (i := 27) rfl
theorem dLaw_law_1440 : decode (mcc mLaw_law) 1440 = .ok (.iaload, 1) := chkD_at kLaw_law_t24 (i := 28) rfl
theorem dLaw_law_1441 : decode (mcc mLaw_law) 1441 = .ok (.aload_n 0, 1) := chkD_at kLaw_law_t24 (i := 29) rfl
theorem dLaw_law_1442 : decode (mcc mLaw_law) 1442 = .ok (.iload_n 3, 1) := chkD_at kLaw_law_t24 (i := 30) rfl
theorem dLaw_law_1443 : decode (mcc mLaw_law) 1443 = .ok (.iconst 3, 1) := chkD_at kLaw_law_t24 (i := 31) rfl
theorem dLaw_law_1444 : decode (mcc mLaw_law) 1444 = .ok (.iadd, 1) := chkD_at kLaw_law_t24 (i := 32) rfl
theorem dLaw_law_1445 : decode (mcc mLaw_law) 1445 = .ok (.iaload, 1) := chkD_at kLaw_law_t24 (i := 33) rfl
theorem dLaw_law_1446 : decode (mcc mLaw_law) 1446 = .ok (.aload_n 0, 1) := chkD_at kLaw_law_t24 (i := 34) rfl
theorem dLaw_law_1447 : decode (mcc mLaw_law) 1447 = .ok (.iload_n 3, 1) := chkD_at kLaw_law_t24 (i := 35) rfl
theorem dLaw_law_1448 : decode (mcc mLaw_law) 1448 = .ok (.iconst 4, 1) := chkD_at kLaw_law_t24 (i := 36) rfl
theorem dLaw_law_1449 : decode (mcc mLaw_law) 1449 = .ok (.iadd, 1) := chkD_at kLaw_law_t24 (i := 37) rfl
theorem dLaw_law_1450 : decode (mcc mLaw_law) 1450 = .ok (.iaload, 1) := chkD_at kLaw_law_t24 (i := 38) rfl
theorem dLaw_law_1451 : decode (mcc mLaw_law) 1451 = .ok (.invokevirtual 181, 3) := chkD_at kLaw_law_t24 (i := 39) rfl
def tLaw_law_t25 : List (Nat × Instr × Nat) := [(1454, .pop2, 1), (1455, .goto 264, 3), (1458, .aload_n 1, 1), (1459, .invokevirtual 182, 3), (1462, .pop, 1), (1463, .aload_n 2, 1), (1464, .invokevirtual 185, 3), (1467, .pop, 1), (1468, .goto 251, 3), (1471, .aload_n 1, 1), (1472, .invokevirtual 186, 3), (1475, .pop, 1), (1476, .aload_n 2, 1), (1477, .invokevirtual 189, 3), (1480, .pop, 1), (1481, .goto 238, 3), (1484, .aload_n 1, 1), (1485, .aload_n 0, 1), (1486, .iload_n 3, 1), (1487, .iconst 1, 1), (1488, .iadd, 1), (1489, .iaload, 1), (1490, .aload_n 0, 1), (1491, .iload_n 3, 1), (1492, .iconst 2, 1), (1493, .iadd, 1), (1494, .iaload, 1), (1495, .aload_n 0, 1), (1496, .iload_n 3, 1), (1497, .iconst 3, 1), (1498, .iadd, 1), (1499, .iaload, 1), (1500, .invokevirtual 190, 3), (1503, .pop, 1), (1504, .aload_n 2, 1), (1505, .aload_n 0, 1), (1506, .iload_n 3, 1), (1507, .iconst 1, 1), (1508, .iadd, 1), (1509, .iaload, 1)]
theorem kLaw_law_t25 : chkD (mcc mLaw_law) tLaw_law_t25 = true := by decide +kernel
theorem dLaw_law_1454 : decode (mcc mLaw_law) 1454 = .ok (.pop2, 1) := chkD_at kLaw_law_t25 (i := 0) rfl
theorem dLaw_law_1455 : decode (mcc mLaw_law) 1455 = .ok (.goto 264, 3) := chkD_at kLaw_law_t25 (i := 1) rfl
theorem dLaw_law_1458 : decode (mcc mLaw_law) 1458 = .ok (.aload_n 1, 1) := chkD_at kLaw_law_t25 (i := 2) rfl
theorem dLaw_law_1459 : decode (mcc mLaw_law) 1459 = .ok (.invokevirtual 182, 3) := chkD_at kLaw_law_t25 (i := 3) rfl
theorem dLaw_law_1462 : decode (mcc mLaw_law) 1462 = .ok (.pop, 1) := chkD_at kLaw_law_t25 (i := 4) rfl
theorem dLaw_law_1463 : decode (mcc mLaw_law) 1463 = .ok (.aload_n 2, 1) := chkD_at kLaw_law_t25 (i := 5) rfl
theorem dLaw_law_1464 : decode (mcc mLaw_law) 1464 = .ok (.invokevirtual 185, 3) := chkD_at kLaw_law_t25 (i := 6) rfl
theorem dLaw_law_1467 : decode (mcc mLaw_law) 1467 = .ok (.pop, 1) := chkD_at kLaw_law_t25 (i := 7) rfl
theorem dLaw_law_1468 : decode (mcc mLaw_law) 1468 = .ok (.goto 251, 3) := chkD_at kLaw_law_t25 (i := 8) rfl
theorem dLaw_law_1471 : decode (mcc mLaw_law) 1471 = .ok (.aload_n 1, 1) := chkD_at kLaw_law_t25 (i := 9) rfl
theorem dLaw_law_1472 : decode (mcc mLaw_law) 1472 = .ok (.invokevirtual 186, 3) := chkD_at kLaw_law_t25 (i := 10) rfl
theorem dLaw_law_1475 : decode (mcc mLaw_law) 1475 = .ok (.pop, 1) := chkD_at kLaw_law_t25 (i := 11) rfl
theorem dLaw_law_1476 : decode (mcc mLaw_law) 1476 = .ok (.aload_n 2, 1) := chkD_at kLaw_law_t25 (i := 12) rfl
theorem dLaw_law_1477 : decode (mcc mLaw_law) 1477 = .ok (.invokevirtual 189, 3) := chkD_at kLaw_law_t25 (i := 13) rfl
theorem dLaw_law_1480 : decode (mcc mLaw_law) 1480 = .ok (.pop, 1) := chkD_at kLaw_law_t25 (i := 14) rfl
theorem dLaw_law_1481 : decode (mcc mLaw_law) 1481 = .ok (.goto 238, 3) := chkD_at kLaw_law_t25 (i := 15) rfl
theorem dLaw_law_1484 : decode (mcc mLaw_law) 1484 = .ok (.aload_n 1, 1) := chkD_at kLaw_law_t25 (i := 16) rfl
theorem dLaw_law_1485 : decode (mcc mLaw_law) 1485 = .ok (.aload_n 0, 1) := chkD_at kLaw_law_t25 (i := 17) rfl
theorem dLaw_law_1486 : decode (mcc mLaw_law) 1486 = .ok (.iload_n 3, 1) := chkD_at kLaw_law_t25 (i := 18) rfl
theorem dLaw_law_1487 : decode (mcc mLaw_law) 1487 = .ok (.iconst 1, 1) := chkD_at kLaw_law_t25 (i := 19) rfl
theorem dLaw_law_1488 : decode (mcc mLaw_law) 1488 = .ok (.iadd, 1) := chkD_at kLaw_law_t25 (i := 20) rfl
theorem dLaw_law_1489 : decode (mcc mLaw_law) 1489 = .ok (.iaload, 1) := chkD_at kLaw_law_t25 (i := 21) rfl
theorem dLaw_law_1490 : decode (mcc mLaw_law) 1490 = .ok (.aload_n 0, 1) := chkD_at kLaw_law_t25 (i := 22) rfl
theorem dLaw_law_1491 : decode (mcc mLaw_law) 1491 = .ok (.iload_n 3, 1) := chkD_at kLaw_law_t25 (i := 23) rfl
theorem dLaw_law_1492 : decode (mcc mLaw_law) 1492 = .ok (.iconst 2, 1) := chkD_at kLaw_law_t25 (i := 24) rfl
theorem dLaw_law_1493 : decode (mcc mLaw_law) 1493 = .ok (.iadd, 1) := chkD_at kLaw_law_t25 (i := 25) rfl
theorem dLaw_law_1494 : decode (mcc mLaw_law) 1494 = .ok (.iaload, 1) := chkD_at kLaw_law_t25 (i := 26) rfl
theorem dLaw_law_1495 : decode (mcc mLaw_law) 1495 = .ok (.aload_n 0, 1) := chkD_at kLaw_law_t25 (i := 27) rfl
theorem dLaw_law_1496 : decode (mcc mLaw_law) 1496 = .ok (.iload_n 3, 1) := chkD_at kLaw_law_t25 (i := 28) rfl
theorem dLaw_law_1497 : decode (mcc mLaw_law) 1497 = .ok (.iconst 3, 1) := chkD_at kLaw_law_t25 (i := 29) rfl
theorem dLaw_law_1498 : decode (mcc mLaw_law) 1498 = .ok (.iadd, 1) := chkD_at kLaw_law_t25 (i := 30) rfl
theorem dLaw_law_1499 : decode (mcc mLaw_law) 1499 = .ok (.iaload, 1) := chkD_at kLaw_law_t25 (i := 31) rfl
theorem dLaw_law_1500 : decode (mcc mLaw_law) 1500 = .ok (.invokevirtual 190, 3) := chkD_at kLaw_law_t25 (i := 32) rfl
theorem dLaw_law_1503 : decode (mcc mLaw_law) 1503 = .ok (.pop, 1) := chkD_at kLaw_law_t25 (i := 33) rfl
theorem dLaw_law_1504 : decode (mcc mLaw_law) 1504 = .ok (.aload_n 2, 1) := chkD_at kLaw_law_t25 (i := 34) rfl
theorem dLaw_law_1505 : decode (mcc mLaw_law) 1505 = .ok (.aload_n 0, 1) := chkD_at kLaw_law_t25 (i := 35) rfl
theorem dLaw_law_1506 : decode (mcc mLaw_law) 1506 = .ok (.iload_n 3, 1) := chkD_at kLaw_law_t25 (i := 36) rfl
theorem dLaw_law_1507 : decode (mcc mLaw_law) 1507 = .ok (.iconst 1, 1) := chkD_at kLaw_law_t25 (i := 37) rfl
theorem dLaw_law_1508 : decode (mcc mLaw_law) 1508 = .ok (.iadd, 1) := chkD_at kLaw_law_t25 (i := 38) rfl
theorem dLaw_law_1509 : decode (mcc mLaw_law) 1509 = .ok (.iaload, 1) := chkD_at kLaw_law_t25 (i := 39) rfl
def tLaw_law_t26 : List (Nat × Instr × Nat) := [(1510, .aload_n 0, 1), (1511, .iload_n 3, 1), (1512, .iconst 2, 1), (1513, .iadd, 1), (1514, .iaload, 1), (1515, .aload_n 0, 1), (1516, .iload_n 3, 1), (1517, .iconst 3, 1), (1518, .iadd, 1), (1519, .iaload, 1), (1520, .invokevirtual 193, 3), (1523, .pop, 1), (1524, .goto 195, 3), (1527, .aload_n 1, 1), (1528, .aload_n 0, 1), (1529, .iload_n 3, 1), (1530, .iconst 1, 1), (1531, .iadd, 1), (1532, .iaload, 1), (1533, .aload_n 0, 1), (1534, .iload_n 3, 1), (1535, .iconst 2, 1), (1536, .iadd, 1), (1537, .iaload, 1), (1538, .aload_n 0, 1), (1539, .iload_n 3, 1), (1540, .iconst 3, 1), (1541, .iadd, 1), (1542, .iaload, 1), (1543, .invokevirtual 194, 3), (1546, .pop, 1), (1547, .aload_n 2, 1), (1548, .aload_n 0, 1), (1549, .iload_n 3, 1), (1550, .iconst 1, 1), (1551, .iadd, 1), (1552, .iaload, 1), (1553, .aload_n 0, 1), (1554, .iload_n 3, 1), (1555, .iconst 2, 1)]
theorem kLaw_law_t26 : chkD (mcc mLaw_law) tLaw_law_t26 = true := by decide +kernel
theorem dLaw_law_1510 : decode (mcc mLaw_law) 1510 = .ok (.aload_n 0, 1) := chkD_at kLaw_law_t26 (i := 0) rfl
theorem dLaw_law_1511 : decode (mcc mLaw_law) 1511 = .ok (.iload_n 3, 1) := chkD_at kLaw_law_t26 (i := 1) rfl
theorem dLaw_law_1512 : decode (mcc mLaw_law) 1512 = .ok (.iconst 2, 1) := chkD_at kLaw_law_t26 (i := 2) rfl
theorem dLaw_law_1513 : decode (mcc mLaw_law) 1513 = .ok (.iadd, 1) := chkD_at kLaw_law_t26 (i := 3) rfl
theorem dLaw_law_1514 : decode (mcc mLaw_law) 1514 = .ok (.iaload, 1) := chkD_at kLaw_law_t26 (i := 4) rfl
theorem dLaw_law_1515 : decode (mcc mLaw_law) 1515 = .ok (.aload_n 0, 1) := chkD_at kLaw_law_t26 (i := 5) rfl
theorem dLaw_law_1516 : decode (mcc mLaw_law) 1516 = .ok (.iload_n 3, 1) := chkD_at kLaw_law_t26 (i := 6) rfl
theorem dLaw_law_1517 : decode (mcc mLaw_law) 1517 = .ok (.iconst 3, 1) := chkD_at kLaw_law_t26 (i := 7) rfl
theorem dLaw_law_1518 : decode (mcc mLaw_law) 1518 = .ok (.iadd, 1) := chkD_at kLaw_law_t26 (i := 8) rfl
theorem dLaw_law_1519 : decode (mcc mLaw_law) 1519 = .ok (.iaload, 1) := chkD_at kLaw_law_t26 (i := 9) rfl
theorem dLaw_law_1520 : decode (mcc mLaw_law) 1520 = .ok (.invokevirtual 193, 3) := chkD_at kLaw_law_t26 (i := 10) rfl
theorem dLaw_law_1523 : decode (mcc mLaw_law) 1523 = .ok (.pop, 1) := chkD_at kLaw_law_t26 (i := 11) rfl
theorem dLaw_law_1524 : decode (mcc mLaw_law) 1524 = .ok (.goto 195, 3) := chkD_at kLaw_law_t26 (i := 12) rfl
theorem dLaw_law_1527 : decode (mcc mLaw_law) 1527 = .ok (.aload_n 1, 1) := chkD_at kLaw_law_t26 (i := 13) rfl
theorem dLaw_law_1528 : decode (mcc mLaw_law) 1528 = .ok (.aload_n 0, 1) := chkD_at kLaw_law_t26 (i := 14) rfl
theorem dLaw_law_1529 : decode (mcc mLaw_law) 1529 = .ok (.iload_n 3, 1) := chkD_at kLaw_law_t26 (i := 15) rfl
theorem dLaw_law_1530 : decode (mcc mLaw_law) 1530 = .ok (.iconst 1, 1) := chkD_at kLaw_law_t26 (i := 16) rfl
theorem dLaw_law_1531 : decode (mcc mLaw_law) 1531 = .ok (.iadd, 1) := chkD_at kLaw_law_t26 (i := 17) rfl
theorem dLaw_law_1532 : decode (mcc mLaw_law) 1532 = .ok (.iaload, 1) := chkD_at kLaw_law_t26 (i := 18) rfl
theorem dLaw_law_1533 : decode (mcc mLaw_law) 1533 = .ok (.aload_n 0, 1) := chkD_at kLaw_law_t26 (i := 19) rfl
theorem dLaw_law_1534 : decode (mcc mLaw_law) 1534 = .ok (.iload_n 3, 1) := chkD_at kLaw_law_t26 (i := 20) rfl
theorem dLaw_law_1535 : decode (mcc mLaw_law) 1535 = .ok (.iconst 2, 1) := chkD_at kLaw_law_t26 (i := 21) rfl
theorem dLaw_law_1536 : decode (mcc mLaw_law) 1536 = .ok (.iadd, 1) := chkD_at kLaw_law_t26 (i := 22) rfl
theorem dLaw_law_1537 : decode (mcc mLaw_law) 1537 = .ok (.iaload, 1) := chkD_at kLaw_law_t26 (i := 23) rfl
theorem dLaw_law_1538 : decode (mcc mLaw_law) 1538 = .ok (.aload_n 0, 1) := chkD_at kLaw_law_t26 (i := 24) rfl
theorem dLaw_law_1539 : decode (mcc mLaw_law) 1539 = .ok (.iload_n 3, 1) := chkD_at kLaw_law_t26 (i := 25) rfl
theorem dLaw_law_1540 : decode (mcc mLaw_law) 1540 = .ok (.iconst 3, 1) := chkD_at kLaw_law_t26 (i := 26) rfl
theorem dLaw_law_1541 : decode (mcc mLaw_law) 1541 = .ok (.iadd, 1) := chkD_at kLaw_law_t26 (i := 27) rfl
theorem dLaw_law_1542 : decode (mcc mLaw_law) 1542 = .ok (.iaload, 1) := chkD_at kLaw_law_t26 (i := 28) rfl
theorem dLaw_law_1543 : decode (mcc mLaw_law) 1543 = .ok (.invokevirtual 194, 3) := chkD_at kLaw_law_t26 (i := 29) rfl
theorem dLaw_law_1546 : decode (mcc mLaw_law) 1546 = .ok (.pop, 1) := chkD_at kLaw_law_t26 (i := 30) rfl
theorem dLaw_law_1547 : decode (mcc mLaw_law) 1547 = .ok (.aload_n 2, 1) := chkD_at kLaw_law_t26 (i := 31) rfl
theorem dLaw_law_1548 : decode (mcc mLaw_law) 1548 = .ok (.aload_n 0, 1) := chkD_at kLaw_law_t26 (i := 32) rfl
theorem dLaw_law_1549 : decode (mcc mLaw_law) 1549 = .ok (.iload_n 3, 1) := chkD_at kLaw_law_t26 (i := 33) rfl
theorem dLaw_law_1550 : decode (mcc mLaw_law) 1550 = .ok (.iconst 1, 1) := chkD_at kLaw_law_t26 (i := 34) rfl
theorem dLaw_law_1551 : decode (mcc mLaw_law) 1551 = .ok (.iadd, 1) := chkD_at kLaw_law_t26 (i := 35) rfl
theorem dLaw_law_1552 : decode (mcc mLaw_law) 1552 = .ok (.iaload, 1) := chkD_at kLaw_law_t26 (i := 36) rfl
theorem dLaw_law_1553 : decode (mcc mLaw_law) 1553 = .ok (.aload_n 0, 1) := chkD_at kLaw_law_t26 (i := 37) rfl
theorem dLaw_law_1554 : decode (mcc mLaw_law) 1554 = .ok (.iload_n 3, 1) := chkD_at kLaw_law_t26 (i := 38) rfl
theorem dLaw_law_1555 : decode (mcc mLaw_law) 1555 = .ok (.iconst 2, 1) := chkD_at kLaw_law_t26 (i := 39) rfl
def tLaw_law_t27 : List (Nat × Instr × Nat) := [(1556, .iadd, 1), (1557, .iaload, 1), (1558, .aload_n 0, 1), (1559, .iload_n 3, 1), (1560, .iconst 3, 1), (1561, .iadd, 1), (1562, .iaload, 1), (1563, .invokevirtual 197, 3), (1566, .pop, 1), (1567, .goto 152, 3), (1570, .aload_n 1, 1), (1571, .aload_n 0, 1), (1572, .iload_n 3, 1), (1573, .iconst 1, 1), (1574, .iadd, 1), (1575, .iaload, 1), (1576, .aload_n 0, 1), (1577, .iload_n 3, 1), (1578, .iconst 2, 1), (1579, .iadd, 1), (1580, .iaload, 1), (1581, .aload_n 0, 1), (1582, .iload_n 3, 1), (1583, .iconst 3, 1), (1584, .iadd, 1), (1585, .iaload, 1), (1586, .aload_n 0, 1), (1587, .iload_n 3, 1), (1588, .iconst 4, 1), (1589, .iadd, 1), (1590, .iaload, 1), (1591, .aload_n 0, 1), (1592, .iload_n 3, 1), (1593, .iconst 5, 1), (1594, .iadd, 1), (1595, .iaload, 1), (1596, .invokevirtual 198, 3), (1599, .pop, 1), (1600, .aload_n 2, 1), (1601, .aload_n 0, 1)]
theorem kLaw_law_t27 : chkD (mcc mLaw_law) tLaw_law_t27 = true := by decide +kernel
theorem dLaw_law_1556 : decode (mcc mLaw_law) 1556 = .ok (.iadd, 1) := chkD_at kLaw_law_t27 (i := 0) rfl
theorem dLaw_law_1557 : decode (mcc mLaw_law) 1557 = .ok (.iaload, 1) := chkD_at kLaw_law_t27 (i := 1) rfl
theorem dLaw_law_1558 : decode (mcc mLaw_law) 1558 = .ok (.aload_n 0, 1) := chkD_at kLaw_law_t27 (i := 2) rfl
theorem dLaw_law_1559 : decode (mcc mLaw_law) 1559 = .ok (.iload_n 3, 1) := chkD_at kLaw_law_t27 (i := 3) rfl
theorem dLaw_law_1560 : decode (mcc mLaw_law) 1560 = .ok (.iconst 3, 1) := chkD_at kLaw_law_t27 (i := 4) rfl
theorem dLaw_law_1561 : decode (mcc mLaw_law) 1561 = .ok (.iadd, 1) := chkD_at kLaw_law_t27 (i := 5) rfl
theorem dLaw_law_1562 : decode (mcc mLaw_law) 1562 = .ok (.iaload, 1) := chkD_at kLaw_law_t27 (i := 6) rfl
theorem dLaw_law_1563 : decode (mcc mLaw_law) 1563 = .ok (.invokevirtual 197, 3) := chkD_at kLaw_law_t27 (i := 7) rfl
theorem dLaw_law_1566 : decode (mcc mLaw_law) 1566 = .ok (.pop, 1) := chkD_at kLaw_law_t27 (i := 8) rfl
theorem dLaw_law_1567 : decode (mcc mLaw_law) 1567 = .ok (.goto 152, 3) := chkD_at kLaw_law_t27 (i := 9) rfl
theorem dLaw_law_1570 : decode (mcc mLaw_law) 1570 = .ok (.aload_n 1, 1) := chkD_at kLaw_law_t27 (i := 10) rfl
theorem dLaw_law_1571 : decode (mcc mLaw_law) 1571 = .ok (.aload_n 0, 1) := chkD_at kLaw_law_t27 (i := 11) rfl
theorem dLaw_law_1572 : decode (mcc mLaw_law) 1572 = .ok (.iload_n 3, 1) := chkD_at kLaw_law_t27 (i := 12) rfl
theorem dLaw_law_1573 : decode (mcc mLaw_law) 1573 = .ok (.iconst 1, 1) := chkD_at kLaw_law_t27 (i := 13) rfl
theorem dLaw_law_1574 : decode (mcc mLaw_law) 1574 = .ok (.iadd, 1) := chkD_at kLaw_law_t27 (i := 14) rfl
theorem dLaw_law_1575 : decode (mcc mLaw_law) 1575 = .ok (.iaload, 1) := chkD_at kLaw_law_t27 (i := 15) rfl
theorem dLaw_law_1576 : decode (mcc mLaw_law) 1576 = .ok (.aload_n 0, 1) := chkD_at kLaw_law_t27 (i := 16) rfl
theorem dLaw_law_1577 : decode (mcc mLaw_law) 1577 = .ok (.iload_n 3, 1) := chkD_at kLaw_law_t27 (i := 17) rfl
theorem dLaw_law_1578 : decode (mcc mLaw_law) 1578 = .ok (.iconst 2, 1) := chkD_at kLaw_law_t27 (i := 18) rfl
theorem dLaw_law_1579 : decode (mcc mLaw_law) 1579 = .ok (.iadd, 1) := chkD_at kLaw_law_t27 (i := 19) rfl
theorem dLaw_law_1580 : decode (mcc mLaw_law) 1580 = .ok (.iaload, 1) := chkD_at kLaw_law_t27 (i := 20) rfl
theorem dLaw_law_1581 : decode (mcc mLaw_law) 1581 = .ok (.aload_n 0, 1) := chkD_at kLaw_law_t27 (i := 21) rfl
theorem dLaw_law_1582 : decode (mcc mLaw_law) 1582 = .ok (.iload_n 3, 1) := chkD_at kLaw_law_t27 (i := 22) rfl
theorem dLaw_law_1583 : decode (mcc mLaw_law) 1583 = .ok (.iconst 3, 1) := chkD_at kLaw_law_t27 (i := 23) rfl
theorem dLaw_law_1584 : decode (mcc mLaw_law) 1584 = .ok (.iadd, 1) := chkD_at kLaw_law_t27 (i := 24) rfl
theorem dLaw_law_1585 : decode (mcc mLaw_law) 1585 = .ok (.iaload, 1) := chkD_at kLaw_law_t27 (i := 25) rfl
theorem dLaw_law_1586 : decode (mcc mLaw_law) 1586 = .ok (.aload_n 0, 1) := chkD_at kLaw_law_t27 (i := 26) rfl
theorem dLaw_law_1587 : decode (mcc mLaw_law) 1587 = .ok (.iload_n 3, 1) := chkD_at kLaw_law_t27 (i := 27) rfl
theorem dLaw_law_1588 : decode (mcc mLaw_law) 1588 = .ok (.iconst 4, 1) := chkD_at kLaw_law_t27 (i := 28) rfl
theorem dLaw_law_1589 : decode (mcc mLaw_law) 1589 = .ok (.iadd, 1) := chkD_at kLaw_law_t27 (i := 29) rfl
theorem dLaw_law_1590 : decode (mcc mLaw_law) 1590 = .ok (.iaload, 1) := chkD_at kLaw_law_t27 (i := 30) rfl
theorem dLaw_law_1591 : decode (mcc mLaw_law) 1591 = .ok (.aload_n 0, 1) := chkD_at kLaw_law_t27 (i := 31) rfl
theorem dLaw_law_1592 : decode (mcc mLaw_law) 1592 = .ok (.iload_n 3, 1) := chkD_at kLaw_law_t27 (i := 32) rfl
theorem dLaw_law_1593 : decode (mcc mLaw_law) 1593 = .ok (.iconst 5, 1) := chkD_at kLaw_law_t27 (i := 33) rfl
theorem dLaw_law_1594 : decode (mcc mLaw_law) 1594 = .ok (.iadd, 1) := chkD_at kLaw_law_t27 (i := 34) rfl
theorem dLaw_law_1595 : decode (mcc mLaw_law) 1595 = .ok (.iaload, 1) := chkD_at kLaw_law_t27 (i := 35) rfl
theorem dLaw_law_1596 : decode (mcc mLaw_law) 1596 = .ok (.invokevirtual 198, 3) := chkD_at kLaw_law_t27 (i := 36) rfl
theorem dLaw_law_1599 : decode (mcc mLaw_law) 1599 = .ok (.pop, 1) := chkD_at kLaw_law_t27 (i := 37) rfl
theorem dLaw_law_1600 : decode (mcc mLaw_law) 1600 = .ok (.aload_n 2, 1) := chkD_at kLaw_law_t27 (i := 38) rfl
theorem dLaw_law_1601 : decode (mcc mLaw_law) 1601 = .ok (.aload_n 0, 1) := chkD_at kLaw_law_t27 (i := 39) rfl
def tLaw_law_t28 : List (Nat × Instr × Nat) := [(1602, .iload_n 3, 1), (1603, .iconst 1, 1), (1604, .iadd, 1), (1605, .iaload, 1), (1606, .aload_n 0, 1), (1607, .iload_n 3, 1), (1608, .iconst 2, 1), (1609, .iadd, 1), (1610, .iaload, 1), (1611, .aload_n 0, 1), (1612, .iload_n 3, 1), (1613, .iconst 3, 1), (1614, .iadd, 1), (1615, .iaload, 1), (1616, .aload_n 0, 1), (1617, .iload_n 3, 1), (1618, .iconst 4, 1), (1619, .iadd, 1), (1620, .iaload, 1), (1621, .aload_n 0, 1), (1622, .iload_n 3, 1), (1623, .iconst 5, 1), (1624, .iadd, 1), (1625, .iaload, 1), (1626, .invokevirtual 202, 3), (1629, .pop, 1), (1630, .goto 89, 3), (1633, .aload_n 1, 1), (1634, .aload_n 0, 1), (1635, .iload_n 3, 1), (1636, .iconst 1, 1), (1637, .iadd, 1), (1638, .iaload, 1), (1639, .aload_n 0, 1), (1640, .iload_n 3, 1), (1641, .iconst 2, 1), (1642, .iadd, 1), (1643, .iaload, 1), (1644, .aload_n 0, 1), (1645, .iload_n 3, 1)]
theorem kLaw_law_t28 : chkD (mcc mLaw_law) tLaw_law_t28 = true := by decide +kernel
theorem dLaw_law_1602 : decode (mcc mLaw_law) 1602 = .ok (.iload_n 3, 1) := chkD_at kLaw_law_t28 (i := 0) rfl
theorem dLaw_law_1603 : decode (mcc mLaw_law) 1603 = .ok (.iconst 1, 1) := chkD_at kLaw_law_t28 (i := 1) rfl
theorem dLaw_law_1604 : decode (mcc mLaw_law) 1604 = .ok (.iadd, 1) := chkD_at kLaw_law_t28 (i := 2) rfl
theorem dLaw_law_1605 : decode (mcc mLaw_law) 1605 = .ok (.iaload, 1) := chkD_at kLaw_law_t28 (i := 3) rfl
theorem dLaw_law_1606 : decode (mcc mLaw_law) 1606 = .ok (.aload_n 0, 1) := chkD_at kLaw_law_t28 (i := 4) rfl
theorem dLaw_law_1607 : decode (mcc mLaw_law) 1607 = .ok (.iload_n 3, 1) := chkD_at kLaw_law_t28 (i := 5) rfl
theorem dLaw_law_1608 : decode (mcc mLaw_law) 1608 = .ok (.iconst 2, 1) := chkD_at kLaw_law_t28 (i := 6) rfl
theorem dLaw_law_1609 : decode (mcc mLaw_law) 1609 = .ok (.iadd, 1) := chkD_at kLaw_law_t28 (i := 7) rfl
theorem dLaw_law_1610 : decode (mcc mLaw_law) 1610 = .ok (.iaload, 1) := chkD_at kLaw_law_t28 (i := 8) rfl
theorem dLaw_law_1611 : decode (mcc mLaw_law) 1611 = .ok (.aload_n 0, 1) := chkD_at kLaw_law_t28 (i := 9) rfl
theorem dLaw_law_1612 : decode (mcc mLaw_law) 1612 = .ok (.iload_n 3, 1) := chkD_at kLaw_law_t28 (i := 10) rfl
theorem dLaw_law_1613 : decode (mcc mLaw_law) 1613 = .ok (.iconst 3, 1) := chkD_at kLaw_law_t28 (i := 11) rfl
theorem dLaw_law_1614 : decode (mcc mLaw_law) 1614 = .ok (.iadd, 1) := chkD_at kLaw_law_t28 (i := 12) rfl
theorem dLaw_law_1615 : decode (mcc mLaw_law) 1615 = .ok (.iaload, 1) := chkD_at kLaw_law_t28 (i := 13) rfl
theorem dLaw_law_1616 : decode (mcc mLaw_law) 1616 = .ok (.aload_n 0, 1) := chkD_at kLaw_law_t28 (i := 14) rfl
theorem dLaw_law_1617 : decode (mcc mLaw_law) 1617 = .ok (.iload_n 3, 1) := chkD_at kLaw_law_t28 (i := 15) rfl
theorem dLaw_law_1618 : decode (mcc mLaw_law) 1618 = .ok (.iconst 4, 1) := chkD_at kLaw_law_t28 (i := 16) rfl
theorem dLaw_law_1619 : decode (mcc mLaw_law) 1619 = .ok (.iadd, 1) := chkD_at kLaw_law_t28 (i := 17) rfl
theorem dLaw_law_1620 : decode (mcc mLaw_law) 1620 = .ok (.iaload, 1) := chkD_at kLaw_law_t28 (i := 18) rfl
theorem dLaw_law_1621 : decode (mcc mLaw_law) 1621 = .ok (.aload_n 0, 1) := chkD_at kLaw_law_t28 (i := 19) rfl
theorem dLaw_law_1622 : decode (mcc mLaw_law) 1622 = .ok (.iload_n 3, 1) := chkD_at kLaw_law_t28 (i := 20) rfl
theorem dLaw_law_1623 : decode (mcc mLaw_law) 1623 = .ok (.iconst 5, 1) := chkD_at kLaw_law_t28 (i := 21) rfl
theorem dLaw_law_1624 : decode (mcc mLaw_law) 1624 = .ok (.iadd, 1) := chkD_at kLaw_law_t28 (i := 22) rfl
theorem dLaw_law_1625 : decode (mcc mLaw_law) 1625 = .ok (.iaload, 1) := chkD_at kLaw_law_t28 (i := 23) rfl
theorem dLaw_law_1626 : decode (mcc mLaw_law) 1626 = .ok (.invokevirtual 202, 3) := chkD_at kLaw_law_t28 (i := 24) rfl
theorem dLaw_law_1629 : decode (mcc mLaw_law) 1629 = .ok (.pop, 1) := chkD_at kLaw_law_t28 (i := 25) rfl
theorem dLaw_law_1630 : decode (mcc mLaw_law) 1630 = .ok (.goto 89, 3) := chkD_at kLaw_law_t28 (i := 26) rfl
theorem dLaw_law_1633 : decode (mcc mLaw_law) 1633 = .ok (.aload_n 1, 1) := chkD_at kLaw_law_t28 (i := 27) rfl
theorem dLaw_law_1634 : decode (mcc mLaw_law) 1634 = .ok (.aload_n 0, 1) := chkD_at kLaw_law_t28 (i := 28) rfl
theorem dLaw_law_1635 : decode (mcc mLaw_law) 1635 = .ok (.iload_n 3, 1) := chkD_at kLaw_law_t28 (i := 29) rfl
theorem dLaw_law_1636 : decode (mcc mLaw_law) 1636 = .ok (.iconst 1, 1) := chkD_at kLaw_law_t28 (i := 30) rfl
theorem dLaw_law_1637 : decode (mcc mLaw_law) 1637 = .ok (.iadd, 1) := chkD_at kLaw_law_t28 (i := 31) rfl
theorem dLaw_law_1638 : decode (mcc mLaw_law) 1638 = .ok (.iaload, 1) := chkD_at kLaw_law_t28 (i := 32) rfl
theorem dLaw_law_1639 : decode (mcc mLaw_law) 1639 = .ok (.aload_n 0, 1) := chkD_at kLaw_law_t28 (i := 33) rfl
theorem dLaw_law_1640 : decode (mcc mLaw_law) 1640 = .ok (.iload_n 3, 1) := chkD_at kLaw_law_t28 (i := 34) rfl
theorem dLaw_law_1641 : decode (mcc mLaw_law) 1641 = .ok (.iconst 2, 1) := chkD_at kLaw_law_t28 (i := 35) rfl
theorem dLaw_law_1642 : decode (mcc mLaw_law) 1642 = .ok (.iadd, 1) := chkD_at kLaw_law_t28 (i := 36) rfl
theorem dLaw_law_1643 : decode (mcc mLaw_law) 1643 = .ok (.iaload, 1) := chkD_at kLaw_law_t28 (i := 37) rfl
theorem dLaw_law_1644 : decode (mcc mLaw_law) 1644 = .ok (.aload_n 0, 1) := chkD_at kLaw_law_t28 (i := 38) rfl
theorem dLaw_law_1645 : decode (mcc mLaw_law) 1645 = .ok (.iload_n 3, 1) := chkD_at kLaw_law_t28 (i := 39) rfl
def tLaw_law_t29 : List (Nat × Instr × Nat) := [(1646, .iconst 3, 1), (1647, .iadd, 1), (1648, .iaload, 1), (1649, .aload_n 0, 1), (1650, .iload_n 3, 1), (1651, .iconst 4, 1), (1652, .iadd, 1), (1653, .iaload, 1), (1654, .invokevirtual 203, 3), (1657, .pop, 1), (1658, .aload_n 2, 1), (1659, .aload_n 0, 1), (1660, .iload_n 3, 1), (1661, .iconst 1, 1), (1662, .iadd, 1), (1663, .iaload, 1), (1664, .aload_n 0, 1), (1665, .iload_n 3, 1), (1666, .iconst 2, 1), (1667, .iadd, 1), (1668, .iaload, 1), (1669, .aload_n 0, 1), (1670, .iload_n 3, 1), (1671, .iconst 3, 1), (1672, .iadd, 1), (1673, .iaload, 1), (1674, .aload_n 0, 1), (1675, .iload_n 3, 1), (1676, .iconst 4, 1), (1677, .iadd, 1), (1678, .iaload, 1), (1679, .invokevirtual 206, 3), (1682, .pop, 1), (1683, .goto 36, 3), (1686, .aload_n 1, 1), (1687, .aload_n 0, 1), (1688, .iload_n 3, 1), (1689, .iconst 1, 1), (1690, .iadd, 1), (1691, .iaload, 1)]
theorem kLaw_law_t29 : chkD (mcc mLaw_law) tLaw_law_t29 = true := by decide +kernel
theorem dLaw_law_1646 : decode (mcc mLaw_law) 1646 = .ok (.iconst 3, 1) := chkD_at kLaw_law_t29 (i := 0) rfl
theorem dLaw_law_1647 : decode (mcc mLaw_law) 1647 = .ok (.iadd, 1) := chkD_at kLaw_law_t29 (i := 1) rfl
theorem dLaw_law_1648 : decode (mcc mLaw_law) 1648 = .ok (.iaload, 1) := chkD_at kLaw_law_t29 (i := 2) rfl
theorem dLaw_law_1649 : decode (mcc mLaw_law) 1649 = .ok (.aload_n 0, 1) := chkD_at kLaw_law_t29 (i := 3) rfl
theorem dLaw_law_1650 : decode (mcc mLaw_law) 1650 = .ok (.iload_n 3, 1) := chkD_at kLaw_law_t29 (i := 4) rfl
theorem dLaw_law_1651 : decode (mcc mLaw_law) 1651 = .ok (.iconst 4, 1) := chkD_at kLaw_law_t29 (i := 5) rfl
theorem dLaw_law_1652 : decode (mcc mLaw_law) 1652 = .ok (.iadd, 1) := chkD_at kLaw_law_t29 (i := 6) rfl
theorem dLaw_law_1653 : decode (mcc mLaw_law) 1653 = .ok (.iaload, 1) := chkD_at kLaw_law_t29 (i := 7) rfl
theorem dLaw_law_1654 : decode (mcc mLaw_law) 1654 = .ok (.invokevirtual 203, 3) := chkD_at kLaw_law_t29 (i := 8) rfl
theorem dLaw_law_1657 : decode (mcc mLaw_law) 1657 = .ok (.pop, 1) := chkD_at kLaw_law_t29 (i := 9) rfl
theorem dLaw_law_1658 : decode (mcc mLaw_law) 1658 = .ok (.aload_n 2, 1) := chkD_at kLaw_law_t29 (i := 10) rfl
theorem dLaw_law_1659 : decode (mcc mLaw_law) 1659 = .ok (.aload_n 0, 1) := chkD_at kLaw_law_t29 (i := 11) rfl
theorem dLaw_law_1660 : decode (mcc mLaw_law) 1660 = .ok (.iload_n 3, 1) := chkD_at kLaw_law_t29 (i := 12) rfl
theorem dLaw_law_1661 : decode (mcc mLaw_law) 1661 = .ok (.iconst 1, 1) := chkD_at kLaw_law_t29 (i := 13) rfl
theorem dLaw_law_1662 : decode (mcc mLaw_law) 1662 = .ok (.iadd, 1) := chkD_at kLaw_law_t29 (i := 14) rfl
theorem dLaw_law_1663 : decode (mcc mLaw_law) 1663 = .ok (.iaload, 1) := chkD_at kLaw_law_t29 (i := 15) rfl
theorem dLaw_law_1664 : decode (mcc mLaw_law) 1664 = .ok (.aload_n 0, 1) := chkD_at kLaw_law_t29 (i := 16) rfl
theorem dLaw_law_1665 : decode (mcc mLaw_law) 1665 = .ok (.iload_n 3, 1) := chkD_at kLaw_law_t29 (i := 17) rfl
theorem dLaw_law_1666 : decode (mcc mLaw_law) 1666 = .ok (.iconst 2, 1) := chkD_at kLaw_law_t29 (i := 18) rfl
theorem dLaw_law_1667 : decode (mcc mLaw_law) 1667 = .ok (.iadd, 1) := chkD_at kLaw_law_t29 (i := 19) rfl
theorem dLaw_law_1668 : decode (mcc mLaw_law) 1668 = .ok (.iaload, 1) := chkD_at kLaw_law_t29 (i := 20) rfl
theorem dLaw_law_1669 : decode (mcc mLaw_law) 1669 = .ok (.aload_n 0, 1) := chkD_at kLaw_law_t29 (i := 21) rfl
theorem dLaw_law_1670 : decode (mcc mLaw_law) 1670 = .ok (.iload_n 3, 1) := chkD_at kLaw_law_t29 (i := 22) rfl
theorem dLaw_law_1671 : decode (mcc mLaw_law) 1671 = .ok (.iconst 3, 1) := chkD_at kLaw_law_t29 (i := 23) rfl
theorem dLaw_law_1672 : decode (mcc mLaw_law) 1672 = .ok (.iadd, 1) := chkD_at kLaw_law_t29 (i := 24) rfl
theorem dLaw_law_1673 : decode (mcc mLaw_law) 1673 = .ok (.iaload, 1) := chkD_at kLaw_law_t29 (i := 25) rfl
theorem dLaw_law_1674 : decode (mcc mLaw_law) 1674 = .ok (.aload_n 0, 1) := chkD_at kLaw_law_t29 (i := 26) rfl
theorem dLaw_law_1675 : decode (mcc mLaw_law) 1675 = .ok (.iload_n 3, 1) := chkD_at kLaw_law_t29 (i := 27) rfl
theorem dLaw_law_1676 : decode (mcc mLaw_law) 1676 = .ok (.iconst 4, 1) := chkD_at kLaw_law_t29 (i := 28) rfl
theorem dLaw_law_1677 : decode (mcc mLaw_law) 1677 = .ok (.iadd, 1) := chkD_at kLaw_law_t29 (i := 29) rfl
theorem dLaw_law_1678 : decode (mcc mLaw_law) 1678 = .ok (.iaload, 1) := chkD_at kLaw_law_t29 (i := 30) rfl
theorem dLaw_law_1679 : decode (mcc mLaw_law) 1679 = .ok (.invokevirtual 206, 3) := chkD_at kLaw_law_t29 (i := 31) rfl
theorem dLaw_law_1682 : decode (mcc mLaw_law) 1682 = .ok (.pop, 1) := chkD_at kLaw_law_t29 (i := 32) rfl
theorem dLaw_law_1683 : decode (mcc mLaw_law) 1683 = .ok (.goto 36, 3) := chkD_at kLaw_law_t29 (i := 33) rfl
theorem dLaw_law_1686 : decode (mcc mLaw_law) 1686 = .ok (.aload_n 1, 1) := chkD_at kLaw_law_t29 (i := 34) rfl
theorem dLaw_law_1687 : decode (mcc mLaw_law) 1687 = .ok (.aload_n 0, 1) := chkD_at kLaw_law_t29 (i := 35) rfl
theorem dLaw_law_1688 : decode (mcc mLaw_law) 1688 = .ok (.iload_n 3, 1) := chkD_at kLaw_law_t29 (i := 36) rfl
theorem dLaw_law_1689 : decode (mcc mLaw_law) 1689 = .ok (.iconst 1, 1) := chkD_at kLaw_law_t29 (i := 37) rfl
theorem dLaw_law_1690 : decode (mcc mLaw_law) 1690 = .ok (.iadd, 1) := chkD_at kLaw_law_t29 (i := 38) rfl
theorem dLaw_law_1691 : decode (mcc mLaw_law) 1691 = .ok (.iaload, 1) := chkD_at kLaw_law_t29 (i := 39) rfl
def tLaw_law_t30 : List (Nat × Instr × Nat) := [(1692, .aload_n 0, 1), (1693, .iload_n 3, 1), (1694, .iconst 2, 1), (1695, .iadd, 1), (1696, .iaload, 1), (1697, .invokevirtual 207, 3), (1700, .pop, 1), (1701, .aload_n 2, 1), (1702, .aload_n 0, 1), (1703, .iload_n 3, 1), (1704, .iconst 1, 1), (1705, .iadd, 1), (1706, .iaload, 1), (1707, .aload_n 0, 1), (1708, .iload_n 3, 1), (1709, .iconst 2, 1), (1710, .iadd, 1), (1711, .iaload, 1), (1712, .invokevirtual 210, 3), (1715, .pop, 1), (1716, .goto 3, 3), (1719, .iinc 3 7, 3), (1722, .goto (-1704), 3), (1725, .iconst 1, 1), (1726, .ireturn, 1)]
theorem kLaw_law_t30 : chkD (mcc mLaw_law) tLaw_law_t30 = true := by decide +kernel
theorem dLaw_law_1692 : decode (mcc mLaw_law) 1692 = .ok (.aload_n 0, 1) := chkD_at kLaw_law_t30 (i := 0) rfl
theorem dLaw_law_1693 : decode (mcc mLaw_law) 1693 = .ok (.iload_n 3, 1) := chkD_at kLaw_law_t30 (i := 1) rfl
theorem dLaw_law_1694 : decode (mcc mLaw_law) 1694 = .ok (.iconst 2, 1) := chkD_at kLaw_law_t30 (i := 2) rfl
theorem dLaw_law_1695 : decode (mcc mLaw_law) 1695 = .ok (.iadd, 1) := chkD_at kLaw_law_t30 (i := 3) rfl
theorem dLaw_law_1696 : decode (mcc mLaw_law) 1696 = .ok (.iaload, 1) := chkD_at kLaw_law_t30 (i := 4) rfl
theorem dLaw_law_1697 : decode (mcc mLaw_law) 1697 = .ok (.invokevirtual 207, 3) := chkD_at kLaw_law_t30 (i := 5) rfl
theorem dLaw_law_1700 : decode (mcc mLaw_law) 1700 = .ok (.pop, 1) := chkD_at kLaw_law_t30 (i := 6) rfl
theorem dLaw_law_1701 : decode (mcc mLaw_law) 1701 = .ok (.aload_n 2, 1) := chkD_at kLaw_law_t30 (i := 7) rfl
theorem dLaw_law_1702 : decode (mcc mLaw_law) 1702 = .ok (.aload_n 0, 1) := chkD_at kLaw_law_t30 (i := 8) rfl
theorem dLaw_law_1703 : decode (mcc mLaw_law) 1703 = .ok (.iload_n 3, 1) := chkD_at kLaw_law_t30 (i := 9) rfl
theorem dLaw_law_1704 : decode (mcc mLaw_law) 1704 = .ok (.iconst 1, 1) := chkD_at kLaw_law_t30 (i := 10) rfl
theorem dLaw_law_1705 : decode (mcc mLaw_law) 1705 = .ok (.iadd, 1) := chkD_at kLaw_law_t30 (i := 11) rfl
theorem dLaw_law_1706 : decode (mcc mLaw_law) 1706 = .ok (.iaload, 1) := chkD_at kLaw_law_t30 (i := 12) rfl
theorem dLaw_law_1707 : decode (mcc mLaw_law) 1707 = .ok (.aload_n 0, 1) := chkD_at kLaw_law_t30 (i := 13) rfl
theorem dLaw_law_1708 : decode (mcc mLaw_law) 1708 = .ok (.iload_n 3, 1) := chkD_at kLaw_law_t30 (i := 14) rfl
theorem dLaw_law_1709 : decode (mcc mLaw_law) 1709 = .ok (.iconst 2, 1) := chkD_at kLaw_law_t30 (i := 15) rfl
theorem dLaw_law_1710 : decode (mcc mLaw_law) 1710 = .ok (.iadd, 1) := chkD_at kLaw_law_t30 (i := 16) rfl
theorem dLaw_law_1711 : decode (mcc mLaw_law) 1711 = .ok (.iaload, 1) := chkD_at kLaw_law_t30 (i := 17) rfl
theorem dLaw_law_1712 : decode (mcc mLaw_law) 1712 = .ok (.invokevirtual 210, 3) := chkD_at kLaw_law_t30 (i := 18) rfl
theorem dLaw_law_1715 : decode (mcc mLaw_law) 1715 = .ok (.pop, 1) := chkD_at kLaw_law_t30 (i := 19) rfl
theorem dLaw_law_1716 : decode (mcc mLaw_law) 1716 = .ok (.goto 3, 3) := chkD_at kLaw_law_t30 (i := 20) rfl
theorem dLaw_law_1719 : decode (mcc mLaw_law) 1719 = .ok (.iinc 3 7, 3) := chkD_at kLaw_law_t30 (i := 21) rfl
theorem dLaw_law_1722 : decode (mcc mLaw_law) 1722 = .ok (.goto (-1704), 3) := chkD_at kLaw_law_t30 (i := 22) rfl
theorem dLaw_law_1725 : decode (mcc mLaw_law) 1725 = .ok (.iconst 1, 1) := chkD_at kLaw_law_t30 (i := 23) rfl
theorem dLaw_law_1726 : decode (mcc mLaw_law) 1726 = .ok (.ireturn, 1) := chkD_at kLaw_law_t30 (i := 24) rfl
