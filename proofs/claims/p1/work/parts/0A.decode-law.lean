theorem dLaw_law_0 : decode (mcc mLaw_law) 0 = .ok (.new 7, 3) := by decide +kernel
theorem dLaw_law_3 : decode (mcc mLaw_law) 3 = .ok (.dup, 1) := by decide +kernel
theorem dLaw_law_4 : decode (mcc mLaw_law) 4 = .ok (.invokespecial 9, 3) := by decide +kernel
theorem dLaw_law_7 : decode (mcc mLaw_law) 7 = .ok (.astore_n 1, 1) := by decide +kernel
theorem dLaw_law_8 : decode (mcc mLaw_law) 8 = .ok (.new 10, 3) := by decide +kernel
theorem dLaw_law_11 : decode (mcc mLaw_law) 11 = .ok (.dup, 1) := by decide +kernel
theorem dLaw_law_12 : decode (mcc mLaw_law) 12 = .ok (.invokespecial 12, 3) := by decide +kernel
theorem dLaw_law_15 : decode (mcc mLaw_law) 15 = .ok (.astore_n 2, 1) := by decide +kernel
theorem dLaw_law_16 : decode (mcc mLaw_law) 16 = .ok (.iconst 0, 1) := by decide +kernel
theorem dLaw_law_17 : decode (mcc mLaw_law) 17 = .ok (.istore_n 3, 1) := by decide +kernel
theorem dLaw_law_18 : decode (mcc mLaw_law) 18 = .ok (.iload_n 3, 1) := by decide +kernel
theorem dLaw_law_19 : decode (mcc mLaw_law) 19 = .ok (.aload_n 0, 1) := by decide +kernel
theorem dLaw_law_20 : decode (mcc mLaw_law) 20 = .ok (.arraylength, 1) := by decide +kernel
theorem dLaw_law_21 : decode (mcc mLaw_law) 21 = .ok (.bipush 7, 2) := by decide +kernel
theorem dLaw_law_23 : decode (mcc mLaw_law) 23 = .ok (.isub, 1) := by decide +kernel
theorem dLaw_law_24 : decode (mcc mLaw_law) 24 = .ok (.if_icmp .gt 1704, 3) := by decide +kernel
theorem dLaw_law_27 : decode (mcc mLaw_law) 27 = .ok (.aload_n 0, 1) := by decide +kernel
theorem dLaw_law_28 : decode (mcc mLaw_law) 28 = .ok (.iload_n 3, 1) := by decide +kernel
theorem dLaw_law_29 : decode (mcc mLaw_law) 29 = .ok (.iaload, 1) := by decide +kernel
theorem dLaw_law_30 : decode (mcc mLaw_law) 30 = .ok (.bipush 63, 2) := by decide +kernel
theorem dLaw_law_32 : decode (mcc mLaw_law) 32 = .ok (.iand, 1) := by decide +kernel
theorem dLaw_law_33 : decode (mcc mLaw_law) 33 = .ok (.tableswitch 1689 0 46 #[203, 246, 279, 302, 325, 400, 413, 436, 489, 522, 555, 608, 641, 674, 687, 720, 753, 776, 789, 822, 855, 878, 901, 914, 927, 960, 1003, 1046, 1059, 1092, 1115, 1148, 1181, 1204, 1238, 1262, 1285, 1308, 1341, 1374, 1428, 1441, 1454, 1497, 1540, 1603, 1656], 203) := by decide +kernel
theorem dLaw_law_236 : decode (mcc mLaw_law) 236 = .ok (.aload_n 1, 1) := by decide +kernel
theorem dLaw_law_237 : decode (mcc mLaw_law) 237 = .ok (.aload_n 0, 1) := by decide +kernel
theorem dLaw_law_238 : decode (mcc mLaw_law) 238 = .ok (.iload_n 3, 1) := by decide +kernel
theorem dLaw_law_239 : decode (mcc mLaw_law) 239 = .ok (.iconst 1, 1) := by decide +kernel
theorem dLaw_law_240 : decode (mcc mLaw_law) 240 = .ok (.iadd, 1) := by decide +kernel
theorem dLaw_law_241 : decode (mcc mLaw_law) 241 = .ok (.iaload, 1) := by decide +kernel
theorem dLaw_law_242 : decode (mcc mLaw_law) 242 = .ok (.aload_n 0, 1) := by decide +kernel
theorem dLaw_law_243 : decode (mcc mLaw_law) 243 = .ok (.iload_n 3, 1) := by decide +kernel
theorem dLaw_law_244 : decode (mcc mLaw_law) 244 = .ok (.iconst 2, 1) := by decide +kernel
theorem dLaw_law_245 : decode (mcc mLaw_law) 245 = .ok (.iadd, 1) := by decide +kernel
theorem dLaw_law_246 : decode (mcc mLaw_law) 246 = .ok (.iaload, 1) := by decide +kernel
theorem dLaw_law_247 : decode (mcc mLaw_law) 247 = .ok (.aload_n 0, 1) := by decide +kernel
theorem dLaw_law_248 : decode (mcc mLaw_law) 248 = .ok (.iload_n 3, 1) := by decide +kernel
theorem dLaw_law_249 : decode (mcc mLaw_law) 249 = .ok (.iconst 3, 1) := by decide +kernel
theorem dLaw_law_250 : decode (mcc mLaw_law) 250 = .ok (.iadd, 1) := by decide +kernel
theorem dLaw_law_251 : decode (mcc mLaw_law) 251 = .ok (.iaload, 1) := by decide +kernel
theorem dLaw_law_252 : decode (mcc mLaw_law) 252 = .ok (.invokevirtual 13, 3) := by decide +kernel
theorem dLaw_law_255 : decode (mcc mLaw_law) 255 = .ok (.aload_n 2, 1) := by decide +kernel
theorem dLaw_law_256 : decode (mcc mLaw_law) 256 = .ok (.aload_n 0, 1) := by decide +kernel
theorem dLaw_law_257 : decode (mcc mLaw_law) 257 = .ok (.iload_n 3, 1) := by decide +kernel
theorem dLaw_law_258 : decode (mcc mLaw_law) 258 = .ok (.iconst 1, 1) := by decide +kernel
theorem dLaw_law_259 : decode (mcc mLaw_law) 259 = .ok (.iadd, 1) := by decide +kernel
theorem dLaw_law_260 : decode (mcc mLaw_law) 260 = .ok (.iaload, 1) := by decide +kernel
theorem dLaw_law_261 : decode (mcc mLaw_law) 261 = .ok (.aload_n 0, 1) := by decide +kernel
theorem dLaw_law_262 : decode (mcc mLaw_law) 262 = .ok (.iload_n 3, 1) := by decide +kernel
theorem dLaw_law_263 : decode (mcc mLaw_law) 263 = .ok (.iconst 2, 1) := by decide +kernel
theorem dLaw_law_264 : decode (mcc mLaw_law) 264 = .ok (.iadd, 1) := by decide +kernel
theorem dLaw_law_265 : decode (mcc mLaw_law) 265 = .ok (.iaload, 1) := by decide +kernel
theorem dLaw_law_266 : decode (mcc mLaw_law) 266 = .ok (.aload_n 0, 1) := by decide +kernel
theorem dLaw_law_267 : decode (mcc mLaw_law) 267 = .ok (.iload_n 3, 1) := by decide +kernel
theorem dLaw_law_268 : decode (mcc mLaw_law) 268 = .ok (.iconst 3, 1) := by decide +kernel
theorem dLaw_law_269 : decode (mcc mLaw_law) 269 = .ok (.iadd, 1) := by decide +kernel
theorem dLaw_law_270 : decode (mcc mLaw_law) 270 = .ok (.iaload, 1) := by decide +kernel
theorem dLaw_law_271 : decode (mcc mLaw_law) 271 = .ok (.invokevirtual 17, 3) := by decide +kernel
theorem dLaw_law_274 : decode (mcc mLaw_law) 274 = .ok (.if_icmp .eq 1448, 3) := by decide +kernel
theorem dLaw_law_277 : decode (mcc mLaw_law) 277 = .ok (.iconst 0, 1) := by decide +kernel
theorem dLaw_law_278 : decode (mcc mLaw_law) 278 = .ok (.ireturn, 1) := by decide +kernel
theorem dLaw_law_279 : decode (mcc mLaw_law) 279 = .ok (.aload_n 1, 1) := by decide +kernel
theorem dLaw_law_280 : decode (mcc mLaw_law) 280 = .ok (.aload_n 0, 1) := by decide +kernel
theorem dLaw_law_281 : decode (mcc mLaw_law) 281 = .ok (.iload_n 3, 1) := by decide +kernel
theorem dLaw_law_282 : decode (mcc mLaw_law) 282 = .ok (.iconst 1, 1) := by decide +kernel
theorem dLaw_law_283 : decode (mcc mLaw_law) 283 = .ok (.iadd, 1) := by decide +kernel
theorem dLaw_law_284 : decode (mcc mLaw_law) 284 = .ok (.iaload, 1) := by decide +kernel
theorem dLaw_law_285 : decode (mcc mLaw_law) 285 = .ok (.aload_n 0, 1) := by decide +kernel
theorem dLaw_law_286 : decode (mcc mLaw_law) 286 = .ok (.iload_n 3, 1) := by decide +kernel
theorem dLaw_law_287 : decode (mcc mLaw_law) 287 = .ok (.iconst 2, 1) := by decide +kernel
theorem dLaw_law_288 : decode (mcc mLaw_law) 288 = .ok (.iadd, 1) := by decide +kernel
theorem dLaw_law_289 : decode (mcc mLaw_law) 289 = .ok (.iaload, 1) := by decide +kernel
theorem dLaw_law_290 : decode (mcc mLaw_law) 290 = .ok (.invokevirtual 18, 3) := by decide +kernel
theorem dLaw_law_293 : decode (mcc mLaw_law) 293 = .ok (.aload_n 2, 1) := by decide +kernel
theorem dLaw_law_294 : decode (mcc mLaw_law) 294 = .ok (.aload_n 0, 1) := by decide +kernel
theorem dLaw_law_295 : decode (mcc mLaw_law) 295 = .ok (.iload_n 3, 1) := by decide +kernel
theorem dLaw_law_296 : decode (mcc mLaw_law) 296 = .ok (.iconst 1, 1) := by decide +kernel
theorem dLaw_law_297 : decode (mcc mLaw_law) 297 = .ok (.iadd, 1) := by decide +kernel
theorem dLaw_law_298 : decode (mcc mLaw_law) 298 = .ok (.iaload, 1) := by decide +kernel
theorem dLaw_law_299 : decode (mcc mLaw_law) 299 = .ok (.aload_n 0, 1) := by decide +kernel
theorem dLaw_law_300 : decode (mcc mLaw_law) 300 = .ok (.iload_n 3, 1) := by decide +kernel
theorem dLaw_law_301 : decode (mcc mLaw_law) 301 = .ok (.iconst 2, 1) := by decide +kernel
theorem dLaw_law_302 : decode (mcc mLaw_law) 302 = .ok (.iadd, 1) := by decide +kernel
theorem dLaw_law_303 : decode (mcc mLaw_law) 303 = .ok (.iaload, 1) := by decide +kernel
theorem dLaw_law_304 : decode (mcc mLaw_law) 304 = .ok (.invokevirtual 22, 3) := by decide +kernel
theorem dLaw_law_307 : decode (mcc mLaw_law) 307 = .ok (.if_icmp .eq 1415, 3) := by decide +kernel
theorem dLaw_law_310 : decode (mcc mLaw_law) 310 = .ok (.iconst 0, 1) := by decide +kernel
theorem dLaw_law_311 : decode (mcc mLaw_law) 311 = .ok (.ireturn, 1) := by decide +kernel
theorem dLaw_law_312 : decode (mcc mLaw_law) 312 = .ok (.aload_n 1, 1) := by decide +kernel
theorem dLaw_law_313 : decode (mcc mLaw_law) 313 = .ok (.aload_n 0, 1) := by decide +kernel
theorem dLaw_law_314 : decode (mcc mLaw_law) 314 = .ok (.iload_n 3, 1) := by decide +kernel
theorem dLaw_law_315 : decode (mcc mLaw_law) 315 = .ok (.iconst 1, 1) := by decide +kernel
theorem dLaw_law_316 : decode (mcc mLaw_law) 316 = .ok (.iadd, 1) := by decide +kernel
theorem dLaw_law_317 : decode (mcc mLaw_law) 317 = .ok (.iaload, 1) := by decide +kernel
theorem dLaw_law_318 : decode (mcc mLaw_law) 318 = .ok (.invokevirtual 23, 3) := by decide +kernel
theorem dLaw_law_321 : decode (mcc mLaw_law) 321 = .ok (.aload_n 2, 1) := by decide +kernel
theorem dLaw_law_322 : decode (mcc mLaw_law) 322 = .ok (.aload_n 0, 1) := by decide +kernel
theorem dLaw_law_323 : decode (mcc mLaw_law) 323 = .ok (.iload_n 3, 1) := by decide +kernel
theorem dLaw_law_324 : decode (mcc mLaw_law) 324 = .ok (.iconst 1, 1) := by decide +kernel
theorem dLaw_law_325 : decode (mcc mLaw_law) 325 = .ok (.iadd, 1) := by decide +kernel
theorem dLaw_law_326 : decode (mcc mLaw_law) 326 = .ok (.iaload, 1) := by decide +kernel
theorem dLaw_law_327 : decode (mcc mLaw_law) 327 = .ok (.invokevirtual 27, 3) := by decide +kernel
theorem dLaw_law_330 : decode (mcc mLaw_law) 330 = .ok (.if_icmp .eq 1392, 3) := by decide +kernel
theorem dLaw_law_333 : decode (mcc mLaw_law) 333 = .ok (.iconst 0, 1) := by decide +kernel
theorem dLaw_law_334 : decode (mcc mLaw_law) 334 = .ok (.ireturn, 1) := by decide +kernel
theorem dLaw_law_335 : decode (mcc mLaw_law) 335 = .ok (.aload_n 1, 1) := by decide +kernel
theorem dLaw_law_336 : decode (mcc mLaw_law) 336 = .ok (.aload_n 0, 1) := by decide +kernel
theorem dLaw_law_337 : decode (mcc mLaw_law) 337 = .ok (.iload_n 3, 1) := by decide +kernel
theorem dLaw_law_338 : decode (mcc mLaw_law) 338 = .ok (.iconst 1, 1) := by decide +kernel
theorem dLaw_law_339 : decode (mcc mLaw_law) 339 = .ok (.iadd, 1) := by decide +kernel
theorem dLaw_law_340 : decode (mcc mLaw_law) 340 = .ok (.iaload, 1) := by decide +kernel
theorem dLaw_law_341 : decode (mcc mLaw_law) 341 = .ok (.invokevirtual 28, 3) := by decide +kernel
theorem dLaw_law_344 : decode (mcc mLaw_law) 344 = .ok (.aload_n 2, 1) := by decide +kernel
theorem dLaw_law_345 : decode (mcc mLaw_law) 345 = .ok (.aload_n 0, 1) := by decide +kernel
theorem dLaw_law_346 : decode (mcc mLaw_law) 346 = .ok (.iload_n 3, 1) := by decide +kernel
theorem dLaw_law_347 : decode (mcc mLaw_law) 347 = .ok (.iconst 1, 1) := by decide +kernel
theorem dLaw_law_348 : decode (mcc mLaw_law) 348 = .ok (.iadd, 1) := by decide +kernel
theorem dLaw_law_349 : decode (mcc mLaw_law) 349 = .ok (.iaload, 1) := by decide +kernel
theorem dLaw_law_350 : decode (mcc mLaw_law) 350 = .ok (.invokevirtual 31, 3) := by decide +kernel
theorem dLaw_law_353 : decode (mcc mLaw_law) 353 = .ok (.if_icmp .eq 1369, 3) := by decide +kernel
theorem dLaw_law_356 : decode (mcc mLaw_law) 356 = .ok (.iconst 0, 1) := by decide +kernel
theorem dLaw_law_357 : decode (mcc mLaw_law) 357 = .ok (.ireturn, 1) := by decide +kernel
theorem dLaw_law_358 : decode (mcc mLaw_law) 358 = .ok (.aload_n 1, 1) := by decide +kernel
theorem dLaw_law_359 : decode (mcc mLaw_law) 359 = .ok (.aload_n 0, 1) := by decide +kernel
theorem dLaw_law_360 : decode (mcc mLaw_law) 360 = .ok (.iload_n 3, 1) := by decide +kernel
theorem dLaw_law_361 : decode (mcc mLaw_law) 361 = .ok (.iconst 1, 1) := by decide +kernel
theorem dLaw_law_362 : decode (mcc mLaw_law) 362 = .ok (.iadd, 1) := by decide +kernel
theorem dLaw_law_363 : decode (mcc mLaw_law) 363 = .ok (.iaload, 1) := by decide +kernel
theorem dLaw_law_364 : decode (mcc mLaw_law) 364 = .ok (.aload_n 0, 1) := by decide +kernel
theorem dLaw_law_365 : decode (mcc mLaw_law) 365 = .ok (.iload_n 3, 1) := by decide +kernel
theorem dLaw_law_366 : decode (mcc mLaw_law) 366 = .ok (.iconst 2, 1) := by decide +kernel
theorem dLaw_law_367 : decode (mcc mLaw_law) 367 = .ok (.iadd, 1) := by decide +kernel
theorem dLaw_law_368 : decode (mcc mLaw_law) 368 = .ok (.iaload, 1) := by decide +kernel
theorem dLaw_law_369 : decode (mcc mLaw_law) 369 = .ok (.aload_n 0, 1) := by decide +kernel
theorem dLaw_law_370 : decode (mcc mLaw_law) 370 = .ok (.iload_n 3, 1) := by decide +kernel
theorem dLaw_law_371 : decode (mcc mLaw_law) 371 = .ok (.iconst 3, 1) := by decide +kernel
theorem dLaw_law_372 : decode (mcc mLaw_law) 372 = .ok (.iadd, 1) := by decide +kernel
theorem dLaw_law_373 : decode (mcc mLaw_law) 373 = .ok (.iaload, 1) := by decide +kernel
theorem dLaw_law_374 : decode (mcc mLaw_law) 374 = .ok (.aload_n 0, 1) := by decide +kernel
theorem dLaw_law_375 : decode (mcc mLaw_law) 375 = .ok (.iload_n 3, 1) := by decide +kernel
theorem dLaw_law_376 : decode (mcc mLaw_law) 376 = .ok (.iconst 4, 1) := by decide +kernel
theorem dLaw_law_377 : decode (mcc mLaw_law) 377 = .ok (.iadd, 1) := by decide +kernel
theorem dLaw_law_378 : decode (mcc mLaw_law) 378 = .ok (.iaload, 1) := by decide +kernel
theorem dLaw_law_379 : decode (mcc mLaw_law) 379 = .ok (.aload_n 0, 1) := by decide +kernel
theorem dLaw_law_380 : decode (mcc mLaw_law) 380 = .ok (.iload_n 3, 1) := by decide +kernel
theorem dLaw_law_381 : decode (mcc mLaw_law) 381 = .ok (.iconst 5, 1) := by decide +kernel
theorem dLaw_law_382 : decode (mcc mLaw_law) 382 = .ok (.iadd, 1) := by decide +kernel
theorem dLaw_law_383 : decode (mcc mLaw_law) 383 = .ok (.iaload, 1) := by decide +kernel
theorem dLaw_law_384 : decode (mcc mLaw_law) 384 = .ok (.aload_n 0, 1) := by decide +kernel
theorem dLaw_law_385 : decode (mcc mLaw_law) 385 = .ok (.iload_n 3, 1) := by decide +kernel
theorem dLaw_law_386 : decode (mcc mLaw_law) 386 = .ok (.bipush 6, 2) := by decide +kernel
theorem dLaw_law_388 : decode (mcc mLaw_law) 388 = .ok (.iadd, 1) := by decide +kernel
theorem dLaw_law_389 : decode (mcc mLaw_law) 389 = .ok (.iaload, 1) := by decide +kernel
theorem dLaw_law_390 : decode (mcc mLaw_law) 390 = .ok (.invokevirtual 32, 3) := by decide +kernel
theorem dLaw_law_393 : decode (mcc mLaw_law) 393 = .ok (.aload_n 2, 1) := by decide +kernel
theorem dLaw_law_394 : decode (mcc mLaw_law) 394 = .ok (.aload_n 0, 1) := by decide +kernel
theorem dLaw_law_395 : decode (mcc mLaw_law) 395 = .ok (.iload_n 3, 1) := by decide +kernel
theorem dLaw_law_396 : decode (mcc mLaw_law) 396 = .ok (.iconst 1, 1) := by decide +kernel
theorem dLaw_law_397 : decode (mcc mLaw_law) 397 = .ok (.iadd, 1) := by decide +kernel
theorem dLaw_law_398 : decode (mcc mLaw_law) 398 = .ok (.iaload, 1) := by decide +kernel
theorem dLaw_law_399 : decode (mcc mLaw_law) 399 = .ok (.aload_n 0, 1) := by decide +kernel
theorem dLaw_law_400 : decode (mcc mLaw_law) 400 = .ok (.iload_n 3, 1) := by decide +kernel
theorem dLaw_law_401 : decode (mcc mLaw_law) 401 = .ok (.iconst 2, 1) := by decide +kernel
theorem dLaw_law_402 : decode (mcc mLaw_law) 402 = .ok (.iadd, 1) := by decide +kernel
theorem dLaw_law_403 : decode (mcc mLaw_law) 403 = .ok (.iaload, 1) := by decide +kernel
theorem dLaw_law_404 : decode (mcc mLaw_law) 404 = .ok (.aload_n 0, 1) := by decide +kernel
theorem dLaw_law_405 : decode (mcc mLaw_law) 405 = .ok (.iload_n 3, 1) := by decide +kernel
theorem dLaw_law_406 : decode (mcc mLaw_law) 406 = .ok (.iconst 3, 1) := by decide +kernel
theorem dLaw_law_407 : decode (mcc mLaw_law) 407 = .ok (.iadd, 1) := by decide +kernel
theorem dLaw_law_408 : decode (mcc mLaw_law) 408 = .ok (.iaload, 1) := by decide +kernel
theorem dLaw_law_409 : decode (mcc mLaw_law) 409 = .ok (.aload_n 0, 1) := by decide +kernel
theorem dLaw_law_410 : decode (mcc mLaw_law) 410 = .ok (.iload_n 3, 1) := by decide +kernel
theorem dLaw_law_411 : decode (mcc mLaw_law) 411 = .ok (.iconst 4, 1) := by decide +kernel
theorem dLaw_law_412 : decode (mcc mLaw_law) 412 = .ok (.iadd, 1) := by decide +kernel
theorem dLaw_law_413 : decode (mcc mLaw_law) 413 = .ok (.iaload, 1) := by decide +kernel
theorem dLaw_law_414 : decode (mcc mLaw_law) 414 = .ok (.aload_n 0, 1) := by decide +kernel
theorem dLaw_law_415 : decode (mcc mLaw_law) 415 = .ok (.iload_n 3, 1) := by decide +kernel
theorem dLaw_law_416 : decode (mcc mLaw_law) 416 = .ok (.iconst 5, 1) := by decide +kernel
theorem dLaw_law_417 : decode (mcc mLaw_law) 417 = .ok (.iadd, 1) := by decide +kernel
theorem dLaw_law_418 : decode (mcc mLaw_law) 418 = .ok (.iaload, 1) := by decide +kernel
theorem dLaw_law_419 : decode (mcc mLaw_law) 419 = .ok (.aload_n 0, 1) := by decide +kernel
theorem dLaw_law_420 : decode (mcc mLaw_law) 420 = .ok (.iload_n 3, 1) := by decide +kernel
theorem dLaw_law_421 : decode (mcc mLaw_law) 421 = .ok (.bipush 6, 2) := by decide +kernel
theorem dLaw_law_423 : decode (mcc mLaw_law) 423 = .ok (.iadd, 1) := by decide +kernel
theorem dLaw_law_424 : decode (mcc mLaw_law) 424 = .ok (.iaload, 1) := by decide +kernel
theorem dLaw_law_425 : decode (mcc mLaw_law) 425 = .ok (.invokevirtual 36, 3) := by decide +kernel
theorem dLaw_law_428 : decode (mcc mLaw_law) 428 = .ok (.if_icmp .eq 1294, 3) := by decide +kernel
theorem dLaw_law_431 : decode (mcc mLaw_law) 431 = .ok (.iconst 0, 1) := by decide +kernel
theorem dLaw_law_432 : decode (mcc mLaw_law) 432 = .ok (.ireturn, 1) := by decide +kernel
theorem dLaw_law_433 : decode (mcc mLaw_law) 433 = .ok (.aload_n 1, 1) := by decide +kernel
theorem dLaw_law_434 : decode (mcc mLaw_law) 434 = .ok (.invokevirtual 37, 3) := by decide +kernel
theorem dLaw_law_437 : decode (mcc mLaw_law) 437 = .ok (.aload_n 2, 1) := by decide +kernel
theorem dLaw_law_438 : decode (mcc mLaw_law) 438 = .ok (.invokevirtual 41, 3) := by decide +kernel
theorem dLaw_law_441 : decode (mcc mLaw_law) 441 = .ok (.if_icmp .eq 1281, 3) := by decide +kernel
theorem dLaw_law_444 : decode (mcc mLaw_law) 444 = .ok (.iconst 0, 1) := by decide +kernel
theorem dLaw_law_445 : decode (mcc mLaw_law) 445 = .ok (.ireturn, 1) := by decide +kernel
theorem dLaw_law_446 : decode (mcc mLaw_law) 446 = .ok (.aload_n 1, 1) := by decide +kernel
theorem dLaw_law_447 : decode (mcc mLaw_law) 447 = .ok (.aload_n 0, 1) := by decide +kernel
theorem dLaw_law_448 : decode (mcc mLaw_law) 448 = .ok (.iload_n 3, 1) := by decide +kernel
theorem dLaw_law_449 : decode (mcc mLaw_law) 449 = .ok (.iconst 1, 1) := by decide +kernel
theorem dLaw_law_450 : decode (mcc mLaw_law) 450 = .ok (.iadd, 1) := by decide +kernel
theorem dLaw_law_451 : decode (mcc mLaw_law) 451 = .ok (.iaload, 1) := by decide +kernel
theorem dLaw_law_452 : decode (mcc mLaw_law) 452 = .ok (.invokevirtual 42, 3) := by decide +kernel
theorem dLaw_law_455 : decode (mcc mLaw_law) 455 = .ok (.aload_n 2, 1) := by decide +kernel
theorem dLaw_law_456 : decode (mcc mLaw_law) 456 = .ok (.aload_n 0, 1) := by decide +kernel
theorem dLaw_law_457 : decode (mcc mLaw_law) 457 = .ok (.iload_n 3, 1) := by decide +kernel
theorem dLaw_law_458 : decode (mcc mLaw_law) 458 = .ok (.iconst 1, 1) := by decide +kernel
theorem dLaw_law_459 : decode (mcc mLaw_law) 459 = .ok (.iadd, 1) := by decide +kernel
theorem dLaw_law_460 : decode (mcc mLaw_law) 460 = .ok (.iaload, 1) := by decide +kernel
theorem dLaw_law_461 : decode (mcc mLaw_law) 461 = .ok (.invokevirtual 45, 3) := by decide +kernel
theorem dLaw_law_464 : decode (mcc mLaw_law) 464 = .ok (.if_icmp .eq 1258, 3) := by decide +kernel
theorem dLaw_law_467 : decode (mcc mLaw_law) 467 = .ok (.iconst 0, 1) := by decide +kernel
theorem dLaw_law_468 : decode (mcc mLaw_law) 468 = .ok (.ireturn, 1) := by decide +kernel
theorem dLaw_law_469 : decode (mcc mLaw_law) 469 = .ok (.aload_n 1, 1) := by decide +kernel
theorem dLaw_law_470 : decode (mcc mLaw_law) 470 = .ok (.aload_n 0, 1) := by decide +kernel
theorem dLaw_law_471 : decode (mcc mLaw_law) 471 = .ok (.iload_n 3, 1) := by decide +kernel
theorem dLaw_law_472 : decode (mcc mLaw_law) 472 = .ok (.iconst 1, 1) := by decide +kernel
theorem dLaw_law_473 : decode (mcc mLaw_law) 473 = .ok (.iadd, 1) := by decide +kernel
theorem dLaw_law_474 : decode (mcc mLaw_law) 474 = .ok (.iaload, 1) := by decide +kernel
theorem dLaw_law_475 : decode (mcc mLaw_law) 475 = .ok (.aload_n 0, 1) := by decide +kernel
theorem dLaw_law_476 : decode (mcc mLaw_law) 476 = .ok (.iload_n 3, 1) := by decide +kernel
theorem dLaw_law_477 : decode (mcc mLaw_law) 477 = .ok (.iconst 2, 1) := by decide +kernel
theorem dLaw_law_478 : decode (mcc mLaw_law) 478 = .ok (.iadd, 1) := by decide +kernel
theorem dLaw_law_479 : decode (mcc mLaw_law) 479 = .ok (.iaload, 1) := by decide +kernel
theorem dLaw_law_480 : decode (mcc mLaw_law) 480 = .ok (.aload_n 0, 1) := by decide +kernel
theorem dLaw_law_481 : decode (mcc mLaw_law) 481 = .ok (.iload_n 3, 1) := by decide +kernel
theorem dLaw_law_482 : decode (mcc mLaw_law) 482 = .ok (.iconst 3, 1) := by decide +kernel
theorem dLaw_law_483 : decode (mcc mLaw_law) 483 = .ok (.iadd, 1) := by decide +kernel
theorem dLaw_law_484 : decode (mcc mLaw_law) 484 = .ok (.iaload, 1) := by decide +kernel
theorem dLaw_law_485 : decode (mcc mLaw_law) 485 = .ok (.aload_n 0, 1) := by decide +kernel
theorem dLaw_law_486 : decode (mcc mLaw_law) 486 = .ok (.iload_n 3, 1) := by decide +kernel
theorem dLaw_law_487 : decode (mcc mLaw_law) 487 = .ok (.iconst 4, 1) := by decide +kernel
theorem dLaw_law_488 : decode (mcc mLaw_law) 488 = .ok (.iadd, 1) := by decide +kernel
theorem dLaw_law_489 : decode (mcc mLaw_law) 489 = .ok (.iaload, 1) := by decide +kernel
theorem dLaw_law_490 : decode (mcc mLaw_law) 490 = .ok (.invokevirtual 46, 3) := by decide +kernel
theorem dLaw_law_493 : decode (mcc mLaw_law) 493 = .ok (.aload_n 2, 1) := by decide +kernel
theorem dLaw_law_494 : decode (mcc mLaw_law) 494 = .ok (.aload_n 0, 1) := by decide +kernel
theorem dLaw_law_495 : decode (mcc mLaw_law) 495 = .ok (.iload_n 3, 1) := by decide +kernel
theorem dLaw_law_496 : decode (mcc mLaw_law) 496 = .ok (.iconst 1, 1) := by decide +kernel
theorem dLaw_law_497 : decode (mcc mLaw_law) 497 = .ok (.iadd, 1) := by decide +kernel
theorem dLaw_law_498 : decode (mcc mLaw_law) 498 = .ok (.iaload, 1) := by decide +kernel
theorem dLaw_law_499 : decode (mcc mLaw_law) 499 = .ok (.aload_n 0, 1) := by decide +kernel
theorem dLaw_law_500 : decode (mcc mLaw_law) 500 = .ok (.iload_n 3, 1) := by decide +kernel
theorem dLaw_law_501 : decode (mcc mLaw_law) 501 = .ok (.iconst 2, 1) := by decide +kernel
theorem dLaw_law_502 : decode (mcc mLaw_law) 502 = .ok (.iadd, 1) := by decide +kernel
theorem dLaw_law_503 : decode (mcc mLaw_law) 503 = .ok (.iaload, 1) := by decide +kernel
theorem dLaw_law_504 : decode (mcc mLaw_law) 504 = .ok (.aload_n 0, 1) := by decide +kernel
theorem dLaw_law_505 : decode (mcc mLaw_law) 505 = .ok (.iload_n 3, 1) := by decide +kernel
theorem dLaw_law_506 : decode (mcc mLaw_law) 506 = .ok (.iconst 3, 1) := by decide +kernel
theorem dLaw_law_507 : decode (mcc mLaw_law) 507 = .ok (.iadd, 1) := by decide +kernel
theorem dLaw_law_508 : decode (mcc mLaw_law) 508 = .ok (.iaload, 1) := by decide +kernel
theorem dLaw_law_509 : decode (mcc mLaw_law) 509 = .ok (.aload_n 0, 1) := by decide +kernel
theorem dLaw_law_510 : decode (mcc mLaw_law) 510 = .ok (.iload_n 3, 1) := by decide +kernel
theorem dLaw_law_511 : decode (mcc mLaw_law) 511 = .ok (.iconst 4, 1) := by decide +kernel
theorem dLaw_law_512 : decode (mcc mLaw_law) 512 = .ok (.iadd, 1) := by decide +kernel
theorem dLaw_law_513 : decode (mcc mLaw_law) 513 = .ok (.iaload, 1) := by decide +kernel
theorem dLaw_law_514 : decode (mcc mLaw_law) 514 = .ok (.invokevirtual 50, 3) := by decide +kernel
theorem dLaw_law_517 : decode (mcc mLaw_law) 517 = .ok (.if_icmp .eq 1205, 3) := by decide +kernel
theorem dLaw_law_520 : decode (mcc mLaw_law) 520 = .ok (.iconst 0, 1) := by decide +kernel
theorem dLaw_law_521 : decode (mcc mLaw_law) 521 = .ok (.ireturn, 1) := by decide +kernel
theorem dLaw_law_522 : decode (mcc mLaw_law) 522 = .ok (.aload_n 1, 1) := by decide +kernel
theorem dLaw_law_523 : decode (mcc mLaw_law) 523 = .ok (.aload_n 0, 1) := by decide +kernel
theorem dLaw_law_524 : decode (mcc mLaw_law) 524 = .ok (.iload_n 3, 1) := by decide +kernel
theorem dLaw_law_525 : decode (mcc mLaw_law) 525 = .ok (.iconst 1, 1) := by decide +kernel
theorem dLaw_law_526 : decode (mcc mLaw_law) 526 = .ok (.iadd, 1) := by decide +kernel
theorem dLaw_law_527 : decode (mcc mLaw_law) 527 = .ok (.iaload, 1) := by decide +kernel
theorem dLaw_law_528 : decode (mcc mLaw_law) 528 = .ok (.aload_n 0, 1) := by decide +kernel
theorem dLaw_law_529 : decode (mcc mLaw_law) 529 = .ok (.iload_n 3, 1) := by decide +kernel
theorem dLaw_law_530 : decode (mcc mLaw_law) 530 = .ok (.iconst 2, 1) := by decide +kernel
theorem dLaw_law_531 : decode (mcc mLaw_law) 531 = .ok (.iadd, 1) := by decide +kernel
theorem dLaw_law_532 : decode (mcc mLaw_law) 532 = .ok (.iaload, 1) := by decide +kernel
theorem dLaw_law_533 : decode (mcc mLaw_law) 533 = .ok (.invokevirtual 51, 3) := by decide +kernel
theorem dLaw_law_536 : decode (mcc mLaw_law) 536 = .ok (.aload_n 2, 1) := by decide +kernel
theorem dLaw_law_537 : decode (mcc mLaw_law) 537 = .ok (.aload_n 0, 1) := by decide +kernel
theorem dLaw_law_538 : decode (mcc mLaw_law) 538 = .ok (.iload_n 3, 1) := by decide +kernel
theorem dLaw_law_539 : decode (mcc mLaw_law) 539 = .ok (.iconst 1, 1) := by decide +kernel
theorem dLaw_law_540 : decode (mcc mLaw_law) 540 = .ok (.iadd, 1) := by decide +kernel
theorem dLaw_law_541 : decode (mcc mLaw_law) 541 = .ok (.iaload, 1) := by decide +kernel
theorem dLaw_law_542 : decode (mcc mLaw_law) 542 = .ok (.aload_n 0, 1) := by decide +kernel
theorem dLaw_law_543 : decode (mcc mLaw_law) 543 = .ok (.iload_n 3, 1) := by decide +kernel
theorem dLaw_law_544 : decode (mcc mLaw_law) 544 = .ok (.iconst 2, 1) := by decide +kernel
theorem dLaw_law_545 : decode (mcc mLaw_law) 545 = .ok (.iadd, 1) := by decide +kernel
theorem dLaw_law_546 : decode (mcc mLaw_law) 546 = .ok (.iaload, 1) := by decide +kernel
theorem dLaw_law_547 : decode (mcc mLaw_law) 547 = .ok (.invokevirtual 54, 3) := by decide +kernel
theorem dLaw_law_550 : decode (mcc mLaw_law) 550 = .ok (.if_icmp .eq 1172, 3) := by decide +kernel
theorem dLaw_law_553 : decode (mcc mLaw_law) 553 = .ok (.iconst 0, 1) := by decide +kernel
theorem dLaw_law_554 : decode (mcc mLaw_law) 554 = .ok (.ireturn, 1) := by decide +kernel
theorem dLaw_law_555 : decode (mcc mLaw_law) 555 = .ok (.aload_n 1, 1) := by decide +kernel
theorem dLaw_law_556 : decode (mcc mLaw_law) 556 = .ok (.aload_n 0, 1) := by decide +kernel
theorem dLaw_law_557 : decode (mcc mLaw_law) 557 = .ok (.iload_n 3, 1) := by decide +kernel
theorem dLaw_law_558 : decode (mcc mLaw_law) 558 = .ok (.iconst 1, 1) := by decide +kernel
theorem dLaw_law_559 : decode (mcc mLaw_law) 559 = .ok (.iadd, 1) := by decide +kernel
theorem dLaw_law_560 : decode (mcc mLaw_law) 560 = .ok (.iaload, 1) := by decide +kernel
theorem dLaw_law_561 : decode (mcc mLaw_law) 561 = .ok (.aload_n 0, 1) := by decide +kernel
theorem dLaw_law_562 : decode (mcc mLaw_law) 562 = .ok (.iload_n 3, 1) := by decide +kernel
theorem dLaw_law_563 : decode (mcc mLaw_law) 563 = .ok (.iconst 2, 1) := by decide +kernel
theorem dLaw_law_564 : decode (mcc mLaw_law) 564 = .ok (.iadd, 1) := by decide +kernel
theorem dLaw_law_565 : decode (mcc mLaw_law) 565 = .ok (.iaload, 1) := by decide +kernel
theorem dLaw_law_566 : decode (mcc mLaw_law) 566 = .ok (.invokevirtual 55, 3) := by decide +kernel
theorem dLaw_law_569 : decode (mcc mLaw_law) 569 = .ok (.aload_n 2, 1) := by decide +kernel
theorem dLaw_law_570 : decode (mcc mLaw_law) 570 = .ok (.aload_n 0, 1) := by decide +kernel
theorem dLaw_law_571 : decode (mcc mLaw_law) 571 = .ok (.iload_n 3, 1) := by decide +kernel
theorem dLaw_law_572 : decode (mcc mLaw_law) 572 = .ok (.iconst 1, 1) := by decide +kernel
theorem dLaw_law_573 : decode (mcc mLaw_law) 573 = .ok (.iadd, 1) := by decide +kernel
theorem dLaw_law_574 : decode (mcc mLaw_law) 574 = .ok (.iaload, 1) := by decide +kernel
theorem dLaw_law_575 : decode (mcc mLaw_law) 575 = .ok (.aload_n 0, 1) := by decide +kernel
theorem dLaw_law_576 : decode (mcc mLaw_law) 576 = .ok (.iload_n 3, 1) := by decide +kernel
theorem dLaw_law_577 : decode (mcc mLaw_law) 577 = .ok (.iconst 2, 1) := by decide +kernel
theorem dLaw_law_578 : decode (mcc mLaw_law) 578 = .ok (.iadd, 1) := by decide +kernel
theorem dLaw_law_579 : decode (mcc mLaw_law) 579 = .ok (.iaload, 1) := by decide +kernel
theorem dLaw_law_580 : decode (mcc mLaw_law) 580 = .ok (.invokevirtual 58, 3) := by decide +kernel
theorem dLaw_law_583 : decode (mcc mLaw_law) 583 = .ok (.if_icmp .eq 1139, 3) := by decide +kernel
theorem dLaw_law_586 : decode (mcc mLaw_law) 586 = .ok (.iconst 0, 1) := by decide +kernel
theorem dLaw_law_587 : decode (mcc mLaw_law) 587 = .ok (.ireturn, 1) := by decide +kernel
theorem dLaw_law_588 : decode (mcc mLaw_law) 588 = .ok (.aload_n 1, 1) := by decide +kernel
theorem dLaw_law_589 : decode (mcc mLaw_law) 589 = .ok (.aload_n 0, 1) := by decide +kernel
theorem dLaw_law_590 : decode (mcc mLaw_law) 590 = .ok (.iload_n 3, 1) := by decide +kernel
theorem dLaw_law_591 : decode (mcc mLaw_law) 591 = .ok (.iconst 1, 1) := by decide +kernel
theorem dLaw_law_592 : decode (mcc mLaw_law) 592 = .ok (.iadd, 1) := by decide +kernel
theorem dLaw_law_593 : decode (mcc mLaw_law) 593 = .ok (.iaload, 1) := by decide +kernel
theorem dLaw_law_594 : decode (mcc mLaw_law) 594 = .ok (.aload_n 0, 1) := by decide +kernel
theorem dLaw_law_595 : decode (mcc mLaw_law) 595 = .ok (.iload_n 3, 1) := by decide +kernel
theorem dLaw_law_596 : decode (mcc mLaw_law) 596 = .ok (.iconst 2, 1) := by decide +kernel
theorem dLaw_law_597 : decode (mcc mLaw_law) 597 = .ok (.iadd, 1) := by decide +kernel
theorem dLaw_law_598 : decode (mcc mLaw_law) 598 = .ok (.iaload, 1) := by decide +kernel
theorem dLaw_law_599 : decode (mcc mLaw_law) 599 = .ok (.aload_n 0, 1) := by decide +kernel
theorem dLaw_law_600 : decode (mcc mLaw_law) 600 = .ok (.iload_n 3, 1) := by decide +kernel
theorem dLaw_law_601 : decode (mcc mLaw_law) 601 = .ok (.iconst 3, 1) := by decide +kernel
theorem dLaw_law_602 : decode (mcc mLaw_law) 602 = .ok (.iadd, 1) := by decide +kernel
theorem dLaw_law_603 : decode (mcc mLaw_law) 603 = .ok (.iaload, 1) := by decide +kernel
theorem dLaw_law_604 : decode (mcc mLaw_law) 604 = .ok (.aload_n 0, 1) := by decide +kernel
theorem dLaw_law_605 : decode (mcc mLaw_law) 605 = .ok (.iload_n 3, 1) := by decide +kernel
theorem dLaw_law_606 : decode (mcc mLaw_law) 606 = .ok (.iconst 4, 1) := by decide +kernel
theorem dLaw_law_607 : decode (mcc mLaw_law) 607 = .ok (.iadd, 1) := by decide +kernel
theorem dLaw_law_608 : decode (mcc mLaw_law) 608 = .ok (.iaload, 1) := by decide +kernel
theorem dLaw_law_609 : decode (mcc mLaw_law) 609 = .ok (.invokevirtual 59, 3) := by decide +kernel
theorem dLaw_law_612 : decode (mcc mLaw_law) 612 = .ok (.aload_n 2, 1) := by decide +kernel
theorem dLaw_law_613 : decode (mcc mLaw_law) 613 = .ok (.aload_n 0, 1) := by decide +kernel
theorem dLaw_law_614 : decode (mcc mLaw_law) 614 = .ok (.iload_n 3, 1) := by decide +kernel
theorem dLaw_law_615 : decode (mcc mLaw_law) 615 = .ok (.iconst 1, 1) := by decide +kernel
theorem dLaw_law_616 : decode (mcc mLaw_law) 616 = .ok (.iadd, 1) := by decide +kernel
theorem dLaw_law_617 : decode (mcc mLaw_law) 617 = .ok (.iaload, 1) := by decide +kernel
theorem dLaw_law_618 : decode (mcc mLaw_law) 618 = .ok (.aload_n 0, 1) := by decide +kernel
theorem dLaw_law_619 : decode (mcc mLaw_law) 619 = .ok (.iload_n 3, 1) := by decide +kernel
theorem dLaw_law_620 : decode (mcc mLaw_law) 620 = .ok (.iconst 2, 1) := by decide +kernel
theorem dLaw_law_621 : decode (mcc mLaw_law) 621 = .ok (.iadd, 1) := by decide +kernel
theorem dLaw_law_622 : decode (mcc mLaw_law) 622 = .ok (.iaload, 1) := by decide +kernel
theorem dLaw_law_623 : decode (mcc mLaw_law) 623 = .ok (.aload_n 0, 1) := by decide +kernel
theorem dLaw_law_624 : decode (mcc mLaw_law) 624 = .ok (.iload_n 3, 1) := by decide +kernel
theorem dLaw_law_625 : decode (mcc mLaw_law) 625 = .ok (.iconst 3, 1) := by decide +kernel
theorem dLaw_law_626 : decode (mcc mLaw_law) 626 = .ok (.iadd, 1) := by decide +kernel
theorem dLaw_law_627 : decode (mcc mLaw_law) 627 = .ok (.iaload, 1) := by decide +kernel
theorem dLaw_law_628 : decode (mcc mLaw_law) 628 = .ok (.aload_n 0, 1) := by decide +kernel
theorem dLaw_law_629 : decode (mcc mLaw_law) 629 = .ok (.iload_n 3, 1) := by decide +kernel
theorem dLaw_law_630 : decode (mcc mLaw_law) 630 = .ok (.iconst 4, 1) := by decide +kernel
theorem dLaw_law_631 : decode (mcc mLaw_law) 631 = .ok (.iadd, 1) := by decide +kernel
theorem dLaw_law_632 : decode (mcc mLaw_law) 632 = .ok (.iaload, 1) := by decide +kernel
theorem dLaw_law_633 : decode (mcc mLaw_law) 633 = .ok (.invokevirtual 62, 3) := by decide +kernel
theorem dLaw_law_636 : decode (mcc mLaw_law) 636 = .ok (.if_icmp .eq 1086, 3) := by decide +kernel
theorem dLaw_law_639 : decode (mcc mLaw_law) 639 = .ok (.iconst 0, 1) := by decide +kernel
theorem dLaw_law_640 : decode (mcc mLaw_law) 640 = .ok (.ireturn, 1) := by decide +kernel
theorem dLaw_law_641 : decode (mcc mLaw_law) 641 = .ok (.aload_n 1, 1) := by decide +kernel
theorem dLaw_law_642 : decode (mcc mLaw_law) 642 = .ok (.aload_n 0, 1) := by decide +kernel
theorem dLaw_law_643 : decode (mcc mLaw_law) 643 = .ok (.iload_n 3, 1) := by decide +kernel
theorem dLaw_law_644 : decode (mcc mLaw_law) 644 = .ok (.iconst 1, 1) := by decide +kernel
theorem dLaw_law_645 : decode (mcc mLaw_law) 645 = .ok (.iadd, 1) := by decide +kernel
theorem dLaw_law_646 : decode (mcc mLaw_law) 646 = .ok (.iaload, 1) := by decide +kernel
theorem dLaw_law_647 : decode (mcc mLaw_law) 647 = .ok (.aload_n 0, 1) := by decide +kernel
theorem dLaw_law_648 : decode (mcc mLaw_law) 648 = .ok (.iload_n 3, 1) := by decide +kernel
theorem dLaw_law_649 : decode (mcc mLaw_law) 649 = .ok (.iconst 2, 1) := by decide +kernel
theorem dLaw_law_650 : decode (mcc mLaw_law) 650 = .ok (.iadd, 1) := by decide +kernel
theorem dLaw_law_651 : decode (mcc mLaw_law) 651 = .ok (.iaload, 1) := by decide +kernel
theorem dLaw_law_652 : decode (mcc mLaw_law) 652 = .ok (.invokevirtual 63, 3) := by decide +kernel
theorem dLaw_law_655 : decode (mcc mLaw_law) 655 = .ok (.aload_n 2, 1) := by decide +kernel
theorem dLaw_law_656 : decode (mcc mLaw_law) 656 = .ok (.aload_n 0, 1) := by decide +kernel
theorem dLaw_law_657 : decode (mcc mLaw_law) 657 = .ok (.iload_n 3, 1) := by decide +kernel
theorem dLaw_law_658 : decode (mcc mLaw_law) 658 = .ok (.iconst 1, 1) := by decide +kernel
theorem dLaw_law_659 : decode (mcc mLaw_law) 659 = .ok (.iadd, 1) := by decide +kernel
theorem dLaw_law_660 : decode (mcc mLaw_law) 660 = .ok (.iaload, 1) := by decide +kernel
theorem dLaw_law_661 : decode (mcc mLaw_law) 661 = .ok (.aload_n 0, 1) := by decide +kernel
theorem dLaw_law_662 : decode (mcc mLaw_law) 662 = .ok (.iload_n 3, 1) := by decide +kernel
theorem dLaw_law_663 : decode (mcc mLaw_law) 663 = .ok (.iconst 2, 1) := by decide +kernel
theorem dLaw_law_664 : decode (mcc mLaw_law) 664 = .ok (.iadd, 1) := by decide +kernel
theorem dLaw_law_665 : decode (mcc mLaw_law) 665 = .ok (.iaload, 1) := by decide +kernel
theorem dLaw_law_666 : decode (mcc mLaw_law) 666 = .ok (.invokevirtual 66, 3) := by decide +kernel
theorem dLaw_law_669 : decode (mcc mLaw_law) 669 = .ok (.if_icmp .eq 1053, 3) := by decide +kernel
theorem dLaw_law_672 : decode (mcc mLaw_law) 672 = .ok (.iconst 0, 1) := by decide +kernel
theorem dLaw_law_673 : decode (mcc mLaw_law) 673 = .ok (.ireturn, 1) := by decide +kernel
theorem dLaw_law_674 : decode (mcc mLaw_law) 674 = .ok (.aload_n 1, 1) := by decide +kernel
theorem dLaw_law_675 : decode (mcc mLaw_law) 675 = .ok (.aload_n 0, 1) := by decide +kernel
theorem dLaw_law_676 : decode (mcc mLaw_law) 676 = .ok (.iload_n 3, 1) := by decide +kernel
theorem dLaw_law_677 : decode (mcc mLaw_law) 677 = .ok (.iconst 1, 1) := by decide +kernel
theorem dLaw_law_678 : decode (mcc mLaw_law) 678 = .ok (.iadd, 1) := by decide +kernel
theorem dLaw_law_679 : decode (mcc mLaw_law) 679 = .ok (.iaload, 1) := by decide +kernel
theorem dLaw_law_680 : decode (mcc mLaw_law) 680 = .ok (.aload_n 0, 1) := by decide +kernel
theorem dLaw_law_681 : decode (mcc mLaw_law) 681 = .ok (.iload_n 3, 1) := by decide +kernel
theorem dLaw_law_682 : decode (mcc mLaw_law) 682 = .ok (.iconst 2, 1) := by decide +kernel
theorem dLaw_law_683 : decode (mcc mLaw_law) 683 = .ok (.iadd, 1) := by decide +kernel
theorem dLaw_law_684 : decode (mcc mLaw_law) 684 = .ok (.iaload, 1) := by decide +kernel
theorem dLaw_law_685 : decode (mcc mLaw_law) 685 = .ok (.invokevirtual 67, 3) := by decide +kernel
theorem dLaw_law_688 : decode (mcc mLaw_law) 688 = .ok (.aload_n 2, 1) := by decide +kernel
theorem dLaw_law_689 : decode (mcc mLaw_law) 689 = .ok (.aload_n 0, 1) := by decide +kernel
theorem dLaw_law_690 : decode (mcc mLaw_law) 690 = .ok (.iload_n 3, 1) := by decide +kernel
theorem dLaw_law_691 : decode (mcc mLaw_law) 691 = .ok (.iconst 1, 1) := by decide +kernel
theorem dLaw_law_692 : decode (mcc mLaw_law) 692 = .ok (.iadd, 1) := by decide +kernel
theorem dLaw_law_693 : decode (mcc mLaw_law) 693 = .ok (.iaload, 1) := by decide +kernel
theorem dLaw_law_694 : decode (mcc mLaw_law) 694 = .ok (.aload_n 0, 1) := by decide +kernel
theorem dLaw_law_695 : decode (mcc mLaw_law) 695 = .ok (.iload_n 3, 1) := by decide +kernel
theorem dLaw_law_696 : decode (mcc mLaw_law) 696 = .ok (.iconst 2, 1) := by decide +kernel
theorem dLaw_law_697 : decode (mcc mLaw_law) 697 = .ok (.iadd, 1) := by decide +kernel
theorem dLaw_law_698 : decode (mcc mLaw_law) 698 = .ok (.iaload, 1) := by decide +kernel
theorem dLaw_law_699 : decode (mcc mLaw_law) 699 = .ok (.invokevirtual 70, 3) := by decide +kernel
theorem dLaw_law_702 : decode (mcc mLaw_law) 702 = .ok (.if_icmp .eq 1020, 3) := by decide +kernel
theorem dLaw_law_705 : decode (mcc mLaw_law) 705 = .ok (.iconst 0, 1) := by decide +kernel
theorem dLaw_law_706 : decode (mcc mLaw_law) 706 = .ok (.ireturn, 1) := by decide +kernel
theorem dLaw_law_707 : decode (mcc mLaw_law) 707 = .ok (.aload_n 1, 1) := by decide +kernel
theorem dLaw_law_708 : decode (mcc mLaw_law) 708 = .ok (.invokevirtual 71, 3) := by decide +kernel
theorem dLaw_law_711 : decode (mcc mLaw_law) 711 = .ok (.aload_n 2, 1) := by decide +kernel
theorem dLaw_law_712 : decode (mcc mLaw_law) 712 = .ok (.invokevirtual 74, 3) := by decide +kernel
theorem dLaw_law_715 : decode (mcc mLaw_law) 715 = .ok (.if_icmp .eq 1007, 3) := by decide +kernel
theorem dLaw_law_718 : decode (mcc mLaw_law) 718 = .ok (.iconst 0, 1) := by decide +kernel
theorem dLaw_law_719 : decode (mcc mLaw_law) 719 = .ok (.ireturn, 1) := by decide +kernel
theorem dLaw_law_720 : decode (mcc mLaw_law) 720 = .ok (.aload_n 1, 1) := by decide +kernel
theorem dLaw_law_721 : decode (mcc mLaw_law) 721 = .ok (.aload_n 0, 1) := by decide +kernel
theorem dLaw_law_722 : decode (mcc mLaw_law) 722 = .ok (.iload_n 3, 1) := by decide +kernel
theorem dLaw_law_723 : decode (mcc mLaw_law) 723 = .ok (.iconst 1, 1) := by decide +kernel
theorem dLaw_law_724 : decode (mcc mLaw_law) 724 = .ok (.iadd, 1) := by decide +kernel
theorem dLaw_law_725 : decode (mcc mLaw_law) 725 = .ok (.iaload, 1) := by decide +kernel
theorem dLaw_law_726 : decode (mcc mLaw_law) 726 = .ok (.aload_n 0, 1) := by decide +kernel
theorem dLaw_law_727 : decode (mcc mLaw_law) 727 = .ok (.iload_n 3, 1) := by decide +kernel
theorem dLaw_law_728 : decode (mcc mLaw_law) 728 = .ok (.iconst 2, 1) := by decide +kernel
theorem dLaw_law_729 : decode (mcc mLaw_law) 729 = .ok (.iadd, 1) := by decide +kernel
theorem dLaw_law_730 : decode (mcc mLaw_law) 730 = .ok (.iaload, 1) := by decide +kernel
theorem dLaw_law_731 : decode (mcc mLaw_law) 731 = .ok (.invokevirtual 75, 3) := by decide +kernel
theorem dLaw_law_734 : decode (mcc mLaw_law) 734 = .ok (.aload_n 2, 1) := by decide +kernel
theorem dLaw_law_735 : decode (mcc mLaw_law) 735 = .ok (.aload_n 0, 1) := by decide +kernel
theorem dLaw_law_736 : decode (mcc mLaw_law) 736 = .ok (.iload_n 3, 1) := by decide +kernel
theorem dLaw_law_737 : decode (mcc mLaw_law) 737 = .ok (.iconst 1, 1) := by decide +kernel
theorem dLaw_law_738 : decode (mcc mLaw_law) 738 = .ok (.iadd, 1) := by decide +kernel
theorem dLaw_law_739 : decode (mcc mLaw_law) 739 = .ok (.iaload, 1) := by decide +kernel
theorem dLaw_law_740 : decode (mcc mLaw_law) 740 = .ok (.aload_n 0, 1) := by decide +kernel
theorem dLaw_law_741 : decode (mcc mLaw_law) 741 = .ok (.iload_n 3, 1) := by decide +kernel
theorem dLaw_law_742 : decode (mcc mLaw_law) 742 = .ok (.iconst 2, 1) := by decide +kernel
theorem dLaw_law_743 : decode (mcc mLaw_law) 743 = .ok (.iadd, 1) := by decide +kernel
theorem dLaw_law_744 : decode (mcc mLaw_law) 744 = .ok (.iaload, 1) := by decide +kernel
theorem dLaw_law_745 : decode (mcc mLaw_law) 745 = .ok (.invokevirtual 78, 3) := by decide +kernel
theorem dLaw_law_748 : decode (mcc mLaw_law) 748 = .ok (.if_icmp .eq 974, 3) := by decide +kernel
theorem dLaw_law_751 : decode (mcc mLaw_law) 751 = .ok (.iconst 0, 1) := by decide +kernel
theorem dLaw_law_752 : decode (mcc mLaw_law) 752 = .ok (.ireturn, 1) := by decide +kernel
theorem dLaw_law_753 : decode (mcc mLaw_law) 753 = .ok (.aload_n 1, 1) := by decide +kernel
theorem dLaw_law_754 : decode (mcc mLaw_law) 754 = .ok (.aload_n 0, 1) := by decide +kernel
theorem dLaw_law_755 : decode (mcc mLaw_law) 755 = .ok (.iload_n 3, 1) := by decide +kernel
theorem dLaw_law_756 : decode (mcc mLaw_law) 756 = .ok (.iconst 1, 1) := by decide +kernel
theorem dLaw_law_757 : decode (mcc mLaw_law) 757 = .ok (.iadd, 1) := by decide +kernel
theorem dLaw_law_758 : decode (mcc mLaw_law) 758 = .ok (.iaload, 1) := by decide +kernel
theorem dLaw_law_759 : decode (mcc mLaw_law) 759 = .ok (.aload_n 0, 1) := by decide +kernel
theorem dLaw_law_760 : decode (mcc mLaw_law) 760 = .ok (.iload_n 3, 1) := by decide +kernel
theorem dLaw_law_761 : decode (mcc mLaw_law) 761 = .ok (.iconst 2, 1) := by decide +kernel
theorem dLaw_law_762 : decode (mcc mLaw_law) 762 = .ok (.iadd, 1) := by decide +kernel
theorem dLaw_law_763 : decode (mcc mLaw_law) 763 = .ok (.iaload, 1) := by decide +kernel
theorem dLaw_law_764 : decode (mcc mLaw_law) 764 = .ok (.invokevirtual 79, 3) := by decide +kernel
theorem dLaw_law_767 : decode (mcc mLaw_law) 767 = .ok (.aload_n 2, 1) := by decide +kernel
theorem dLaw_law_768 : decode (mcc mLaw_law) 768 = .ok (.aload_n 0, 1) := by decide +kernel
theorem dLaw_law_769 : decode (mcc mLaw_law) 769 = .ok (.iload_n 3, 1) := by decide +kernel
theorem dLaw_law_770 : decode (mcc mLaw_law) 770 = .ok (.iconst 1, 1) := by decide +kernel
theorem dLaw_law_771 : decode (mcc mLaw_law) 771 = .ok (.iadd, 1) := by decide +kernel
theorem dLaw_law_772 : decode (mcc mLaw_law) 772 = .ok (.iaload, 1) := by decide +kernel
theorem dLaw_law_773 : decode (mcc mLaw_law) 773 = .ok (.aload_n 0, 1) := by decide +kernel
theorem dLaw_law_774 : decode (mcc mLaw_law) 774 = .ok (.iload_n 3, 1) := by decide +kernel
theorem dLaw_law_775 : decode (mcc mLaw_law) 775 = .ok (.iconst 2, 1) := by decide +kernel
theorem dLaw_law_776 : decode (mcc mLaw_law) 776 = .ok (.iadd, 1) := by decide +kernel
theorem dLaw_law_777 : decode (mcc mLaw_law) 777 = .ok (.iaload, 1) := by decide +kernel
theorem dLaw_law_778 : decode (mcc mLaw_law) 778 = .ok (.invokevirtual 82, 3) := by decide +kernel
theorem dLaw_law_781 : decode (mcc mLaw_law) 781 = .ok (.if_icmp .eq 941, 3) := by decide +kernel
theorem dLaw_law_784 : decode (mcc mLaw_law) 784 = .ok (.iconst 0, 1) := by decide +kernel
theorem dLaw_law_785 : decode (mcc mLaw_law) 785 = .ok (.ireturn, 1) := by decide +kernel
theorem dLaw_law_786 : decode (mcc mLaw_law) 786 = .ok (.aload_n 1, 1) := by decide +kernel
theorem dLaw_law_787 : decode (mcc mLaw_law) 787 = .ok (.aload_n 0, 1) := by decide +kernel
theorem dLaw_law_788 : decode (mcc mLaw_law) 788 = .ok (.iload_n 3, 1) := by decide +kernel
theorem dLaw_law_789 : decode (mcc mLaw_law) 789 = .ok (.iconst 1, 1) := by decide +kernel
theorem dLaw_law_790 : decode (mcc mLaw_law) 790 = .ok (.iadd, 1) := by decide +kernel
theorem dLaw_law_791 : decode (mcc mLaw_law) 791 = .ok (.iaload, 1) := by decide +kernel
theorem dLaw_law_792 : decode (mcc mLaw_law) 792 = .ok (.invokevirtual 83, 3) := by decide +kernel
theorem dLaw_law_795 : decode (mcc mLaw_law) 795 = .ok (.aload_n 2, 1) := by decide +kernel
theorem dLaw_law_796 : decode (mcc mLaw_law) 796 = .ok (.aload_n 0, 1) := by decide +kernel
theorem dLaw_law_797 : decode (mcc mLaw_law) 797 = .ok (.iload_n 3, 1) := by decide +kernel
theorem dLaw_law_798 : decode (mcc mLaw_law) 798 = .ok (.iconst 1, 1) := by decide +kernel
theorem dLaw_law_799 : decode (mcc mLaw_law) 799 = .ok (.iadd, 1) := by decide +kernel
theorem dLaw_law_800 : decode (mcc mLaw_law) 800 = .ok (.iaload, 1) := by decide +kernel
theorem dLaw_law_801 : decode (mcc mLaw_law) 801 = .ok (.invokevirtual 86, 3) := by decide +kernel
theorem dLaw_law_804 : decode (mcc mLaw_law) 804 = .ok (.if_icmp .eq 918, 3) := by decide +kernel
theorem dLaw_law_807 : decode (mcc mLaw_law) 807 = .ok (.iconst 0, 1) := by decide +kernel
theorem dLaw_law_808 : decode (mcc mLaw_law) 808 = .ok (.ireturn, 1) := by decide +kernel
theorem dLaw_law_809 : decode (mcc mLaw_law) 809 = .ok (.aload_n 1, 1) := by decide +kernel
theorem dLaw_law_810 : decode (mcc mLaw_law) 810 = .ok (.invokevirtual 87, 3) := by decide +kernel
theorem dLaw_law_813 : decode (mcc mLaw_law) 813 = .ok (.aload_n 2, 1) := by decide +kernel
theorem dLaw_law_814 : decode (mcc mLaw_law) 814 = .ok (.invokevirtual 90, 3) := by decide +kernel
theorem dLaw_law_817 : decode (mcc mLaw_law) 817 = .ok (.if_icmp .eq 905, 3) := by decide +kernel
theorem dLaw_law_820 : decode (mcc mLaw_law) 820 = .ok (.iconst 0, 1) := by decide +kernel
theorem dLaw_law_821 : decode (mcc mLaw_law) 821 = .ok (.ireturn, 1) := by decide +kernel
theorem dLaw_law_822 : decode (mcc mLaw_law) 822 = .ok (.aload_n 1, 1) := by decide +kernel
theorem dLaw_law_823 : decode (mcc mLaw_law) 823 = .ok (.aload_n 0, 1) := by decide +kernel
theorem dLaw_law_824 : decode (mcc mLaw_law) 824 = .ok (.iload_n 3, 1) := by decide +kernel
theorem dLaw_law_825 : decode (mcc mLaw_law) 825 = .ok (.iconst 1, 1) := by decide +kernel
theorem dLaw_law_826 : decode (mcc mLaw_law) 826 = .ok (.iadd, 1) := by decide +kernel
theorem dLaw_law_827 : decode (mcc mLaw_law) 827 = .ok (.iaload, 1) := by decide +kernel
theorem dLaw_law_828 : decode (mcc mLaw_law) 828 = .ok (.aload_n 0, 1) := by decide +kernel
theorem dLaw_law_829 : decode (mcc mLaw_law) 829 = .ok (.iload_n 3, 1) := by decide +kernel
theorem dLaw_law_830 : decode (mcc mLaw_law) 830 = .ok (.iconst 2, 1) := by decide +kernel
theorem dLaw_law_831 : decode (mcc mLaw_law) 831 = .ok (.iadd, 1) := by decide +kernel
theorem dLaw_law_832 : decode (mcc mLaw_law) 832 = .ok (.iaload, 1) := by decide +kernel
theorem dLaw_law_833 : decode (mcc mLaw_law) 833 = .ok (.invokevirtual 91, 3) := by decide +kernel
theorem dLaw_law_836 : decode (mcc mLaw_law) 836 = .ok (.aload_n 2, 1) := by decide +kernel
theorem dLaw_law_837 : decode (mcc mLaw_law) 837 = .ok (.aload_n 0, 1) := by decide +kernel
theorem dLaw_law_838 : decode (mcc mLaw_law) 838 = .ok (.iload_n 3, 1) := by decide +kernel
theorem dLaw_law_839 : decode (mcc mLaw_law) 839 = .ok (.iconst 1, 1) := by decide +kernel
theorem dLaw_law_840 : decode (mcc mLaw_law) 840 = .ok (.iadd, 1) := by decide +kernel
theorem dLaw_law_841 : decode (mcc mLaw_law) 841 = .ok (.iaload, 1) := by decide +kernel
theorem dLaw_law_842 : decode (mcc mLaw_law) 842 = .ok (.aload_n 0, 1) := by decide +kernel
theorem dLaw_law_843 : decode (mcc mLaw_law) 843 = .ok (.iload_n 3, 1) := by decide +kernel
theorem dLaw_law_844 : decode (mcc mLaw_law) 844 = .ok (.iconst 2, 1) := by decide +kernel
theorem dLaw_law_845 : decode (mcc mLaw_law) 845 = .ok (.iadd, 1) := by decide +kernel
theorem dLaw_law_846 : decode (mcc mLaw_law) 846 = .ok (.iaload, 1) := by decide +kernel
theorem dLaw_law_847 : decode (mcc mLaw_law) 847 = .ok (.invokevirtual 94, 3) := by decide +kernel
theorem dLaw_law_850 : decode (mcc mLaw_law) 850 = .ok (.if_icmp .eq 872, 3) := by decide +kernel
theorem dLaw_law_853 : decode (mcc mLaw_law) 853 = .ok (.iconst 0, 1) := by decide +kernel
theorem dLaw_law_854 : decode (mcc mLaw_law) 854 = .ok (.ireturn, 1) := by decide +kernel
theorem dLaw_law_855 : decode (mcc mLaw_law) 855 = .ok (.aload_n 1, 1) := by decide +kernel
theorem dLaw_law_856 : decode (mcc mLaw_law) 856 = .ok (.aload_n 0, 1) := by decide +kernel
theorem dLaw_law_857 : decode (mcc mLaw_law) 857 = .ok (.iload_n 3, 1) := by decide +kernel
theorem dLaw_law_858 : decode (mcc mLaw_law) 858 = .ok (.iconst 1, 1) := by decide +kernel
theorem dLaw_law_859 : decode (mcc mLaw_law) 859 = .ok (.iadd, 1) := by decide +kernel
theorem dLaw_law_860 : decode (mcc mLaw_law) 860 = .ok (.iaload, 1) := by decide +kernel
theorem dLaw_law_861 : decode (mcc mLaw_law) 861 = .ok (.aload_n 0, 1) := by decide +kernel
theorem dLaw_law_862 : decode (mcc mLaw_law) 862 = .ok (.iload_n 3, 1) := by decide +kernel
theorem dLaw_law_863 : decode (mcc mLaw_law) 863 = .ok (.iconst 2, 1) := by decide +kernel
theorem dLaw_law_864 : decode (mcc mLaw_law) 864 = .ok (.iadd, 1) := by decide +kernel
theorem dLaw_law_865 : decode (mcc mLaw_law) 865 = .ok (.iaload, 1) := by decide +kernel
theorem dLaw_law_866 : decode (mcc mLaw_law) 866 = .ok (.invokevirtual 95, 3) := by decide +kernel
theorem dLaw_law_869 : decode (mcc mLaw_law) 869 = .ok (.aload_n 2, 1) := by decide +kernel
theorem dLaw_law_870 : decode (mcc mLaw_law) 870 = .ok (.aload_n 0, 1) := by decide +kernel
theorem dLaw_law_871 : decode (mcc mLaw_law) 871 = .ok (.iload_n 3, 1) := by decide +kernel
theorem dLaw_law_872 : decode (mcc mLaw_law) 872 = .ok (.iconst 1, 1) := by decide +kernel
theorem dLaw_law_873 : decode (mcc mLaw_law) 873 = .ok (.iadd, 1) := by decide +kernel
theorem dLaw_law_874 : decode (mcc mLaw_law) 874 = .ok (.iaload, 1) := by decide +kernel
theorem dLaw_law_875 : decode (mcc mLaw_law) 875 = .ok (.aload_n 0, 1) := by decide +kernel
theorem dLaw_law_876 : decode (mcc mLaw_law) 876 = .ok (.iload_n 3, 1) := by decide +kernel
theorem dLaw_law_877 : decode (mcc mLaw_law) 877 = .ok (.iconst 2, 1) := by decide +kernel
theorem dLaw_law_878 : decode (mcc mLaw_law) 878 = .ok (.iadd, 1) := by decide +kernel
theorem dLaw_law_879 : decode (mcc mLaw_law) 879 = .ok (.iaload, 1) := by decide +kernel
theorem dLaw_law_880 : decode (mcc mLaw_law) 880 = .ok (.invokevirtual 98, 3) := by decide +kernel
theorem dLaw_law_883 : decode (mcc mLaw_law) 883 = .ok (.if_icmp .eq 839, 3) := by decide +kernel
theorem dLaw_law_886 : decode (mcc mLaw_law) 886 = .ok (.iconst 0, 1) := by decide +kernel
theorem dLaw_law_887 : decode (mcc mLaw_law) 887 = .ok (.ireturn, 1) := by decide +kernel
theorem dLaw_law_888 : decode (mcc mLaw_law) 888 = .ok (.aload_n 1, 1) := by decide +kernel
theorem dLaw_law_889 : decode (mcc mLaw_law) 889 = .ok (.aload_n 0, 1) := by decide +kernel
theorem dLaw_law_890 : decode (mcc mLaw_law) 890 = .ok (.iload_n 3, 1) := by decide +kernel
theorem dLaw_law_891 : decode (mcc mLaw_law) 891 = .ok (.iconst 1, 1) := by decide +kernel
theorem dLaw_law_892 : decode (mcc mLaw_law) 892 = .ok (.iadd, 1) := by decide +kernel
theorem dLaw_law_893 : decode (mcc mLaw_law) 893 = .ok (.iaload, 1) := by decide +kernel
theorem dLaw_law_894 : decode (mcc mLaw_law) 894 = .ok (.invokevirtual 99, 3) := by decide +kernel
theorem dLaw_law_897 : decode (mcc mLaw_law) 897 = .ok (.aload_n 2, 1) := by decide +kernel
theorem dLaw_law_898 : decode (mcc mLaw_law) 898 = .ok (.aload_n 0, 1) := by decide +kernel
theorem dLaw_law_899 : decode (mcc mLaw_law) 899 = .ok (.iload_n 3, 1) := by decide +kernel
theorem dLaw_law_900 : decode (mcc mLaw_law) 900 = .ok (.iconst 1, 1) := by decide +kernel
theorem dLaw_law_901 : decode (mcc mLaw_law) 901 = .ok (.iadd, 1) := by decide +kernel
theorem dLaw_law_902 : decode (mcc mLaw_law) 902 = .ok (.iaload, 1) := by decide +kernel
theorem dLaw_law_903 : decode (mcc mLaw_law) 903 = .ok (.invokevirtual 102, 3) := by decide +kernel
theorem dLaw_law_906 : decode (mcc mLaw_law) 906 = .ok (.if_icmp .eq 816, 3) := by decide +kernel
theorem dLaw_law_909 : decode (mcc mLaw_law) 909 = .ok (.iconst 0, 1) := by decide +kernel
theorem dLaw_law_910 : decode (mcc mLaw_law) 910 = .ok (.ireturn, 1) := by decide +kernel
theorem dLaw_law_911 : decode (mcc mLaw_law) 911 = .ok (.aload_n 1, 1) := by decide +kernel
theorem dLaw_law_912 : decode (mcc mLaw_law) 912 = .ok (.aload_n 0, 1) := by decide +kernel
theorem dLaw_law_913 : decode (mcc mLaw_law) 913 = .ok (.iload_n 3, 1) := by decide +kernel
theorem dLaw_law_914 : decode (mcc mLaw_law) 914 = .ok (.iconst 1, 1) := by decide +kernel
theorem dLaw_law_915 : decode (mcc mLaw_law) 915 = .ok (.iadd, 1) := by decide +kernel
theorem dLaw_law_916 : decode (mcc mLaw_law) 916 = .ok (.iaload, 1) := by decide +kernel
theorem dLaw_law_917 : decode (mcc mLaw_law) 917 = .ok (.invokevirtual 103, 3) := by decide +kernel
theorem dLaw_law_920 : decode (mcc mLaw_law) 920 = .ok (.aload_n 2, 1) := by decide +kernel
theorem dLaw_law_921 : decode (mcc mLaw_law) 921 = .ok (.aload_n 0, 1) := by decide +kernel
theorem dLaw_law_922 : decode (mcc mLaw_law) 922 = .ok (.iload_n 3, 1) := by decide +kernel
theorem dLaw_law_923 : decode (mcc mLaw_law) 923 = .ok (.iconst 1, 1) := by decide +kernel
theorem dLaw_law_924 : decode (mcc mLaw_law) 924 = .ok (.iadd, 1) := by decide +kernel
theorem dLaw_law_925 : decode (mcc mLaw_law) 925 = .ok (.iaload, 1) := by decide +kernel
theorem dLaw_law_926 : decode (mcc mLaw_law) 926 = .ok (.invokevirtual 106, 3) := by decide +kernel
theorem dLaw_law_929 : decode (mcc mLaw_law) 929 = .ok (.if_icmp .eq 793, 3) := by decide +kernel
theorem dLaw_law_932 : decode (mcc mLaw_law) 932 = .ok (.iconst 0, 1) := by decide +kernel
theorem dLaw_law_933 : decode (mcc mLaw_law) 933 = .ok (.ireturn, 1) := by decide +kernel
theorem dLaw_law_934 : decode (mcc mLaw_law) 934 = .ok (.aload_n 1, 1) := by decide +kernel
theorem dLaw_law_935 : decode (mcc mLaw_law) 935 = .ok (.invokevirtual 107, 3) := by decide +kernel
theorem dLaw_law_938 : decode (mcc mLaw_law) 938 = .ok (.aload_n 2, 1) := by decide +kernel
theorem dLaw_law_939 : decode (mcc mLaw_law) 939 = .ok (.invokevirtual 110, 3) := by decide +kernel
theorem dLaw_law_942 : decode (mcc mLaw_law) 942 = .ok (.if_icmp .eq 780, 3) := by decide +kernel
theorem dLaw_law_945 : decode (mcc mLaw_law) 945 = .ok (.iconst 0, 1) := by decide +kernel
theorem dLaw_law_946 : decode (mcc mLaw_law) 946 = .ok (.ireturn, 1) := by decide +kernel
theorem dLaw_law_947 : decode (mcc mLaw_law) 947 = .ok (.aload_n 1, 1) := by decide +kernel
theorem dLaw_law_948 : decode (mcc mLaw_law) 948 = .ok (.invokevirtual 111, 3) := by decide +kernel
theorem dLaw_law_951 : decode (mcc mLaw_law) 951 = .ok (.aload_n 2, 1) := by decide +kernel
theorem dLaw_law_952 : decode (mcc mLaw_law) 952 = .ok (.invokevirtual 114, 3) := by decide +kernel
theorem dLaw_law_955 : decode (mcc mLaw_law) 955 = .ok (.if_icmp .eq 767, 3) := by decide +kernel
theorem dLaw_law_958 : decode (mcc mLaw_law) 958 = .ok (.iconst 0, 1) := by decide +kernel
theorem dLaw_law_959 : decode (mcc mLaw_law) 959 = .ok (.ireturn, 1) := by decide +kernel
theorem dLaw_law_960 : decode (mcc mLaw_law) 960 = .ok (.aload_n 1, 1) := by decide +kernel
theorem dLaw_law_961 : decode (mcc mLaw_law) 961 = .ok (.aload_n 0, 1) := by decide +kernel
theorem dLaw_law_962 : decode (mcc mLaw_law) 962 = .ok (.iload_n 3, 1) := by decide +kernel
theorem dLaw_law_963 : decode (mcc mLaw_law) 963 = .ok (.iconst 1, 1) := by decide +kernel
theorem dLaw_law_964 : decode (mcc mLaw_law) 964 = .ok (.iadd, 1) := by decide +kernel
theorem dLaw_law_965 : decode (mcc mLaw_law) 965 = .ok (.iaload, 1) := by decide +kernel
theorem dLaw_law_966 : decode (mcc mLaw_law) 966 = .ok (.aload_n 0, 1) := by decide +kernel
theorem dLaw_law_967 : decode (mcc mLaw_law) 967 = .ok (.iload_n 3, 1) := by decide +kernel
theorem dLaw_law_968 : decode (mcc mLaw_law) 968 = .ok (.iconst 2, 1) := by decide +kernel
theorem dLaw_law_969 : decode (mcc mLaw_law) 969 = .ok (.iadd, 1) := by decide +kernel
theorem dLaw_law_970 : decode (mcc mLaw_law) 970 = .ok (.iaload, 1) := by decide +kernel
theorem dLaw_law_971 : decode (mcc mLaw_law) 971 = .ok (.invokevirtual 115, 3) := by decide +kernel
theorem dLaw_law_974 : decode (mcc mLaw_law) 974 = .ok (.aload_n 2, 1) := by decide +kernel
theorem dLaw_law_975 : decode (mcc mLaw_law) 975 = .ok (.aload_n 0, 1) := by decide +kernel
theorem dLaw_law_976 : decode (mcc mLaw_law) 976 = .ok (.iload_n 3, 1) := by decide +kernel
theorem dLaw_law_977 : decode (mcc mLaw_law) 977 = .ok (.iconst 1, 1) := by decide +kernel
theorem dLaw_law_978 : decode (mcc mLaw_law) 978 = .ok (.iadd, 1) := by decide +kernel
theorem dLaw_law_979 : decode (mcc mLaw_law) 979 = .ok (.iaload, 1) := by decide +kernel
theorem dLaw_law_980 : decode (mcc mLaw_law) 980 = .ok (.aload_n 0, 1) := by decide +kernel
theorem dLaw_law_981 : decode (mcc mLaw_law) 981 = .ok (.iload_n 3, 1) := by decide +kernel
theorem dLaw_law_982 : decode (mcc mLaw_law) 982 = .ok (.iconst 2, 1) := by decide +kernel
theorem dLaw_law_983 : decode (mcc mLaw_law) 983 = .ok (.iadd, 1) := by decide +kernel
theorem dLaw_law_984 : decode (mcc mLaw_law) 984 = .ok (.iaload, 1) := by decide +kernel
theorem dLaw_law_985 : decode (mcc mLaw_law) 985 = .ok (.invokevirtual 118, 3) := by decide +kernel
theorem dLaw_law_988 : decode (mcc mLaw_law) 988 = .ok (.if_icmp .eq 734, 3) := by decide +kernel
theorem dLaw_law_991 : decode (mcc mLaw_law) 991 = .ok (.iconst 0, 1) := by decide +kernel
theorem dLaw_law_992 : decode (mcc mLaw_law) 992 = .ok (.ireturn, 1) := by decide +kernel
theorem dLaw_law_993 : decode (mcc mLaw_law) 993 = .ok (.aload_n 1, 1) := by decide +kernel
theorem dLaw_law_994 : decode (mcc mLaw_law) 994 = .ok (.aload_n 0, 1) := by decide +kernel
theorem dLaw_law_995 : decode (mcc mLaw_law) 995 = .ok (.iload_n 3, 1) := by decide +kernel
theorem dLaw_law_996 : decode (mcc mLaw_law) 996 = .ok (.iconst 1, 1) := by decide +kernel
theorem dLaw_law_997 : decode (mcc mLaw_law) 997 = .ok (.iadd, 1) := by decide +kernel
theorem dLaw_law_998 : decode (mcc mLaw_law) 998 = .ok (.iaload, 1) := by decide +kernel
theorem dLaw_law_999 : decode (mcc mLaw_law) 999 = .ok (.aload_n 0, 1) := by decide +kernel
theorem dLaw_law_1000 : decode (mcc mLaw_law) 1000 = .ok (.iload_n 3, 1) := by decide +kernel
theorem dLaw_law_1001 : decode (mcc mLaw_law) 1001 = .ok (.iconst 2, 1) := by decide +kernel
theorem dLaw_law_1002 : decode (mcc mLaw_law) 1002 = .ok (.iadd, 1) := by decide +kernel
theorem dLaw_law_1003 : decode (mcc mLaw_law) 1003 = .ok (.iaload, 1) := by decide +kernel
theorem dLaw_law_1004 : decode (mcc mLaw_law) 1004 = .ok (.aload_n 0, 1) := by decide +kernel
theorem dLaw_law_1005 : decode (mcc mLaw_law) 1005 = .ok (.iload_n 3, 1) := by decide +kernel
theorem dLaw_law_1006 : decode (mcc mLaw_law) 1006 = .ok (.iconst 3, 1) := by decide +kernel
theorem dLaw_law_1007 : decode (mcc mLaw_law) 1007 = .ok (.iadd, 1) := by decide +kernel
theorem dLaw_law_1008 : decode (mcc mLaw_law) 1008 = .ok (.iaload, 1) := by decide +kernel
theorem dLaw_law_1009 : decode (mcc mLaw_law) 1009 = .ok (.invokevirtual 119, 3) := by decide +kernel
theorem dLaw_law_1012 : decode (mcc mLaw_law) 1012 = .ok (.aload_n 2, 1) := by decide +kernel
theorem dLaw_law_1013 : decode (mcc mLaw_law) 1013 = .ok (.aload_n 0, 1) := by decide +kernel
theorem dLaw_law_1014 : decode (mcc mLaw_law) 1014 = .ok (.iload_n 3, 1) := by decide +kernel
theorem dLaw_law_1015 : decode (mcc mLaw_law) 1015 = .ok (.iconst 1, 1) := by decide +kernel
theorem dLaw_law_1016 : decode (mcc mLaw_law) 1016 = .ok (.iadd, 1) := by decide +kernel
theorem dLaw_law_1017 : decode (mcc mLaw_law) 1017 = .ok (.iaload, 1) := by decide +kernel
theorem dLaw_law_1018 : decode (mcc mLaw_law) 1018 = .ok (.aload_n 0, 1) := by decide +kernel
theorem dLaw_law_1019 : decode (mcc mLaw_law) 1019 = .ok (.iload_n 3, 1) := by decide +kernel
theorem dLaw_law_1020 : decode (mcc mLaw_law) 1020 = .ok (.iconst 2, 1) := by decide +kernel
theorem dLaw_law_1021 : decode (mcc mLaw_law) 1021 = .ok (.iadd, 1) := by decide +kernel
theorem dLaw_law_1022 : decode (mcc mLaw_law) 1022 = .ok (.iaload, 1) := by decide +kernel
theorem dLaw_law_1023 : decode (mcc mLaw_law) 1023 = .ok (.aload_n 0, 1) := by decide +kernel
theorem dLaw_law_1024 : decode (mcc mLaw_law) 1024 = .ok (.iload_n 3, 1) := by decide +kernel
theorem dLaw_law_1025 : decode (mcc mLaw_law) 1025 = .ok (.iconst 3, 1) := by decide +kernel
theorem dLaw_law_1026 : decode (mcc mLaw_law) 1026 = .ok (.iadd, 1) := by decide +kernel
theorem dLaw_law_1027 : decode (mcc mLaw_law) 1027 = .ok (.iaload, 1) := by decide +kernel
theorem dLaw_law_1028 : decode (mcc mLaw_law) 1028 = .ok (.invokevirtual 122, 3) := by decide +kernel
theorem dLaw_law_1031 : decode (mcc mLaw_law) 1031 = .ok (.if_icmp .eq 691, 3) := by decide +kernel
theorem dLaw_law_1034 : decode (mcc mLaw_law) 1034 = .ok (.iconst 0, 1) := by decide +kernel
theorem dLaw_law_1035 : decode (mcc mLaw_law) 1035 = .ok (.ireturn, 1) := by decide +kernel
theorem dLaw_law_1036 : decode (mcc mLaw_law) 1036 = .ok (.aload_n 1, 1) := by decide +kernel
theorem dLaw_law_1037 : decode (mcc mLaw_law) 1037 = .ok (.aload_n 0, 1) := by decide +kernel
theorem dLaw_law_1038 : decode (mcc mLaw_law) 1038 = .ok (.iload_n 3, 1) := by decide +kernel
theorem dLaw_law_1039 : decode (mcc mLaw_law) 1039 = .ok (.iconst 1, 1) := by decide +kernel
theorem dLaw_law_1040 : decode (mcc mLaw_law) 1040 = .ok (.iadd, 1) := by decide +kernel
theorem dLaw_law_1041 : decode (mcc mLaw_law) 1041 = .ok (.iaload, 1) := by decide +kernel
theorem dLaw_law_1042 : decode (mcc mLaw_law) 1042 = .ok (.aload_n 0, 1) := by decide +kernel
theorem dLaw_law_1043 : decode (mcc mLaw_law) 1043 = .ok (.iload_n 3, 1) := by decide +kernel
theorem dLaw_law_1044 : decode (mcc mLaw_law) 1044 = .ok (.iconst 2, 1) := by decide +kernel
theorem dLaw_law_1045 : decode (mcc mLaw_law) 1045 = .ok (.iadd, 1) := by decide +kernel
theorem dLaw_law_1046 : decode (mcc mLaw_law) 1046 = .ok (.iaload, 1) := by decide +kernel
theorem dLaw_law_1047 : decode (mcc mLaw_law) 1047 = .ok (.aload_n 0, 1) := by decide +kernel
theorem dLaw_law_1048 : decode (mcc mLaw_law) 1048 = .ok (.iload_n 3, 1) := by decide +kernel
theorem dLaw_law_1049 : decode (mcc mLaw_law) 1049 = .ok (.iconst 3, 1) := by decide +kernel
theorem dLaw_law_1050 : decode (mcc mLaw_law) 1050 = .ok (.iadd, 1) := by decide +kernel
theorem dLaw_law_1051 : decode (mcc mLaw_law) 1051 = .ok (.iaload, 1) := by decide +kernel
theorem dLaw_law_1052 : decode (mcc mLaw_law) 1052 = .ok (.invokevirtual 123, 3) := by decide +kernel
theorem dLaw_law_1055 : decode (mcc mLaw_law) 1055 = .ok (.aload_n 2, 1) := by decide +kernel
theorem dLaw_law_1056 : decode (mcc mLaw_law) 1056 = .ok (.aload_n 0, 1) := by decide +kernel
theorem dLaw_law_1057 : decode (mcc mLaw_law) 1057 = .ok (.iload_n 3, 1) := by decide +kernel
theorem dLaw_law_1058 : decode (mcc mLaw_law) 1058 = .ok (.iconst 1, 1) := by decide +kernel
theorem dLaw_law_1059 : decode (mcc mLaw_law) 1059 = .ok (.iadd, 1) := by decide +kernel
theorem dLaw_law_1060 : decode (mcc mLaw_law) 1060 = .ok (.iaload, 1) := by decide +kernel
theorem dLaw_law_1061 : decode (mcc mLaw_law) 1061 = .ok (.aload_n 0, 1) := by decide +kernel
theorem dLaw_law_1062 : decode (mcc mLaw_law) 1062 = .ok (.iload_n 3, 1) := by decide +kernel
theorem dLaw_law_1063 : decode (mcc mLaw_law) 1063 = .ok (.iconst 2, 1) := by decide +kernel
theorem dLaw_law_1064 : decode (mcc mLaw_law) 1064 = .ok (.iadd, 1) := by decide +kernel
theorem dLaw_law_1065 : decode (mcc mLaw_law) 1065 = .ok (.iaload, 1) := by decide +kernel
theorem dLaw_law_1066 : decode (mcc mLaw_law) 1066 = .ok (.aload_n 0, 1) := by decide +kernel
theorem dLaw_law_1067 : decode (mcc mLaw_law) 1067 = .ok (.iload_n 3, 1) := by decide +kernel
theorem dLaw_law_1068 : decode (mcc mLaw_law) 1068 = .ok (.iconst 3, 1) := by decide +kernel
theorem dLaw_law_1069 : decode (mcc mLaw_law) 1069 = .ok (.iadd, 1) := by decide +kernel
theorem dLaw_law_1070 : decode (mcc mLaw_law) 1070 = .ok (.iaload, 1) := by decide +kernel
theorem dLaw_law_1071 : decode (mcc mLaw_law) 1071 = .ok (.invokevirtual 126, 3) := by decide +kernel
theorem dLaw_law_1074 : decode (mcc mLaw_law) 1074 = .ok (.if_icmp .eq 648, 3) := by decide +kernel
theorem dLaw_law_1077 : decode (mcc mLaw_law) 1077 = .ok (.iconst 0, 1) := by decide +kernel
theorem dLaw_law_1078 : decode (mcc mLaw_law) 1078 = .ok (.ireturn, 1) := by decide +kernel
theorem dLaw_law_1079 : decode (mcc mLaw_law) 1079 = .ok (.aload_n 1, 1) := by decide +kernel
theorem dLaw_law_1080 : decode (mcc mLaw_law) 1080 = .ok (.invokevirtual 127, 3) := by decide +kernel
theorem dLaw_law_1083 : decode (mcc mLaw_law) 1083 = .ok (.aload_n 2, 1) := by decide +kernel
theorem dLaw_law_1084 : decode (mcc mLaw_law) 1084 = .ok (.invokevirtual 130, 3) := by decide +kernel
theorem dLaw_law_1087 : decode (mcc mLaw_law) 1087 = .ok (.if_icmp .eq 635, 3) := by decide +kernel
theorem dLaw_law_1090 : decode (mcc mLaw_law) 1090 = .ok (.iconst 0, 1) := by decide +kernel
theorem dLaw_law_1091 : decode (mcc mLaw_law) 1091 = .ok (.ireturn, 1) := by decide +kernel
theorem dLaw_law_1092 : decode (mcc mLaw_law) 1092 = .ok (.aload_n 1, 1) := by decide +kernel
theorem dLaw_law_1093 : decode (mcc mLaw_law) 1093 = .ok (.aload_n 0, 1) := by decide +kernel
theorem dLaw_law_1094 : decode (mcc mLaw_law) 1094 = .ok (.iload_n 3, 1) := by decide +kernel
theorem dLaw_law_1095 : decode (mcc mLaw_law) 1095 = .ok (.iconst 1, 1) := by decide +kernel
theorem dLaw_law_1096 : decode (mcc mLaw_law) 1096 = .ok (.iadd, 1) := by decide +kernel
theorem dLaw_law_1097 : decode (mcc mLaw_law) 1097 = .ok (.iaload, 1) := by decide +kernel
theorem dLaw_law_1098 : decode (mcc mLaw_law) 1098 = .ok (.aload_n 0, 1) := by decide +kernel
theorem dLaw_law_1099 : decode (mcc mLaw_law) 1099 = .ok (.iload_n 3, 1) := by decide +kernel
theorem dLaw_law_1100 : decode (mcc mLaw_law) 1100 = .ok (.iconst 2, 1) := by decide +kernel
theorem dLaw_law_1101 : decode (mcc mLaw_law) 1101 = .ok (.iadd, 1) := by decide +kernel
theorem dLaw_law_1102 : decode (mcc mLaw_law) 1102 = .ok (.iaload, 1) := by decide +kernel
theorem dLaw_law_1103 : decode (mcc mLaw_law) 1103 = .ok (.invokevirtual 131, 3) := by decide +kernel
theorem dLaw_law_1106 : decode (mcc mLaw_law) 1106 = .ok (.aload_n 2, 1) := by decide +kernel
theorem dLaw_law_1107 : decode (mcc mLaw_law) 1107 = .ok (.aload_n 0, 1) := by decide +kernel
theorem dLaw_law_1108 : decode (mcc mLaw_law) 1108 = .ok (.iload_n 3, 1) := by decide +kernel
theorem dLaw_law_1109 : decode (mcc mLaw_law) 1109 = .ok (.iconst 1, 1) := by decide +kernel
theorem dLaw_law_1110 : decode (mcc mLaw_law) 1110 = .ok (.iadd, 1) := by decide +kernel
theorem dLaw_law_1111 : decode (mcc mLaw_law) 1111 = .ok (.iaload, 1) := by decide +kernel
theorem dLaw_law_1112 : decode (mcc mLaw_law) 1112 = .ok (.aload_n 0, 1) := by decide +kernel
theorem dLaw_law_1113 : decode (mcc mLaw_law) 1113 = .ok (.iload_n 3, 1) := by decide +kernel
theorem dLaw_law_1114 : decode (mcc mLaw_law) 1114 = .ok (.iconst 2, 1) := by decide +kernel
theorem dLaw_law_1115 : decode (mcc mLaw_law) 1115 = .ok (.iadd, 1) := by decide +kernel
theorem dLaw_law_1116 : decode (mcc mLaw_law) 1116 = .ok (.iaload, 1) := by decide +kernel
theorem dLaw_law_1117 : decode (mcc mLaw_law) 1117 = .ok (.invokevirtual 134, 3) := by decide +kernel
theorem dLaw_law_1120 : decode (mcc mLaw_law) 1120 = .ok (.if_icmp .eq 602, 3) := by decide +kernel
theorem dLaw_law_1123 : decode (mcc mLaw_law) 1123 = .ok (.iconst 0, 1) := by decide +kernel
theorem dLaw_law_1124 : decode (mcc mLaw_law) 1124 = .ok (.ireturn, 1) := by decide +kernel
theorem dLaw_law_1125 : decode (mcc mLaw_law) 1125 = .ok (.aload_n 1, 1) := by decide +kernel
theorem dLaw_law_1126 : decode (mcc mLaw_law) 1126 = .ok (.aload_n 0, 1) := by decide +kernel
theorem dLaw_law_1127 : decode (mcc mLaw_law) 1127 = .ok (.iload_n 3, 1) := by decide +kernel
theorem dLaw_law_1128 : decode (mcc mLaw_law) 1128 = .ok (.iconst 1, 1) := by decide +kernel
theorem dLaw_law_1129 : decode (mcc mLaw_law) 1129 = .ok (.iadd, 1) := by decide +kernel
theorem dLaw_law_1130 : decode (mcc mLaw_law) 1130 = .ok (.iaload, 1) := by decide +kernel
theorem dLaw_law_1131 : decode (mcc mLaw_law) 1131 = .ok (.invokevirtual 135, 3) := by decide +kernel
theorem dLaw_law_1134 : decode (mcc mLaw_law) 1134 = .ok (.aload_n 2, 1) := by decide +kernel
theorem dLaw_law_1135 : decode (mcc mLaw_law) 1135 = .ok (.aload_n 0, 1) := by decide +kernel
theorem dLaw_law_1136 : decode (mcc mLaw_law) 1136 = .ok (.iload_n 3, 1) := by decide +kernel
theorem dLaw_law_1137 : decode (mcc mLaw_law) 1137 = .ok (.iconst 1, 1) := by decide +kernel
theorem dLaw_law_1138 : decode (mcc mLaw_law) 1138 = .ok (.iadd, 1) := by decide +kernel
theorem dLaw_law_1139 : decode (mcc mLaw_law) 1139 = .ok (.iaload, 1) := by decide +kernel
theorem dLaw_law_1140 : decode (mcc mLaw_law) 1140 = .ok (.invokevirtual 138, 3) := by decide +kernel
theorem dLaw_law_1143 : decode (mcc mLaw_law) 1143 = .ok (.if_icmp .eq 579, 3) := by decide +kernel
theorem dLaw_law_1146 : decode (mcc mLaw_law) 1146 = .ok (.iconst 0, 1) := by decide +kernel
theorem dLaw_law_1147 : decode (mcc mLaw_law) 1147 = .ok (.ireturn, 1) := by decide +kernel
theorem dLaw_law_1148 : decode (mcc mLaw_law) 1148 = .ok (.aload_n 1, 1) := by decide +kernel
theorem dLaw_law_1149 : decode (mcc mLaw_law) 1149 = .ok (.aload_n 0, 1) := by decide +kernel
theorem dLaw_law_1150 : decode (mcc mLaw_law) 1150 = .ok (.iload_n 3, 1) := by decide +kernel
theorem dLaw_law_1151 : decode (mcc mLaw_law) 1151 = .ok (.iconst 1, 1) := by decide +kernel
theorem dLaw_law_1152 : decode (mcc mLaw_law) 1152 = .ok (.iadd, 1) := by decide +kernel
theorem dLaw_law_1153 : decode (mcc mLaw_law) 1153 = .ok (.iaload, 1) := by decide +kernel
theorem dLaw_law_1154 : decode (mcc mLaw_law) 1154 = .ok (.aload_n 0, 1) := by decide +kernel
theorem dLaw_law_1155 : decode (mcc mLaw_law) 1155 = .ok (.iload_n 3, 1) := by decide +kernel
theorem dLaw_law_1156 : decode (mcc mLaw_law) 1156 = .ok (.iconst 2, 1) := by decide +kernel
theorem dLaw_law_1157 : decode (mcc mLaw_law) 1157 = .ok (.iadd, 1) := by decide +kernel
theorem dLaw_law_1158 : decode (mcc mLaw_law) 1158 = .ok (.iaload, 1) := by decide +kernel
theorem dLaw_law_1159 : decode (mcc mLaw_law) 1159 = .ok (.invokevirtual 139, 3) := by decide +kernel
theorem dLaw_law_1162 : decode (mcc mLaw_law) 1162 = .ok (.aload_n 2, 1) := by decide +kernel
theorem dLaw_law_1163 : decode (mcc mLaw_law) 1163 = .ok (.aload_n 0, 1) := by decide +kernel
theorem dLaw_law_1164 : decode (mcc mLaw_law) 1164 = .ok (.iload_n 3, 1) := by decide +kernel
theorem dLaw_law_1165 : decode (mcc mLaw_law) 1165 = .ok (.iconst 1, 1) := by decide +kernel
theorem dLaw_law_1166 : decode (mcc mLaw_law) 1166 = .ok (.iadd, 1) := by decide +kernel
theorem dLaw_law_1167 : decode (mcc mLaw_law) 1167 = .ok (.iaload, 1) := by decide +kernel
theorem dLaw_law_1168 : decode (mcc mLaw_law) 1168 = .ok (.aload_n 0, 1) := by decide +kernel
theorem dLaw_law_1169 : decode (mcc mLaw_law) 1169 = .ok (.iload_n 3, 1) := by decide +kernel
theorem dLaw_law_1170 : decode (mcc mLaw_law) 1170 = .ok (.iconst 2, 1) := by decide +kernel
theorem dLaw_law_1171 : decode (mcc mLaw_law) 1171 = .ok (.iadd, 1) := by decide +kernel
theorem dLaw_law_1172 : decode (mcc mLaw_law) 1172 = .ok (.iaload, 1) := by decide +kernel
theorem dLaw_law_1173 : decode (mcc mLaw_law) 1173 = .ok (.invokevirtual 142, 3) := by decide +kernel
theorem dLaw_law_1176 : decode (mcc mLaw_law) 1176 = .ok (.if_icmp .eq 546, 3) := by decide +kernel
theorem dLaw_law_1179 : decode (mcc mLaw_law) 1179 = .ok (.iconst 0, 1) := by decide +kernel
theorem dLaw_law_1180 : decode (mcc mLaw_law) 1180 = .ok (.ireturn, 1) := by decide +kernel
theorem dLaw_law_1181 : decode (mcc mLaw_law) 1181 = .ok (.aload_n 1, 1) := by decide +kernel
theorem dLaw_law_1182 : decode (mcc mLaw_law) 1182 = .ok (.aload_n 0, 1) := by decide +kernel
theorem dLaw_law_1183 : decode (mcc mLaw_law) 1183 = .ok (.iload_n 3, 1) := by decide +kernel
theorem dLaw_law_1184 : decode (mcc mLaw_law) 1184 = .ok (.iconst 1, 1) := by decide +kernel
theorem dLaw_law_1185 : decode (mcc mLaw_law) 1185 = .ok (.iadd, 1) := by decide +kernel
theorem dLaw_law_1186 : decode (mcc mLaw_law) 1186 = .ok (.iaload, 1) := by decide +kernel
theorem dLaw_law_1187 : decode (mcc mLaw_law) 1187 = .ok (.aload_n 0, 1) := by decide +kernel
theorem dLaw_law_1188 : decode (mcc mLaw_law) 1188 = .ok (.iload_n 3, 1) := by decide +kernel
theorem dLaw_law_1189 : decode (mcc mLaw_law) 1189 = .ok (.iconst 2, 1) := by decide +kernel
theorem dLaw_law_1190 : decode (mcc mLaw_law) 1190 = .ok (.iadd, 1) := by decide +kernel
theorem dLaw_law_1191 : decode (mcc mLaw_law) 1191 = .ok (.iaload, 1) := by decide +kernel
theorem dLaw_law_1192 : decode (mcc mLaw_law) 1192 = .ok (.invokevirtual 143, 3) := by decide +kernel
theorem dLaw_law_1195 : decode (mcc mLaw_law) 1195 = .ok (.aload_n 2, 1) := by decide +kernel
theorem dLaw_law_1196 : decode (mcc mLaw_law) 1196 = .ok (.aload_n 0, 1) := by decide +kernel
theorem dLaw_law_1197 : decode (mcc mLaw_law) 1197 = .ok (.iload_n 3, 1) := by decide +kernel
theorem dLaw_law_1198 : decode (mcc mLaw_law) 1198 = .ok (.iconst 1, 1) := by decide +kernel
theorem dLaw_law_1199 : decode (mcc mLaw_law) 1199 = .ok (.iadd, 1) := by decide +kernel
theorem dLaw_law_1200 : decode (mcc mLaw_law) 1200 = .ok (.iaload, 1) := by decide +kernel
theorem dLaw_law_1201 : decode (mcc mLaw_law) 1201 = .ok (.aload_n 0, 1) := by decide +kernel
theorem dLaw_law_1202 : decode (mcc mLaw_law) 1202 = .ok (.iload_n 3, 1) := by decide +kernel
theorem dLaw_law_1203 : decode (mcc mLaw_law) 1203 = .ok (.iconst 2, 1) := by decide +kernel
theorem dLaw_law_1204 : decode (mcc mLaw_law) 1204 = .ok (.iadd, 1) := by decide +kernel
theorem dLaw_law_1205 : decode (mcc mLaw_law) 1205 = .ok (.iaload, 1) := by decide +kernel
theorem dLaw_law_1206 : decode (mcc mLaw_law) 1206 = .ok (.invokevirtual 146, 3) := by decide +kernel
theorem dLaw_law_1209 : decode (mcc mLaw_law) 1209 = .ok (.if_icmp .eq 513, 3) := by decide +kernel
theorem dLaw_law_1212 : decode (mcc mLaw_law) 1212 = .ok (.iconst 0, 1) := by decide +kernel
theorem dLaw_law_1213 : decode (mcc mLaw_law) 1213 = .ok (.ireturn, 1) := by decide +kernel
theorem dLaw_law_1214 : decode (mcc mLaw_law) 1214 = .ok (.aload_n 1, 1) := by decide +kernel
theorem dLaw_law_1215 : decode (mcc mLaw_law) 1215 = .ok (.aload_n 0, 1) := by decide +kernel
theorem dLaw_law_1216 : decode (mcc mLaw_law) 1216 = .ok (.iload_n 3, 1) := by decide +kernel
theorem dLaw_law_1217 : decode (mcc mLaw_law) 1217 = .ok (.iconst 1, 1) := by decide +kernel
theorem dLaw_law_1218 : decode (mcc mLaw_law) 1218 = .ok (.iadd, 1) := by decide +kernel
theorem dLaw_law_1219 : decode (mcc mLaw_law) 1219 = .ok (.iaload, 1) := by decide +kernel
theorem dLaw_law_1220 : decode (mcc mLaw_law) 1220 = .ok (.invokevirtual 147, 3) := by decide +kernel
theorem dLaw_law_1223 : decode (mcc mLaw_law) 1223 = .ok (.aload_n 2, 1) := by decide +kernel
theorem dLaw_law_1224 : decode (mcc mLaw_law) 1224 = .ok (.aload_n 0, 1) := by decide +kernel
theorem dLaw_law_1225 : decode (mcc mLaw_law) 1225 = .ok (.iload_n 3, 1) := by decide +kernel
theorem dLaw_law_1226 : decode (mcc mLaw_law) 1226 = .ok (.iconst 1, 1) := by decide +kernel
theorem dLaw_law_1227 : decode (mcc mLaw_law) 1227 = .ok (.iadd, 1) := by decide +kernel
theorem dLaw_law_1228 : decode (mcc mLaw_law) 1228 = .ok (.iaload, 1) := by decide +kernel
theorem dLaw_law_1229 : decode (mcc mLaw_law) 1229 = .ok (.invokevirtual 150, 3) := by decide +kernel
theorem dLaw_law_1232 : decode (mcc mLaw_law) 1232 = .ok (.if_icmp .eq 490, 3) := by decide +kernel
theorem dLaw_law_1235 : decode (mcc mLaw_law) 1235 = .ok (.iconst 0, 1) := by decide +kernel
theorem dLaw_law_1236 : decode (mcc mLaw_law) 1236 = .ok (.ireturn, 1) := by decide +kernel
theorem dLaw_law_1237 : decode (mcc mLaw_law) 1237 = .ok (.aload_n 1, 1) := by decide +kernel
theorem dLaw_law_1238 : decode (mcc mLaw_law) 1238 = .ok (.aload_n 0, 1) := by decide +kernel
theorem dLaw_law_1239 : decode (mcc mLaw_law) 1239 = .ok (.iload_n 3, 1) := by decide +kernel
theorem dLaw_law_1240 : decode (mcc mLaw_law) 1240 = .ok (.iconst 1, 1) := by decide +kernel
theorem dLaw_law_1241 : decode (mcc mLaw_law) 1241 = .ok (.iadd, 1) := by decide +kernel
theorem dLaw_law_1242 : decode (mcc mLaw_law) 1242 = .ok (.iaload, 1) := by decide +kernel
theorem dLaw_law_1243 : decode (mcc mLaw_law) 1243 = .ok (.aload_n 0, 1) := by decide +kernel
theorem dLaw_law_1244 : decode (mcc mLaw_law) 1244 = .ok (.iload_n 3, 1) := by decide +kernel
theorem dLaw_law_1245 : decode (mcc mLaw_law) 1245 = .ok (.iconst 2, 1) := by decide +kernel
theorem dLaw_law_1246 : decode (mcc mLaw_law) 1246 = .ok (.iadd, 1) := by decide +kernel
theorem dLaw_law_1247 : decode (mcc mLaw_law) 1247 = .ok (.iaload, 1) := by decide +kernel
theorem dLaw_law_1248 : decode (mcc mLaw_law) 1248 = .ok (.invokevirtual 151, 3) := by decide +kernel
theorem dLaw_law_1251 : decode (mcc mLaw_law) 1251 = .ok (.aload_n 2, 1) := by decide +kernel
theorem dLaw_law_1252 : decode (mcc mLaw_law) 1252 = .ok (.aload_n 0, 1) := by decide +kernel
theorem dLaw_law_1253 : decode (mcc mLaw_law) 1253 = .ok (.iload_n 3, 1) := by decide +kernel
theorem dLaw_law_1254 : decode (mcc mLaw_law) 1254 = .ok (.iconst 1, 1) := by decide +kernel
theorem dLaw_law_1255 : decode (mcc mLaw_law) 1255 = .ok (.iadd, 1) := by decide +kernel
theorem dLaw_law_1256 : decode (mcc mLaw_law) 1256 = .ok (.iaload, 1) := by decide +kernel
theorem dLaw_law_1257 : decode (mcc mLaw_law) 1257 = .ok (.aload_n 0, 1) := by decide +kernel
theorem dLaw_law_1258 : decode (mcc mLaw_law) 1258 = .ok (.iload_n 3, 1) := by decide +kernel
theorem dLaw_law_1259 : decode (mcc mLaw_law) 1259 = .ok (.iconst 2, 1) := by decide +kernel
theorem dLaw_law_1260 : decode (mcc mLaw_law) 1260 = .ok (.iadd, 1) := by decide +kernel
theorem dLaw_law_1261 : decode (mcc mLaw_law) 1261 = .ok (.iaload, 1) := by decide +kernel
theorem dLaw_law_1262 : decode (mcc mLaw_law) 1262 = .ok (.invokevirtual 155, 3) := by decide +kernel
theorem dLaw_law_1265 : decode (mcc mLaw_law) 1265 = .ok (.lcmp, 1) := by decide +kernel
theorem dLaw_law_1266 : decode (mcc mLaw_law) 1266 = .ok (.ifCond .eq 456, 3) := by decide +kernel
theorem dLaw_law_1269 : decode (mcc mLaw_law) 1269 = .ok (.iconst 0, 1) := by decide +kernel
theorem dLaw_law_1270 : decode (mcc mLaw_law) 1270 = .ok (.ireturn, 1) := by decide +kernel
theorem dLaw_law_1271 : decode (mcc mLaw_law) 1271 = .ok (.aload_n 1, 1) := by decide +kernel
theorem dLaw_law_1272 : decode (mcc mLaw_law) 1272 = .ok (.aload_n 0, 1) := by decide +kernel
theorem dLaw_law_1273 : decode (mcc mLaw_law) 1273 = .ok (.iload_n 3, 1) := by decide +kernel
theorem dLaw_law_1274 : decode (mcc mLaw_law) 1274 = .ok (.iconst 1, 1) := by decide +kernel
theorem dLaw_law_1275 : decode (mcc mLaw_law) 1275 = .ok (.iadd, 1) := by decide +kernel
theorem dLaw_law_1276 : decode (mcc mLaw_law) 1276 = .ok (.iaload, 1) := by decide +kernel
theorem dLaw_law_1277 : decode (mcc mLaw_law) 1277 = .ok (.invokevirtual 156, 3) := by decide +kernel
theorem dLaw_law_1280 : decode (mcc mLaw_law) 1280 = .ok (.aload_n 2, 1) := by decide +kernel
theorem dLaw_law_1281 : decode (mcc mLaw_law) 1281 = .ok (.aload_n 0, 1) := by decide +kernel
theorem dLaw_law_1282 : decode (mcc mLaw_law) 1282 = .ok (.iload_n 3, 1) := by decide +kernel
theorem dLaw_law_1283 : decode (mcc mLaw_law) 1283 = .ok (.iconst 1, 1) := by decide +kernel
theorem dLaw_law_1284 : decode (mcc mLaw_law) 1284 = .ok (.iadd, 1) := by decide +kernel
theorem dLaw_law_1285 : decode (mcc mLaw_law) 1285 = .ok (.iaload, 1) := by decide +kernel
theorem dLaw_law_1286 : decode (mcc mLaw_law) 1286 = .ok (.invokevirtual 160, 3) := by decide +kernel
theorem dLaw_law_1289 : decode (mcc mLaw_law) 1289 = .ok (.lcmp, 1) := by decide +kernel
theorem dLaw_law_1290 : decode (mcc mLaw_law) 1290 = .ok (.ifCond .eq 432, 3) := by decide +kernel
theorem dLaw_law_1293 : decode (mcc mLaw_law) 1293 = .ok (.iconst 0, 1) := by decide +kernel
theorem dLaw_law_1294 : decode (mcc mLaw_law) 1294 = .ok (.ireturn, 1) := by decide +kernel
theorem dLaw_law_1295 : decode (mcc mLaw_law) 1295 = .ok (.aload_n 1, 1) := by decide +kernel
theorem dLaw_law_1296 : decode (mcc mLaw_law) 1296 = .ok (.aload_n 0, 1) := by decide +kernel
theorem dLaw_law_1297 : decode (mcc mLaw_law) 1297 = .ok (.iload_n 3, 1) := by decide +kernel
theorem dLaw_law_1298 : decode (mcc mLaw_law) 1298 = .ok (.iconst 1, 1) := by decide +kernel
theorem dLaw_law_1299 : decode (mcc mLaw_law) 1299 = .ok (.iadd, 1) := by decide +kernel
theorem dLaw_law_1300 : decode (mcc mLaw_law) 1300 = .ok (.iaload, 1) := by decide +kernel
theorem dLaw_law_1301 : decode (mcc mLaw_law) 1301 = .ok (.invokevirtual 161, 3) := by decide +kernel
theorem dLaw_law_1304 : decode (mcc mLaw_law) 1304 = .ok (.aload_n 2, 1) := by decide +kernel
theorem dLaw_law_1305 : decode (mcc mLaw_law) 1305 = .ok (.aload_n 0, 1) := by decide +kernel
theorem dLaw_law_1306 : decode (mcc mLaw_law) 1306 = .ok (.iload_n 3, 1) := by decide +kernel
theorem dLaw_law_1307 : decode (mcc mLaw_law) 1307 = .ok (.iconst 1, 1) := by decide +kernel
theorem dLaw_law_1308 : decode (mcc mLaw_law) 1308 = .ok (.iadd, 1) := by decide +kernel
theorem dLaw_law_1309 : decode (mcc mLaw_law) 1309 = .ok (.iaload, 1) := by decide +kernel
theorem dLaw_law_1310 : decode (mcc mLaw_law) 1310 = .ok (.invokevirtual 164, 3) := by decide +kernel
theorem dLaw_law_1313 : decode (mcc mLaw_law) 1313 = .ok (.if_icmp .eq 409, 3) := by decide +kernel
theorem dLaw_law_1316 : decode (mcc mLaw_law) 1316 = .ok (.iconst 0, 1) := by decide +kernel
theorem dLaw_law_1317 : decode (mcc mLaw_law) 1317 = .ok (.ireturn, 1) := by decide +kernel
theorem dLaw_law_1318 : decode (mcc mLaw_law) 1318 = .ok (.aload_n 1, 1) := by decide +kernel
theorem dLaw_law_1319 : decode (mcc mLaw_law) 1319 = .ok (.aload_n 0, 1) := by decide +kernel
theorem dLaw_law_1320 : decode (mcc mLaw_law) 1320 = .ok (.iload_n 3, 1) := by decide +kernel
theorem dLaw_law_1321 : decode (mcc mLaw_law) 1321 = .ok (.iconst 1, 1) := by decide +kernel
theorem dLaw_law_1322 : decode (mcc mLaw_law) 1322 = .ok (.iadd, 1) := by decide +kernel
theorem dLaw_law_1323 : decode (mcc mLaw_law) 1323 = .ok (.iaload, 1) := by decide +kernel
theorem dLaw_law_1324 : decode (mcc mLaw_law) 1324 = .ok (.invokevirtual 165, 3) := by decide +kernel
theorem dLaw_law_1327 : decode (mcc mLaw_law) 1327 = .ok (.aload_n 2, 1) := by decide +kernel
theorem dLaw_law_1328 : decode (mcc mLaw_law) 1328 = .ok (.aload_n 0, 1) := by decide +kernel
theorem dLaw_law_1329 : decode (mcc mLaw_law) 1329 = .ok (.iload_n 3, 1) := by decide +kernel
theorem dLaw_law_1330 : decode (mcc mLaw_law) 1330 = .ok (.iconst 1, 1) := by decide +kernel
theorem dLaw_law_1331 : decode (mcc mLaw_law) 1331 = .ok (.iadd, 1) := by decide +kernel
theorem dLaw_law_1332 : decode (mcc mLaw_law) 1332 = .ok (.iaload, 1) := by decide +kernel
theorem dLaw_law_1333 : decode (mcc mLaw_law) 1333 = .ok (.invokevirtual 168, 3) := by decide +kernel
theorem dLaw_law_1336 : decode (mcc mLaw_law) 1336 = .ok (.if_icmp .eq 386, 3) := by decide +kernel
theorem dLaw_law_1339 : decode (mcc mLaw_law) 1339 = .ok (.iconst 0, 1) := by decide +kernel
theorem dLaw_law_1340 : decode (mcc mLaw_law) 1340 = .ok (.ireturn, 1) := by decide +kernel
theorem dLaw_law_1341 : decode (mcc mLaw_law) 1341 = .ok (.aload_n 1, 1) := by decide +kernel
theorem dLaw_law_1342 : decode (mcc mLaw_law) 1342 = .ok (.aload_n 0, 1) := by decide +kernel
theorem dLaw_law_1343 : decode (mcc mLaw_law) 1343 = .ok (.iload_n 3, 1) := by decide +kernel
theorem dLaw_law_1344 : decode (mcc mLaw_law) 1344 = .ok (.iconst 1, 1) := by decide +kernel
theorem dLaw_law_1345 : decode (mcc mLaw_law) 1345 = .ok (.iadd, 1) := by decide +kernel
theorem dLaw_law_1346 : decode (mcc mLaw_law) 1346 = .ok (.iaload, 1) := by decide +kernel
theorem dLaw_law_1347 : decode (mcc mLaw_law) 1347 = .ok (.aload_n 0, 1) := by decide +kernel
theorem dLaw_law_1348 : decode (mcc mLaw_law) 1348 = .ok (.iload_n 3, 1) := by decide +kernel
theorem dLaw_law_1349 : decode (mcc mLaw_law) 1349 = .ok (.iconst 2, 1) := by decide +kernel
theorem dLaw_law_1350 : decode (mcc mLaw_law) 1350 = .ok (.iadd, 1) := by decide +kernel
theorem dLaw_law_1351 : decode (mcc mLaw_law) 1351 = .ok (.iaload, 1) := by decide +kernel
theorem dLaw_law_1352 : decode (mcc mLaw_law) 1352 = .ok (.invokevirtual 169, 3) := by decide +kernel
theorem dLaw_law_1355 : decode (mcc mLaw_law) 1355 = .ok (.aload_n 2, 1) := by decide +kernel
theorem dLaw_law_1356 : decode (mcc mLaw_law) 1356 = .ok (.aload_n 0, 1) := by decide +kernel
theorem dLaw_law_1357 : decode (mcc mLaw_law) 1357 = .ok (.iload_n 3, 1) := by decide +kernel
theorem dLaw_law_1358 : decode (mcc mLaw_law) 1358 = .ok (.iconst 1, 1) := by decide +kernel
theorem dLaw_law_1359 : decode (mcc mLaw_law) 1359 = .ok (.iadd, 1) := by decide +kernel
theorem dLaw_law_1360 : decode (mcc mLaw_law) 1360 = .ok (.iaload, 1) := by decide +kernel
theorem dLaw_law_1361 : decode (mcc mLaw_law) 1361 = .ok (.aload_n 0, 1) := by decide +kernel
theorem dLaw_law_1362 : decode (mcc mLaw_law) 1362 = .ok (.iload_n 3, 1) := by decide +kernel
theorem dLaw_law_1363 : decode (mcc mLaw_law) 1363 = .ok (.iconst 2, 1) := by decide +kernel
theorem dLaw_law_1364 : decode (mcc mLaw_law) 1364 = .ok (.iadd, 1) := by decide +kernel
theorem dLaw_law_1365 : decode (mcc mLaw_law) 1365 = .ok (.iaload, 1) := by decide +kernel
theorem dLaw_law_1366 : decode (mcc mLaw_law) 1366 = .ok (.invokevirtual 172, 3) := by decide +kernel
theorem dLaw_law_1369 : decode (mcc mLaw_law) 1369 = .ok (.if_icmp .eq 353, 3) := by decide +kernel
theorem dLaw_law_1372 : decode (mcc mLaw_law) 1372 = .ok (.iconst 0, 1) := by decide +kernel
theorem dLaw_law_1373 : decode (mcc mLaw_law) 1373 = .ok (.ireturn, 1) := by decide +kernel
theorem dLaw_law_1374 : decode (mcc mLaw_law) 1374 = .ok (.aload_n 1, 1) := by decide +kernel
theorem dLaw_law_1375 : decode (mcc mLaw_law) 1375 = .ok (.aload_n 0, 1) := by decide +kernel
theorem dLaw_law_1376 : decode (mcc mLaw_law) 1376 = .ok (.iload_n 3, 1) := by decide +kernel
theorem dLaw_law_1377 : decode (mcc mLaw_law) 1377 = .ok (.iconst 1, 1) := by decide +kernel
theorem dLaw_law_1378 : decode (mcc mLaw_law) 1378 = .ok (.iadd, 1) := by decide +kernel
theorem dLaw_law_1379 : decode (mcc mLaw_law) 1379 = .ok (.iaload, 1) := by decide +kernel
theorem dLaw_law_1380 : decode (mcc mLaw_law) 1380 = .ok (.aload_n 0, 1) := by decide +kernel
theorem dLaw_law_1381 : decode (mcc mLaw_law) 1381 = .ok (.iload_n 3, 1) := by decide +kernel
theorem dLaw_law_1382 : decode (mcc mLaw_law) 1382 = .ok (.iconst 2, 1) := by decide +kernel
theorem dLaw_law_1383 : decode (mcc mLaw_law) 1383 = .ok (.iadd, 1) := by decide +kernel
theorem dLaw_law_1384 : decode (mcc mLaw_law) 1384 = .ok (.iaload, 1) := by decide +kernel
theorem dLaw_law_1385 : decode (mcc mLaw_law) 1385 = .ok (.invokevirtual 173, 3) := by decide +kernel
theorem dLaw_law_1388 : decode (mcc mLaw_law) 1388 = .ok (.aload_n 2, 1) := by decide +kernel
theorem dLaw_law_1389 : decode (mcc mLaw_law) 1389 = .ok (.aload_n 0, 1) := by decide +kernel
theorem dLaw_law_1390 : decode (mcc mLaw_law) 1390 = .ok (.iload_n 3, 1) := by decide +kernel
theorem dLaw_law_1391 : decode (mcc mLaw_law) 1391 = .ok (.iconst 1, 1) := by decide +kernel
theorem dLaw_law_1392 : decode (mcc mLaw_law) 1392 = .ok (.iadd, 1) := by decide +kernel
theorem dLaw_law_1393 : decode (mcc mLaw_law) 1393 = .ok (.iaload, 1) := by decide +kernel
theorem dLaw_law_1394 : decode (mcc mLaw_law) 1394 = .ok (.aload_n 0, 1) := by decide +kernel
theorem dLaw_law_1395 : decode (mcc mLaw_law) 1395 = .ok (.iload_n 3, 1) := by decide +kernel
theorem dLaw_law_1396 : decode (mcc mLaw_law) 1396 = .ok (.iconst 2, 1) := by decide +kernel
theorem dLaw_law_1397 : decode (mcc mLaw_law) 1397 = .ok (.iadd, 1) := by decide +kernel
theorem dLaw_law_1398 : decode (mcc mLaw_law) 1398 = .ok (.iaload, 1) := by decide +kernel
theorem dLaw_law_1399 : decode (mcc mLaw_law) 1399 = .ok (.invokevirtual 176, 3) := by decide +kernel
theorem dLaw_law_1402 : decode (mcc mLaw_law) 1402 = .ok (.if_icmp .eq 320, 3) := by decide +kernel
theorem dLaw_law_1405 : decode (mcc mLaw_law) 1405 = .ok (.iconst 0, 1) := by decide +kernel
theorem dLaw_law_1406 : decode (mcc mLaw_law) 1406 = .ok (.ireturn, 1) := by decide +kernel
theorem dLaw_law_1407 : decode (mcc mLaw_law) 1407 = .ok (.aload_n 1, 1) := by decide +kernel
theorem dLaw_law_1408 : decode (mcc mLaw_law) 1408 = .ok (.aload_n 0, 1) := by decide +kernel
theorem dLaw_law_1409 : decode (mcc mLaw_law) 1409 = .ok (.iload_n 3, 1) := by decide +kernel
theorem dLaw_law_1410 : decode (mcc mLaw_law) 1410 = .ok (.iconst 1, 1) := by decide +kernel
theorem dLaw_law_1411 : decode (mcc mLaw_law) 1411 = .ok (.iadd, 1) := by decide +kernel
theorem dLaw_law_1412 : decode (mcc mLaw_law) 1412 = .ok (.iaload, 1) := by decide +kernel
theorem dLaw_law_1413 : decode (mcc mLaw_law) 1413 = .ok (.aload_n 0, 1) := by decide +kernel
theorem dLaw_law_1414 : decode (mcc mLaw_law) 1414 = .ok (.iload_n 3, 1) := by decide +kernel
theorem dLaw_law_1415 : decode (mcc mLaw_law) 1415 = .ok (.iconst 2, 1) := by decide +kernel
theorem dLaw_law_1416 : decode (mcc mLaw_law) 1416 = .ok (.iadd, 1) := by decide +kernel
theorem dLaw_law_1417 : decode (mcc mLaw_law) 1417 = .ok (.iaload, 1) := by decide +kernel
theorem dLaw_law_1418 : decode (mcc mLaw_law) 1418 = .ok (.aload_n 0, 1) := by decide +kernel
theorem dLaw_law_1419 : decode (mcc mLaw_law) 1419 = .ok (.iload_n 3, 1) := by decide +kernel
theorem dLaw_law_1420 : decode (mcc mLaw_law) 1420 = .ok (.iconst 3, 1) := by decide +kernel
theorem dLaw_law_1421 : decode (mcc mLaw_law) 1421 = .ok (.iadd, 1) := by decide +kernel
theorem dLaw_law_1422 : decode (mcc mLaw_law) 1422 = .ok (.iaload, 1) := by decide +kernel
theorem dLaw_law_1423 : decode (mcc mLaw_law) 1423 = .ok (.aload_n 0, 1) := by decide +kernel
theorem dLaw_law_1424 : decode (mcc mLaw_law) 1424 = .ok (.iload_n 3, 1) := by decide +kernel
theorem dLaw_law_1425 : decode (mcc mLaw_law) 1425 = .ok (.iconst 4, 1) := by decide +kernel
theorem dLaw_law_1426 : decode (mcc mLaw_law) 1426 = .ok (.iadd, 1) := by decide +kernel
theorem dLaw_law_1427 : decode (mcc mLaw_law) 1427 = .ok (.iaload, 1) := by decide +kernel
theorem dLaw_law_1428 : decode (mcc mLaw_law) 1428 = .ok (.invokevirtual 177, 3) := by decide +kernel
theorem dLaw_law_1431 : decode (mcc mLaw_law) 1431 = .ok (.aload_n 2, 1) := by decide +kernel
theorem dLaw_law_1432 : decode (mcc mLaw_law) 1432 = .ok (.aload_n 0, 1) := by decide +kernel
theorem dLaw_law_1433 : decode (mcc mLaw_law) 1433 = .ok (.iload_n 3, 1) := by decide +kernel
theorem dLaw_law_1434 : decode (mcc mLaw_law) 1434 = .ok (.iconst 1, 1) := by decide +kernel
theorem dLaw_law_1435 : decode (mcc mLaw_law) 1435 = .ok (.iadd, 1) := by decide +kernel
theorem dLaw_law_1436 : decode (mcc mLaw_law) 1436 = .ok (.iaload, 1) := by decide +kernel
theorem dLaw_law_1437 : decode (mcc mLaw_law) 1437 = .ok (.aload_n 0, 1) := by decide +kernel
theorem dLaw_law_1438 : decode (mcc mLaw_law) 1438 = .ok (.iload_n 3, 1) := by decide +kernel
theorem dLaw_law_1439 : decode (mcc mLaw_law) 1439 = .ok (.iconst 2, 1) := by decide +kernel
theorem dLaw_law_1440 : decode (mcc mLaw_law) 1440 = .ok (.iadd, 1) := by decide +kernel
theorem dLaw_law_1441 : decode (mcc mLaw_law) 1441 = .ok (.iaload, 1) := by decide +kernel
theorem dLaw_law_1442 : decode (mcc mLaw_law) 1442 = .ok (.aload_n 0, 1) := by decide +kernel
theorem dLaw_law_1443 : decode (mcc mLaw_law) 1443 = .ok (.iload_n 3, 1) := by decide +kernel
theorem dLaw_law_1444 : decode (mcc mLaw_law) 1444 = .ok (.iconst 3, 1) := by decide +kernel
theorem dLaw_law_1445 : decode (mcc mLaw_law) 1445 = .ok (.iadd, 1) := by decide +kernel
theorem dLaw_law_1446 : decode (mcc mLaw_law) 1446 = .ok (.iaload, 1) := by decide +kernel
theorem dLaw_law_1447 : decode (mcc mLaw_law) 1447 = .ok (.aload_n 0, 1) := by decide +kernel
theorem dLaw_law_1448 : decode (mcc mLaw_law) 1448 = .ok (.iload_n 3, 1) := by decide +kernel
theorem dLaw_law_1449 : decode (mcc mLaw_law) 1449 = .ok (.iconst 4, 1) := by decide +kernel
theorem dLaw_law_1450 : decode (mcc mLaw_law) 1450 = .ok (.iadd, 1) := by decide +kernel
theorem dLaw_law_1451 : decode (mcc mLaw_law) 1451 = .ok (.iaload, 1) := by decide +kernel
theorem dLaw_law_1452 : decode (mcc mLaw_law) 1452 = .ok (.invokevirtual 181, 3) := by decide +kernel
theorem dLaw_law_1455 : decode (mcc mLaw_law) 1455 = .ok (.lcmp, 1) := by decide +kernel
theorem dLaw_law_1456 : decode (mcc mLaw_law) 1456 = .ok (.ifCond .eq 266, 3) := by decide +kernel
theorem dLaw_law_1459 : decode (mcc mLaw_law) 1459 = .ok (.iconst 0, 1) := by decide +kernel
theorem dLaw_law_1460 : decode (mcc mLaw_law) 1460 = .ok (.ireturn, 1) := by decide +kernel
theorem dLaw_law_1461 : decode (mcc mLaw_law) 1461 = .ok (.aload_n 1, 1) := by decide +kernel
theorem dLaw_law_1462 : decode (mcc mLaw_law) 1462 = .ok (.invokevirtual 182, 3) := by decide +kernel
theorem dLaw_law_1465 : decode (mcc mLaw_law) 1465 = .ok (.aload_n 2, 1) := by decide +kernel
theorem dLaw_law_1466 : decode (mcc mLaw_law) 1466 = .ok (.invokevirtual 185, 3) := by decide +kernel
theorem dLaw_law_1469 : decode (mcc mLaw_law) 1469 = .ok (.if_icmp .eq 253, 3) := by decide +kernel
theorem dLaw_law_1472 : decode (mcc mLaw_law) 1472 = .ok (.iconst 0, 1) := by decide +kernel
theorem dLaw_law_1473 : decode (mcc mLaw_law) 1473 = .ok (.ireturn, 1) := by decide +kernel
theorem dLaw_law_1474 : decode (mcc mLaw_law) 1474 = .ok (.aload_n 1, 1) := by decide +kernel
theorem dLaw_law_1475 : decode (mcc mLaw_law) 1475 = .ok (.invokevirtual 186, 3) := by decide +kernel
theorem dLaw_law_1478 : decode (mcc mLaw_law) 1478 = .ok (.aload_n 2, 1) := by decide +kernel
theorem dLaw_law_1479 : decode (mcc mLaw_law) 1479 = .ok (.invokevirtual 189, 3) := by decide +kernel
theorem dLaw_law_1482 : decode (mcc mLaw_law) 1482 = .ok (.if_icmp .eq 240, 3) := by decide +kernel
theorem dLaw_law_1485 : decode (mcc mLaw_law) 1485 = .ok (.iconst 0, 1) := by decide +kernel
theorem dLaw_law_1486 : decode (mcc mLaw_law) 1486 = .ok (.ireturn, 1) := by decide +kernel
theorem dLaw_law_1487 : decode (mcc mLaw_law) 1487 = .ok (.aload_n 1, 1) := by decide +kernel
theorem dLaw_law_1488 : decode (mcc mLaw_law) 1488 = .ok (.aload_n 0, 1) := by decide +kernel
theorem dLaw_law_1489 : decode (mcc mLaw_law) 1489 = .ok (.iload_n 3, 1) := by decide +kernel
theorem dLaw_law_1490 : decode (mcc mLaw_law) 1490 = .ok (.iconst 1, 1) := by decide +kernel
theorem dLaw_law_1491 : decode (mcc mLaw_law) 1491 = .ok (.iadd, 1) := by decide +kernel
theorem dLaw_law_1492 : decode (mcc mLaw_law) 1492 = .ok (.iaload, 1) := by decide +kernel
theorem dLaw_law_1493 : decode (mcc mLaw_law) 1493 = .ok (.aload_n 0, 1) := by decide +kernel
theorem dLaw_law_1494 : decode (mcc mLaw_law) 1494 = .ok (.iload_n 3, 1) := by decide +kernel
theorem dLaw_law_1495 : decode (mcc mLaw_law) 1495 = .ok (.iconst 2, 1) := by decide +kernel
theorem dLaw_law_1496 : decode (mcc mLaw_law) 1496 = .ok (.iadd, 1) := by decide +kernel
theorem dLaw_law_1497 : decode (mcc mLaw_law) 1497 = .ok (.iaload, 1) := by decide +kernel
theorem dLaw_law_1498 : decode (mcc mLaw_law) 1498 = .ok (.aload_n 0, 1) := by decide +kernel
theorem dLaw_law_1499 : decode (mcc mLaw_law) 1499 = .ok (.iload_n 3, 1) := by decide +kernel
theorem dLaw_law_1500 : decode (mcc mLaw_law) 1500 = .ok (.iconst 3, 1) := by decide +kernel
theorem dLaw_law_1501 : decode (mcc mLaw_law) 1501 = .ok (.iadd, 1) := by decide +kernel
theorem dLaw_law_1502 : decode (mcc mLaw_law) 1502 = .ok (.iaload, 1) := by decide +kernel
theorem dLaw_law_1503 : decode (mcc mLaw_law) 1503 = .ok (.invokevirtual 190, 3) := by decide +kernel
theorem dLaw_law_1506 : decode (mcc mLaw_law) 1506 = .ok (.aload_n 2, 1) := by decide +kernel
theorem dLaw_law_1507 : decode (mcc mLaw_law) 1507 = .ok (.aload_n 0, 1) := by decide +kernel
theorem dLaw_law_1508 : decode (mcc mLaw_law) 1508 = .ok (.iload_n 3, 1) := by decide +kernel
theorem dLaw_law_1509 : decode (mcc mLaw_law) 1509 = .ok (.iconst 1, 1) := by decide +kernel
theorem dLaw_law_1510 : decode (mcc mLaw_law) 1510 = .ok (.iadd, 1) := by decide +kernel
theorem dLaw_law_1511 : decode (mcc mLaw_law) 1511 = .ok (.iaload, 1) := by decide +kernel
theorem dLaw_law_1512 : decode (mcc mLaw_law) 1512 = .ok (.aload_n 0, 1) := by decide +kernel
theorem dLaw_law_1513 : decode (mcc mLaw_law) 1513 = .ok (.iload_n 3, 1) := by decide +kernel
theorem dLaw_law_1514 : decode (mcc mLaw_law) 1514 = .ok (.iconst 2, 1) := by decide +kernel
theorem dLaw_law_1515 : decode (mcc mLaw_law) 1515 = .ok (.iadd, 1) := by decide +kernel
theorem dLaw_law_1516 : decode (mcc mLaw_law) 1516 = .ok (.iaload, 1) := by decide +kernel
theorem dLaw_law_1517 : decode (mcc mLaw_law) 1517 = .ok (.aload_n 0, 1) := by decide +kernel
theorem dLaw_law_1518 : decode (mcc mLaw_law) 1518 = .ok (.iload_n 3, 1) := by decide +kernel
theorem dLaw_law_1519 : decode (mcc mLaw_law) 1519 = .ok (.iconst 3, 1) := by decide +kernel
theorem dLaw_law_1520 : decode (mcc mLaw_law) 1520 = .ok (.iadd, 1) := by decide +kernel
theorem dLaw_law_1521 : decode (mcc mLaw_law) 1521 = .ok (.iaload, 1) := by decide +kernel
theorem dLaw_law_1522 : decode (mcc mLaw_law) 1522 = .ok (.invokevirtual 193, 3) := by decide +kernel
theorem dLaw_law_1525 : decode (mcc mLaw_law) 1525 = .ok (.if_icmp .eq 197, 3) := by decide +kernel
theorem dLaw_law_1528 : decode (mcc mLaw_law) 1528 = .ok (.iconst 0, 1) := by decide +kernel
theorem dLaw_law_1529 : decode (mcc mLaw_law) 1529 = .ok (.ireturn, 1) := by decide +kernel
theorem dLaw_law_1530 : decode (mcc mLaw_law) 1530 = .ok (.aload_n 1, 1) := by decide +kernel
theorem dLaw_law_1531 : decode (mcc mLaw_law) 1531 = .ok (.aload_n 0, 1) := by decide +kernel
theorem dLaw_law_1532 : decode (mcc mLaw_law) 1532 = .ok (.iload_n 3, 1) := by decide +kernel
theorem dLaw_law_1533 : decode (mcc mLaw_law) 1533 = .ok (.iconst 1, 1) := by decide +kernel
theorem dLaw_law_1534 : decode (mcc mLaw_law) 1534 = .ok (.iadd, 1) := by decide +kernel
theorem dLaw_law_1535 : decode (mcc mLaw_law) 1535 = .ok (.iaload, 1) := by decide +kernel
theorem dLaw_law_1536 : decode (mcc mLaw_law) 1536 = .ok (.aload_n 0, 1) := by decide +kernel
theorem dLaw_law_1537 : decode (mcc mLaw_law) 1537 = .ok (.iload_n 3, 1) := by decide +kernel
theorem dLaw_law_1538 : decode (mcc mLaw_law) 1538 = .ok (.iconst 2, 1) := by decide +kernel
theorem dLaw_law_1539 : decode (mcc mLaw_law) 1539 = .ok (.iadd, 1) := by decide +kernel
theorem dLaw_law_1540 : decode (mcc mLaw_law) 1540 = .ok (.iaload, 1) := by decide +kernel
theorem dLaw_law_1541 : decode (mcc mLaw_law) 1541 = .ok (.aload_n 0, 1) := by decide +kernel
theorem dLaw_law_1542 : decode (mcc mLaw_law) 1542 = .ok (.iload_n 3, 1) := by decide +kernel
theorem dLaw_law_1543 : decode (mcc mLaw_law) 1543 = .ok (.iconst 3, 1) := by decide +kernel
theorem dLaw_law_1544 : decode (mcc mLaw_law) 1544 = .ok (.iadd, 1) := by decide +kernel
theorem dLaw_law_1545 : decode (mcc mLaw_law) 1545 = .ok (.iaload, 1) := by decide +kernel
theorem dLaw_law_1546 : decode (mcc mLaw_law) 1546 = .ok (.invokevirtual 194, 3) := by decide +kernel
theorem dLaw_law_1549 : decode (mcc mLaw_law) 1549 = .ok (.aload_n 2, 1) := by decide +kernel
theorem dLaw_law_1550 : decode (mcc mLaw_law) 1550 = .ok (.aload_n 0, 1) := by decide +kernel
theorem dLaw_law_1551 : decode (mcc mLaw_law) 1551 = .ok (.iload_n 3, 1) := by decide +kernel
theorem dLaw_law_1552 : decode (mcc mLaw_law) 1552 = .ok (.iconst 1, 1) := by decide +kernel
theorem dLaw_law_1553 : decode (mcc mLaw_law) 1553 = .ok (.iadd, 1) := by decide +kernel
theorem dLaw_law_1554 : decode (mcc mLaw_law) 1554 = .ok (.iaload, 1) := by decide +kernel
theorem dLaw_law_1555 : decode (mcc mLaw_law) 1555 = .ok (.aload_n 0, 1) := by decide +kernel
theorem dLaw_law_1556 : decode (mcc mLaw_law) 1556 = .ok (.iload_n 3, 1) := by decide +kernel
theorem dLaw_law_1557 : decode (mcc mLaw_law) 1557 = .ok (.iconst 2, 1) := by decide +kernel
theorem dLaw_law_1558 : decode (mcc mLaw_law) 1558 = .ok (.iadd, 1) := by decide +kernel
theorem dLaw_law_1559 : decode (mcc mLaw_law) 1559 = .ok (.iaload, 1) := by decide +kernel
theorem dLaw_law_1560 : decode (mcc mLaw_law) 1560 = .ok (.aload_n 0, 1) := by decide +kernel
theorem dLaw_law_1561 : decode (mcc mLaw_law) 1561 = .ok (.iload_n 3, 1) := by decide +kernel
theorem dLaw_law_1562 : decode (mcc mLaw_law) 1562 = .ok (.iconst 3, 1) := by decide +kernel
theorem dLaw_law_1563 : decode (mcc mLaw_law) 1563 = .ok (.iadd, 1) := by decide +kernel
theorem dLaw_law_1564 : decode (mcc mLaw_law) 1564 = .ok (.iaload, 1) := by decide +kernel
theorem dLaw_law_1565 : decode (mcc mLaw_law) 1565 = .ok (.invokevirtual 197, 3) := by decide +kernel
theorem dLaw_law_1568 : decode (mcc mLaw_law) 1568 = .ok (.if_icmp .eq 154, 3) := by decide +kernel
theorem dLaw_law_1571 : decode (mcc mLaw_law) 1571 = .ok (.iconst 0, 1) := by decide +kernel
theorem dLaw_law_1572 : decode (mcc mLaw_law) 1572 = .ok (.ireturn, 1) := by decide +kernel
theorem dLaw_law_1573 : decode (mcc mLaw_law) 1573 = .ok (.aload_n 1, 1) := by decide +kernel
theorem dLaw_law_1574 : decode (mcc mLaw_law) 1574 = .ok (.aload_n 0, 1) := by decide +kernel
theorem dLaw_law_1575 : decode (mcc mLaw_law) 1575 = .ok (.iload_n 3, 1) := by decide +kernel
theorem dLaw_law_1576 : decode (mcc mLaw_law) 1576 = .ok (.iconst 1, 1) := by decide +kernel
theorem dLaw_law_1577 : decode (mcc mLaw_law) 1577 = .ok (.iadd, 1) := by decide +kernel
theorem dLaw_law_1578 : decode (mcc mLaw_law) 1578 = .ok (.iaload, 1) := by decide +kernel
theorem dLaw_law_1579 : decode (mcc mLaw_law) 1579 = .ok (.aload_n 0, 1) := by decide +kernel
theorem dLaw_law_1580 : decode (mcc mLaw_law) 1580 = .ok (.iload_n 3, 1) := by decide +kernel
theorem dLaw_law_1581 : decode (mcc mLaw_law) 1581 = .ok (.iconst 2, 1) := by decide +kernel
theorem dLaw_law_1582 : decode (mcc mLaw_law) 1582 = .ok (.iadd, 1) := by decide +kernel
theorem dLaw_law_1583 : decode (mcc mLaw_law) 1583 = .ok (.iaload, 1) := by decide +kernel
theorem dLaw_law_1584 : decode (mcc mLaw_law) 1584 = .ok (.aload_n 0, 1) := by decide +kernel
theorem dLaw_law_1585 : decode (mcc mLaw_law) 1585 = .ok (.iload_n 3, 1) := by decide +kernel
theorem dLaw_law_1586 : decode (mcc mLaw_law) 1586 = .ok (.iconst 3, 1) := by decide +kernel
theorem dLaw_law_1587 : decode (mcc mLaw_law) 1587 = .ok (.iadd, 1) := by decide +kernel
theorem dLaw_law_1588 : decode (mcc mLaw_law) 1588 = .ok (.iaload, 1) := by decide +kernel
theorem dLaw_law_1589 : decode (mcc mLaw_law) 1589 = .ok (.aload_n 0, 1) := by decide +kernel
theorem dLaw_law_1590 : decode (mcc mLaw_law) 1590 = .ok (.iload_n 3, 1) := by decide +kernel
theorem dLaw_law_1591 : decode (mcc mLaw_law) 1591 = .ok (.iconst 4, 1) := by decide +kernel
theorem dLaw_law_1592 : decode (mcc mLaw_law) 1592 = .ok (.iadd, 1) := by decide +kernel
theorem dLaw_law_1593 : decode (mcc mLaw_law) 1593 = .ok (.iaload, 1) := by decide +kernel
theorem dLaw_law_1594 : decode (mcc mLaw_law) 1594 = .ok (.aload_n 0, 1) := by decide +kernel
theorem dLaw_law_1595 : decode (mcc mLaw_law) 1595 = .ok (.iload_n 3, 1) := by decide +kernel
theorem dLaw_law_1596 : decode (mcc mLaw_law) 1596 = .ok (.iconst 5, 1) := by decide +kernel
theorem dLaw_law_1597 : decode (mcc mLaw_law) 1597 = .ok (.iadd, 1) := by decide +kernel
theorem dLaw_law_1598 : decode (mcc mLaw_law) 1598 = .ok (.iaload, 1) := by decide +kernel
theorem dLaw_law_1599 : decode (mcc mLaw_law) 1599 = .ok (.invokevirtual 198, 3) := by decide +kernel
theorem dLaw_law_1602 : decode (mcc mLaw_law) 1602 = .ok (.aload_n 2, 1) := by decide +kernel
theorem dLaw_law_1603 : decode (mcc mLaw_law) 1603 = .ok (.aload_n 0, 1) := by decide +kernel
theorem dLaw_law_1604 : decode (mcc mLaw_law) 1604 = .ok (.iload_n 3, 1) := by decide +kernel
theorem dLaw_law_1605 : decode (mcc mLaw_law) 1605 = .ok (.iconst 1, 1) := by decide +kernel
theorem dLaw_law_1606 : decode (mcc mLaw_law) 1606 = .ok (.iadd, 1) := by decide +kernel
theorem dLaw_law_1607 : decode (mcc mLaw_law) 1607 = .ok (.iaload, 1) := by decide +kernel
theorem dLaw_law_1608 : decode (mcc mLaw_law) 1608 = .ok (.aload_n 0, 1) := by decide +kernel
theorem dLaw_law_1609 : decode (mcc mLaw_law) 1609 = .ok (.iload_n 3, 1) := by decide +kernel
theorem dLaw_law_1610 : decode (mcc mLaw_law) 1610 = .ok (.iconst 2, 1) := by decide +kernel
theorem dLaw_law_1611 : decode (mcc mLaw_law) 1611 = .ok (.iadd, 1) := by decide +kernel
theorem dLaw_law_1612 : decode (mcc mLaw_law) 1612 = .ok (.iaload, 1) := by decide +kernel
theorem dLaw_law_1613 : decode (mcc mLaw_law) 1613 = .ok (.aload_n 0, 1) := by decide +kernel
theorem dLaw_law_1614 : decode (mcc mLaw_law) 1614 = .ok (.iload_n 3, 1) := by decide +kernel
theorem dLaw_law_1615 : decode (mcc mLaw_law) 1615 = .ok (.iconst 3, 1) := by decide +kernel
theorem dLaw_law_1616 : decode (mcc mLaw_law) 1616 = .ok (.iadd, 1) := by decide +kernel
theorem dLaw_law_1617 : decode (mcc mLaw_law) 1617 = .ok (.iaload, 1) := by decide +kernel
theorem dLaw_law_1618 : decode (mcc mLaw_law) 1618 = .ok (.aload_n 0, 1) := by decide +kernel
theorem dLaw_law_1619 : decode (mcc mLaw_law) 1619 = .ok (.iload_n 3, 1) := by decide +kernel
theorem dLaw_law_1620 : decode (mcc mLaw_law) 1620 = .ok (.iconst 4, 1) := by decide +kernel
theorem dLaw_law_1621 : decode (mcc mLaw_law) 1621 = .ok (.iadd, 1) := by decide +kernel
theorem dLaw_law_1622 : decode (mcc mLaw_law) 1622 = .ok (.iaload, 1) := by decide +kernel
theorem dLaw_law_1623 : decode (mcc mLaw_law) 1623 = .ok (.aload_n 0, 1) := by decide +kernel
theorem dLaw_law_1624 : decode (mcc mLaw_law) 1624 = .ok (.iload_n 3, 1) := by decide +kernel
theorem dLaw_law_1625 : decode (mcc mLaw_law) 1625 = .ok (.iconst 5, 1) := by decide +kernel
theorem dLaw_law_1626 : decode (mcc mLaw_law) 1626 = .ok (.iadd, 1) := by decide +kernel
theorem dLaw_law_1627 : decode (mcc mLaw_law) 1627 = .ok (.iaload, 1) := by decide +kernel
theorem dLaw_law_1628 : decode (mcc mLaw_law) 1628 = .ok (.invokevirtual 202, 3) := by decide +kernel
theorem dLaw_law_1631 : decode (mcc mLaw_law) 1631 = .ok (.if_icmp .eq 91, 3) := by decide +kernel
theorem dLaw_law_1634 : decode (mcc mLaw_law) 1634 = .ok (.iconst 0, 1) := by decide +kernel
theorem dLaw_law_1635 : decode (mcc mLaw_law) 1635 = .ok (.ireturn, 1) := by decide +kernel
theorem dLaw_law_1636 : decode (mcc mLaw_law) 1636 = .ok (.aload_n 1, 1) := by decide +kernel
theorem dLaw_law_1637 : decode (mcc mLaw_law) 1637 = .ok (.aload_n 0, 1) := by decide +kernel
theorem dLaw_law_1638 : decode (mcc mLaw_law) 1638 = .ok (.iload_n 3, 1) := by decide +kernel
theorem dLaw_law_1639 : decode (mcc mLaw_law) 1639 = .ok (.iconst 1, 1) := by decide +kernel
theorem dLaw_law_1640 : decode (mcc mLaw_law) 1640 = .ok (.iadd, 1) := by decide +kernel
theorem dLaw_law_1641 : decode (mcc mLaw_law) 1641 = .ok (.iaload, 1) := by decide +kernel
theorem dLaw_law_1642 : decode (mcc mLaw_law) 1642 = .ok (.aload_n 0, 1) := by decide +kernel
theorem dLaw_law_1643 : decode (mcc mLaw_law) 1643 = .ok (.iload_n 3, 1) := by decide +kernel
theorem dLaw_law_1644 : decode (mcc mLaw_law) 1644 = .ok (.iconst 2, 1) := by decide +kernel
theorem dLaw_law_1645 : decode (mcc mLaw_law) 1645 = .ok (.iadd, 1) := by decide +kernel
theorem dLaw_law_1646 : decode (mcc mLaw_law) 1646 = .ok (.iaload, 1) := by decide +kernel
theorem dLaw_law_1647 : decode (mcc mLaw_law) 1647 = .ok (.aload_n 0, 1) := by decide +kernel
theorem dLaw_law_1648 : decode (mcc mLaw_law) 1648 = .ok (.iload_n 3, 1) := by decide +kernel
theorem dLaw_law_1649 : decode (mcc mLaw_law) 1649 = .ok (.iconst 3, 1) := by decide +kernel
theorem dLaw_law_1650 : decode (mcc mLaw_law) 1650 = .ok (.iadd, 1) := by decide +kernel
theorem dLaw_law_1651 : decode (mcc mLaw_law) 1651 = .ok (.iaload, 1) := by decide +kernel
theorem dLaw_law_1652 : decode (mcc mLaw_law) 1652 = .ok (.aload_n 0, 1) := by decide +kernel
theorem dLaw_law_1653 : decode (mcc mLaw_law) 1653 = .ok (.iload_n 3, 1) := by decide +kernel
theorem dLaw_law_1654 : decode (mcc mLaw_law) 1654 = .ok (.iconst 4, 1) := by decide +kernel
theorem dLaw_law_1655 : decode (mcc mLaw_law) 1655 = .ok (.iadd, 1) := by decide +kernel
theorem dLaw_law_1656 : decode (mcc mLaw_law) 1656 = .ok (.iaload, 1) := by decide +kernel
theorem dLaw_law_1657 : decode (mcc mLaw_law) 1657 = .ok (.invokevirtual 203, 3) := by decide +kernel
theorem dLaw_law_1660 : decode (mcc mLaw_law) 1660 = .ok (.aload_n 2, 1) := by decide +kernel
theorem dLaw_law_1661 : decode (mcc mLaw_law) 1661 = .ok (.aload_n 0, 1) := by decide +kernel
theorem dLaw_law_1662 : decode (mcc mLaw_law) 1662 = .ok (.iload_n 3, 1) := by decide +kernel
theorem dLaw_law_1663 : decode (mcc mLaw_law) 1663 = .ok (.iconst 1, 1) := by decide +kernel
theorem dLaw_law_1664 : decode (mcc mLaw_law) 1664 = .ok (.iadd, 1) := by decide +kernel
theorem dLaw_law_1665 : decode (mcc mLaw_law) 1665 = .ok (.iaload, 1) := by decide +kernel
theorem dLaw_law_1666 : decode (mcc mLaw_law) 1666 = .ok (.aload_n 0, 1) := by decide +kernel
theorem dLaw_law_1667 : decode (mcc mLaw_law) 1667 = .ok (.iload_n 3, 1) := by decide +kernel
theorem dLaw_law_1668 : decode (mcc mLaw_law) 1668 = .ok (.iconst 2, 1) := by decide +kernel
theorem dLaw_law_1669 : decode (mcc mLaw_law) 1669 = .ok (.iadd, 1) := by decide +kernel
theorem dLaw_law_1670 : decode (mcc mLaw_law) 1670 = .ok (.iaload, 1) := by decide +kernel
theorem dLaw_law_1671 : decode (mcc mLaw_law) 1671 = .ok (.aload_n 0, 1) := by decide +kernel
theorem dLaw_law_1672 : decode (mcc mLaw_law) 1672 = .ok (.iload_n 3, 1) := by decide +kernel
theorem dLaw_law_1673 : decode (mcc mLaw_law) 1673 = .ok (.iconst 3, 1) := by decide +kernel
theorem dLaw_law_1674 : decode (mcc mLaw_law) 1674 = .ok (.iadd, 1) := by decide +kernel
theorem dLaw_law_1675 : decode (mcc mLaw_law) 1675 = .ok (.iaload, 1) := by decide +kernel
theorem dLaw_law_1676 : decode (mcc mLaw_law) 1676 = .ok (.aload_n 0, 1) := by decide +kernel
theorem dLaw_law_1677 : decode (mcc mLaw_law) 1677 = .ok (.iload_n 3, 1) := by decide +kernel
theorem dLaw_law_1678 : decode (mcc mLaw_law) 1678 = .ok (.iconst 4, 1) := by decide +kernel
theorem dLaw_law_1679 : decode (mcc mLaw_law) 1679 = .ok (.iadd, 1) := by decide +kernel
theorem dLaw_law_1680 : decode (mcc mLaw_law) 1680 = .ok (.iaload, 1) := by decide +kernel
theorem dLaw_law_1681 : decode (mcc mLaw_law) 1681 = .ok (.invokevirtual 206, 3) := by decide +kernel
theorem dLaw_law_1684 : decode (mcc mLaw_law) 1684 = .ok (.if_icmp .eq 38, 3) := by decide +kernel
theorem dLaw_law_1687 : decode (mcc mLaw_law) 1687 = .ok (.iconst 0, 1) := by decide +kernel
theorem dLaw_law_1688 : decode (mcc mLaw_law) 1688 = .ok (.ireturn, 1) := by decide +kernel
theorem dLaw_law_1689 : decode (mcc mLaw_law) 1689 = .ok (.aload_n 1, 1) := by decide +kernel
theorem dLaw_law_1690 : decode (mcc mLaw_law) 1690 = .ok (.aload_n 0, 1) := by decide +kernel
theorem dLaw_law_1691 : decode (mcc mLaw_law) 1691 = .ok (.iload_n 3, 1) := by decide +kernel
theorem dLaw_law_1692 : decode (mcc mLaw_law) 1692 = .ok (.iconst 1, 1) := by decide +kernel
theorem dLaw_law_1693 : decode (mcc mLaw_law) 1693 = .ok (.iadd, 1) := by decide +kernel
theorem dLaw_law_1694 : decode (mcc mLaw_law) 1694 = .ok (.iaload, 1) := by decide +kernel
theorem dLaw_law_1695 : decode (mcc mLaw_law) 1695 = .ok (.aload_n 0, 1) := by decide +kernel
theorem dLaw_law_1696 : decode (mcc mLaw_law) 1696 = .ok (.iload_n 3, 1) := by decide +kernel
theorem dLaw_law_1697 : decode (mcc mLaw_law) 1697 = .ok (.iconst 2, 1) := by decide +kernel
theorem dLaw_law_1698 : decode (mcc mLaw_law) 1698 = .ok (.iadd, 1) := by decide +kernel
theorem dLaw_law_1699 : decode (mcc mLaw_law) 1699 = .ok (.iaload, 1) := by decide +kernel
theorem dLaw_law_1700 : decode (mcc mLaw_law) 1700 = .ok (.invokevirtual 207, 3) := by decide +kernel
theorem dLaw_law_1703 : decode (mcc mLaw_law) 1703 = .ok (.aload_n 2, 1) := by decide +kernel
theorem dLaw_law_1704 : decode (mcc mLaw_law) 1704 = .ok (.aload_n 0, 1) := by decide +kernel
theorem dLaw_law_1705 : decode (mcc mLaw_law) 1705 = .ok (.iload_n 3, 1) := by decide +kernel
theorem dLaw_law_1706 : decode (mcc mLaw_law) 1706 = .ok (.iconst 1, 1) := by decide +kernel
theorem dLaw_law_1707 : decode (mcc mLaw_law) 1707 = .ok (.iadd, 1) := by decide +kernel
theorem dLaw_law_1708 : decode (mcc mLaw_law) 1708 = .ok (.iaload, 1) := by decide +kernel
theorem dLaw_law_1709 : decode (mcc mLaw_law) 1709 = .ok (.aload_n 0, 1) := by decide +kernel
theorem dLaw_law_1710 : decode (mcc mLaw_law) 1710 = .ok (.iload_n 3, 1) := by decide +kernel
theorem dLaw_law_1711 : decode (mcc mLaw_law) 1711 = .ok (.iconst 2, 1) := by decide +kernel
theorem dLaw_law_1712 : decode (mcc mLaw_law) 1712 = .ok (.iadd, 1) := by decide +kernel
theorem dLaw_law_1713 : decode (mcc mLaw_law) 1713 = .ok (.iaload, 1) := by decide +kernel
theorem dLaw_law_1714 : decode (mcc mLaw_law) 1714 = .ok (.invokevirtual 210, 3) := by decide +kernel
theorem dLaw_law_1717 : decode (mcc mLaw_law) 1717 = .ok (.if_icmp .eq 5, 3) := by decide +kernel
theorem dLaw_law_1720 : decode (mcc mLaw_law) 1720 = .ok (.iconst 0, 1) := by decide +kernel
theorem dLaw_law_1721 : decode (mcc mLaw_law) 1721 = .ok (.ireturn, 1) := by decide +kernel
theorem dLaw_law_1722 : decode (mcc mLaw_law) 1722 = .ok (.iinc 3 7, 3) := by decide +kernel
theorem dLaw_law_1725 : decode (mcc mLaw_law) 1725 = .ok (.goto (-1707), 3) := by decide +kernel
theorem dLaw_law_1728 : decode (mcc mLaw_law) 1728 = .ok (.iconst 1, 1) := by decide +kernel
theorem dLaw_law_1729 : decode (mcc mLaw_law) 1729 = .ok (.ireturn, 1) := by decide +kernel
