theorem dL_asked_256 : decode cL_asked 256 = .ok (.invokevirtual 95, 3) := by decide +kernel
theorem dL_asked_259 : decode cL_asked 259 = .ok (.ireturn, 1) := by decide +kernel
theorem dL_asked_260 : decode cL_asked 260 = .ok (.aload_n 0, 1) := by decide +kernel
theorem dL_asked_261 : decode cL_asked 261 = .ok (.invokevirtual 98, 3) := by decide +kernel
theorem dL_asked_264 : decode cL_asked 264 = .ok (.ireturn, 1) := by decide +kernel
theorem dL_asked_265 : decode cL_asked 265 = .ok (.aload_n 0, 1) := by decide +kernel
theorem dL_asked_266 : decode cL_asked 266 = .ok (.aload_n 2, 1) := by decide +kernel
theorem dL_asked_267 : decode cL_asked 267 = .ok (.iconst 0, 1) := by decide +kernel
theorem dL_asked_268 : decode cL_asked 268 = .ok (.iaload, 1) := by decide +kernel
theorem dL_asked_269 : decode cL_asked 269 = .ok (.invokevirtual 101, 3) := by decide +kernel
theorem dL_asked_272 : decode cL_asked 272 = .ok (.ireturn, 1) := by decide +kernel
theorem dL_asked_273 : decode cL_asked 273 = .ok (.aload_n 0, 1) := by decide +kernel
theorem dL_asked_274 : decode cL_asked 274 = .ok (.aload_n 2, 1) := by decide +kernel
theorem dL_asked_275 : decode cL_asked 275 = .ok (.iconst 0, 1) := by decide +kernel
theorem dL_asked_276 : decode cL_asked 276 = .ok (.iaload, 1) := by decide +kernel
theorem dL_asked_277 : decode cL_asked 277 = .ok (.aload_n 2, 1) := by decide +kernel
theorem dL_asked_278 : decode cL_asked 278 = .ok (.iconst 1, 1) := by decide +kernel
theorem dL_asked_279 : decode cL_asked 279 = .ok (.iaload, 1) := by decide +kernel
theorem dL_asked_280 : decode cL_asked 280 = .ok (.aload_n 2, 1) := by decide +kernel
theorem dL_asked_281 : decode cL_asked 281 = .ok (.iconst 2, 1) := by decide +kernel
theorem dL_asked_282 : decode cL_asked 282 = .ok (.iaload, 1) := by decide +kernel
theorem dL_asked_283 : decode cL_asked 283 = .ok (.invokevirtual 104, 3) := by decide +kernel
theorem dL_asked_286 : decode cL_asked 286 = .ok (.ireturn, 1) := by decide +kernel
theorem dL_asked_287 : decode cL_asked 287 = .ok (.aload_n 0, 1) := by decide +kernel
theorem dL_asked_288 : decode cL_asked 288 = .ok (.aload_n 2, 1) := by decide +kernel
theorem dL_asked_289 : decode cL_asked 289 = .ok (.iconst 0, 1) := by decide +kernel
theorem dL_asked_290 : decode cL_asked 290 = .ok (.iaload, 1) := by decide +kernel
theorem dL_asked_291 : decode cL_asked 291 = .ok (.aload_n 2, 1) := by decide +kernel
theorem dL_asked_292 : decode cL_asked 292 = .ok (.iconst 1, 1) := by decide +kernel
theorem dL_asked_293 : decode cL_asked 293 = .ok (.iaload, 1) := by decide +kernel
theorem dL_asked_294 : decode cL_asked 294 = .ok (.aload_n 2, 1) := by decide +kernel
theorem dL_asked_295 : decode cL_asked 295 = .ok (.iconst 2, 1) := by decide +kernel
theorem dL_asked_296 : decode cL_asked 296 = .ok (.iaload, 1) := by decide +kernel
theorem dL_asked_297 : decode cL_asked 297 = .ok (.invokevirtual 107, 3) := by decide +kernel
theorem dL_asked_300 : decode cL_asked 300 = .ok (.ifCond .eq 7, 3) := by decide +kernel
theorem dL_asked_303 : decode cL_asked 303 = .ok (.iconst 1, 1) := by decide +kernel
theorem dL_asked_304 : decode cL_asked 304 = .ok (.goto 4, 3) := by decide +kernel
theorem dL_asked_307 : decode cL_asked 307 = .ok (.iconst 0, 1) := by decide +kernel
theorem dL_asked_308 : decode cL_asked 308 = .ok (.ireturn, 1) := by decide +kernel
theorem dL_asked_309 : decode cL_asked 309 = .ok (.aload_n 0, 1) := by decide +kernel
theorem dL_asked_310 : decode cL_asked 310 = .ok (.aload_n 2, 1) := by decide +kernel
theorem dL_asked_311 : decode cL_asked 311 = .ok (.iconst 0, 1) := by decide +kernel
theorem dL_asked_312 : decode cL_asked 312 = .ok (.iaload, 1) := by decide +kernel
theorem dL_asked_313 : decode cL_asked 313 = .ok (.aload_n 2, 1) := by decide +kernel
theorem dL_asked_314 : decode cL_asked 314 = .ok (.iconst 1, 1) := by decide +kernel
theorem dL_asked_315 : decode cL_asked 315 = .ok (.iaload, 1) := by decide +kernel
theorem dL_asked_316 : decode cL_asked 316 = .ok (.invokevirtual 111, 3) := by decide +kernel
theorem dL_asked_319 : decode cL_asked 319 = .ok (.ireturn, 1) := by decide +kernel
theorem dL_asked_320 : decode cL_asked 320 = .ok (.aload_n 0, 1) := by decide +kernel
theorem dL_asked_321 : decode cL_asked 321 = .ok (.aload_n 2, 1) := by decide +kernel
theorem dL_asked_322 : decode cL_asked 322 = .ok (.iconst 0, 1) := by decide +kernel
theorem dL_asked_323 : decode cL_asked 323 = .ok (.iaload, 1) := by decide +kernel
theorem dL_asked_324 : decode cL_asked 324 = .ok (.aload_n 2, 1) := by decide +kernel
theorem dL_asked_325 : decode cL_asked 325 = .ok (.iconst 1, 1) := by decide +kernel
theorem dL_asked_326 : decode cL_asked 326 = .ok (.iaload, 1) := by decide +kernel
theorem dL_asked_327 : decode cL_asked 327 = .ok (.invokevirtual 114, 3) := by decide +kernel
theorem dL_asked_330 : decode cL_asked 330 = .ok (.ireturn, 1) := by decide +kernel
theorem dL_asked_331 : decode cL_asked 331 = .ok (.aload_n 0, 1) := by decide +kernel
theorem dL_asked_332 : decode cL_asked 332 = .ok (.invokevirtual 117, 3) := by decide +kernel
theorem dL_asked_335 : decode cL_asked 335 = .ok (.ireturn, 1) := by decide +kernel
theorem dL_asked_336 : decode cL_asked 336 = .ok (.aload_n 0, 1) := by decide +kernel
theorem dL_asked_337 : decode cL_asked 337 = .ok (.aload_n 2, 1) := by decide +kernel
theorem dL_asked_338 : decode cL_asked 338 = .ok (.iconst 0, 1) := by decide +kernel
theorem dL_asked_339 : decode cL_asked 339 = .ok (.iaload, 1) := by decide +kernel
theorem dL_asked_340 : decode cL_asked 340 = .ok (.invokevirtual 120, 3) := by decide +kernel
theorem dL_asked_343 : decode cL_asked 343 = .ok (.ireturn, 1) := by decide +kernel
theorem dL_asked_344 : decode cL_asked 344 = .ok (.aload_n 0, 1) := by decide +kernel
theorem dL_asked_345 : decode cL_asked 345 = .ok (.aload_n 2, 1) := by decide +kernel
theorem dL_asked_346 : decode cL_asked 346 = .ok (.iconst 0, 1) := by decide +kernel
theorem dL_asked_347 : decode cL_asked 347 = .ok (.iaload, 1) := by decide +kernel
theorem dL_asked_348 : decode cL_asked 348 = .ok (.invokevirtual 123, 3) := by decide +kernel
theorem dL_asked_351 : decode cL_asked 351 = .ok (.ireturn, 1) := by decide +kernel
theorem dL_asked_352 : decode cL_asked 352 = .ok (.aload_n 0, 1) := by decide +kernel
theorem dL_asked_353 : decode cL_asked 353 = .ok (.aload_n 2, 1) := by decide +kernel
theorem dL_asked_354 : decode cL_asked 354 = .ok (.iconst 0, 1) := by decide +kernel
theorem dL_asked_355 : decode cL_asked 355 = .ok (.iaload, 1) := by decide +kernel
theorem dL_asked_356 : decode cL_asked 356 = .ok (.invokevirtual 126, 3) := by decide +kernel
theorem dL_asked_359 : decode cL_asked 359 = .ok (.ireturn, 1) := by decide +kernel
theorem dL_asked_360 : decode cL_asked 360 = .ok (.aload_n 0, 1) := by decide +kernel
theorem dL_asked_361 : decode cL_asked 361 = .ok (.invokevirtual 129, 3) := by decide +kernel
theorem dL_asked_364 : decode cL_asked 364 = .ok (.ireturn, 1) := by decide +kernel
theorem dL_asked_365 : decode cL_asked 365 = .ok (.aload_n 0, 1) := by decide +kernel
theorem dL_asked_366 : decode cL_asked 366 = .ok (.aload_n 2, 1) := by decide +kernel
theorem dL_asked_367 : decode cL_asked 367 = .ok (.iconst 0, 1) := by decide +kernel
theorem dL_asked_368 : decode cL_asked 368 = .ok (.iaload, 1) := by decide +kernel
theorem dL_asked_369 : decode cL_asked 369 = .ok (.invokevirtual 132, 3) := by decide +kernel
theorem dL_asked_372 : decode cL_asked 372 = .ok (.ireturn, 1) := by decide +kernel
theorem dL_asked_373 : decode cL_asked 373 = .ok (.aload_n 0, 1) := by decide +kernel
theorem dL_asked_374 : decode cL_asked 374 = .ok (.aload_n 2, 1) := by decide +kernel
theorem dL_asked_375 : decode cL_asked 375 = .ok (.iconst 0, 1) := by decide +kernel
theorem dL_asked_376 : decode cL_asked 376 = .ok (.iaload, 1) := by decide +kernel
theorem dL_asked_377 : decode cL_asked 377 = .ok (.aload_n 2, 1) := by decide +kernel
theorem dL_asked_378 : decode cL_asked 378 = .ok (.iconst 1, 1) := by decide +kernel
theorem dL_asked_379 : decode cL_asked 379 = .ok (.iaload, 1) := by decide +kernel
theorem dL_asked_380 : decode cL_asked 380 = .ok (.invokevirtual 135, 3) := by decide +kernel
theorem dL_asked_383 : decode cL_asked 383 = .ok (.ireturn, 1) := by decide +kernel
theorem dL_asked_384 : decode cL_asked 384 = .ok (.aload_n 0, 1) := by decide +kernel
theorem dL_asked_385 : decode cL_asked 385 = .ok (.aload_n 2, 1) := by decide +kernel
theorem dL_asked_386 : decode cL_asked 386 = .ok (.iconst 0, 1) := by decide +kernel
theorem dL_asked_387 : decode cL_asked 387 = .ok (.iaload, 1) := by decide +kernel
theorem dL_asked_388 : decode cL_asked 388 = .ok (.invokevirtual 138, 3) := by decide +kernel
theorem dL_asked_391 : decode cL_asked 391 = .ok (.ireturn, 1) := by decide +kernel
theorem dL_asked_392 : decode cL_asked 392 = .ok (.aload_n 0, 1) := by decide +kernel
theorem dL_asked_393 : decode cL_asked 393 = .ok (.aload_n 2, 1) := by decide +kernel
theorem dL_asked_394 : decode cL_asked 394 = .ok (.iconst 0, 1) := by decide +kernel
theorem dL_asked_395 : decode cL_asked 395 = .ok (.iaload, 1) := by decide +kernel
theorem dL_asked_396 : decode cL_asked 396 = .ok (.invokevirtual 141, 3) := by decide +kernel
theorem dL_asked_399 : decode cL_asked 399 = .ok (.ireturn, 1) := by decide +kernel
set_option maxRecDepth 20000 in
theorem ggL_mean_X5_stepShare : GoodIn wsL_mean wsX5_stepShare := goodIn_ca (goodIn_ca (goodIn_ca (goodIn_ca (goodIn_r _ [9, 10, 11, 12, 13, 14, 15, 8, 16, 17, 18, 19, 20, 21, 22, 23, 24, 25, 26, 27, 28, 29, 30, 31, 32, 33, 34, 35, 36, 37, 38, 39, 40, 41, 42, 43, 44, 45, 46, 47, 48, 49, 50, 51, 52, 53, 54, 55, 56, 57, 58, 59, 60, 61, 62, 63, 64, 65, 66, 67, 68, 69, 70, 71, 72, 73, 74, 75, 76, 77, 78, 79, 80, 81, 82, 83, 84, 85, 86, 87, 92, 93, 94, 95, 96, 97, 98, 99, 100, 101, 102, 103, 104, 105, 106, 107, 108, 109, 110, 111, 112, 113, 114, 115, 116, 117, 118, 119, 120, 121, 122, 123, 124, 125, 126] (by decide +kernel) (by decide +kernel)) (goodIn_sub (fun _ h => List.mem_cons_of_mem _ (List.mem_append_left _ (List.mem_append_left _ (List.mem_append_left _ (List.mem_append_right _ h))))) (by decide +kernel))) (goodIn_sub (fun _ h => List.mem_cons_of_mem _ (List.mem_append_left _ (List.mem_append_left _ (List.mem_append_right _ h)))) (by decide +kernel))) (goodIn_sub (fun _ h => List.mem_cons_of_mem _ (List.mem_append_left _ (List.mem_append_right _ h))) (by decide +kernel))) (goodIn_sub (fun _ h => List.mem_cons_of_mem _ (List.mem_append_right _ h)) (by decide +kernel))
set_option maxRecDepth 20000 in
theorem gL_mean_X5_stepShare : GoodIn wsL_mean (wsV RL 144 RX5 yX5_stepShare wsX5_stepShare) := goodIn_app (goodIn_of _ (by decide +kernel)) ggL_mean_X5_stepShare
set_option maxRecDepth 20000 in
theorem ggL_mean_X5_meanPhase : GoodIn wsL_mean wsX5_meanPhase := goodIn_ca (goodIn_ca (goodIn_r _ [91, 10, 11, 12, 26, 92, 93, 94, 95, 96, 97, 98, 99, 100, 101, 102, 103, 104, 105, 106, 107, 108, 109, 110, 111, 112, 113, 114, 115, 116, 117, 124, 125, 126] (by decide +kernel) (by decide +kernel)) (goodIn_sub (fun _ h => List.mem_cons_of_mem _ (List.mem_append_left _ (List.mem_append_left _ (List.mem_append_left _ (List.mem_append_right _ h))))) (by decide +kernel))) (goodIn_sub (fun _ h => List.mem_cons_of_mem _ (List.mem_append_left _ (List.mem_append_right _ h))) (by decide +kernel))
set_option maxRecDepth 20000 in
theorem gL_mean_X5_meanPhase : GoodIn wsL_mean (wsV RL 148 RX5 yX5_meanPhase wsX5_meanPhase) := goodIn_app (goodIn_of _ (by decide +kernel)) ggL_mean_X5_meanPhase
theorem dL_mean_0 : decode cL_mean 0 = .ok (.iload_n 1, 1) := by decide +kernel
theorem dL_mean_1 : decode cL_mean 1 = .ok (.ifCond .eq 11, 3) := by decide +kernel
theorem dL_mean_4 : decode cL_mean 4 = .ok (.aload_n 0, 1) := by decide +kernel
theorem dL_mean_5 : decode cL_mean 5 = .ok (.invokevirtual 144, 3) := by decide +kernel
theorem dL_mean_8 : decode cL_mean 8 = .ok (.f2d, 1) := by decide +kernel
theorem dL_mean_9 : decode cL_mean 9 = .ok (.goto 7, 3) := by decide +kernel
theorem dL_mean_12 : decode cL_mean 12 = .ok (.aload_n 0, 1) := by decide +kernel
theorem dL_mean_13 : decode cL_mean 13 = .ok (.invokevirtual 148, 3) := by decide +kernel
theorem dL_mean_16 : decode cL_mean 16 = .ok (.dstore_n 2, 1) := by decide +kernel
theorem dL_mean_17 : decode cL_mean 17 = .ok (.iconst 0, 1) := by decide +kernel
theorem dL_mean_18 : decode cL_mean 18 = .ok (.ireturn, 1) := by decide +kernel
theorem dL_mean_19 : decode cL_mean 19 = .ok (.astore_n 2, 1) := by decide +kernel
theorem dL_mean_20 : decode cL_mean 20 = .ok (.ldc 82, 2) := by decide +kernel
theorem dL_mean_22 : decode cL_mean 22 = .ok (.ireturn, 1) := by decide +kernel
theorem dL_mean_23 : decode cL_mean 23 = .ok (.astore_n 2, 1) := by decide +kernel
theorem dL_mean_24 : decode cL_mean 24 = .ok (.ldc 85, 2) := by decide +kernel
theorem dL_mean_26 : decode cL_mean 26 = .ok (.ireturn, 1) := by decide +kernel
theorem dL_law_0 : decode cL_law 0 = .ok (.new 8, 3) := by decide +kernel
theorem dL_law_3 : decode cL_law 3 = .ok (.dup, 1) := by decide +kernel
theorem dL_law_4 : decode cL_law 4 = .ok (.invokespecial 152, 3) := by decide +kernel
theorem dL_law_7 : decode cL_law 7 = .ok (.astore_n 1, 1) := by decide +kernel
theorem dL_law_8 : decode cL_law 8 = .ok (.aload_n 1, 1) := by decide +kernel
theorem dL_law_9 : decode cL_law 9 = .ok (.iconst 1, 1) := by decide +kernel
theorem dL_law_10 : decode cL_law 10 = .ok (.invokestatic 153, 3) := by decide +kernel
theorem dL_law_13 : decode cL_law 13 = .ok (.ldc 85, 2) := by decide +kernel
theorem dL_law_15 : decode cL_law 15 = .ok (.if_icmp .ne 1379, 3) := by decide +kernel
theorem dL_law_18 : decode cL_law 18 = .ok (.aload_n 1, 1) := by decide +kernel
theorem dL_law_19 : decode cL_law 19 = .ok (.iconst 0, 1) := by decide +kernel
theorem dL_law_20 : decode cL_law 20 = .ok (.invokestatic 153, 3) := by decide +kernel
theorem dL_law_23 : decode cL_law 23 = .ok (.ldc 85, 2) := by decide +kernel
theorem dL_law_25 : decode cL_law 25 = .ok (.if_icmp .ne 1369, 3) := by decide +kernel
theorem dL_law_28 : decode cL_law 28 = .ok (.aload_n 1, 1) := by decide +kernel
theorem dL_law_29 : decode cL_law 29 = .ok (.invokevirtual 157, 3) := by decide +kernel
theorem dL_law_32 : decode cL_law 32 = .ok (.ifCond .ne 1362, 3) := by decide +kernel
theorem dL_law_35 : decode cL_law 35 = .ok (.aload_n 1, 1) := by decide +kernel
theorem dL_law_36 : decode cL_law 36 = .ok (.invokevirtual 160, 3) := by decide +kernel
theorem dL_law_39 : decode cL_law 39 = .ok (.ifCond .ne 1355, 3) := by decide +kernel
theorem dL_law_42 : decode cL_law 42 = .ok (.aload_n 1, 1) := by decide +kernel
theorem dL_law_43 : decode cL_law 43 = .ok (.invokevirtual 163, 3) := by decide +kernel
theorem dL_law_46 : decode cL_law 46 = .ok (.ldc2_w 167, 3) := by decide +kernel
theorem dL_law_49 : decode cL_law 49 = .ok (.lcmp, 1) := by decide +kernel
theorem dL_law_50 : decode cL_law 50 = .ok (.ifCond .ne 1344, 3) := by decide +kernel
theorem dL_law_53 : decode cL_law 53 = .ok (.aload_n 1, 1) := by decide +kernel
theorem dL_law_54 : decode cL_law 54 = .ok (.invokevirtual 169, 3) := by decide +kernel
theorem dL_law_57 : decode cL_law 57 = .ok (.lconst 0, 1) := by decide +kernel
theorem dL_law_58 : decode cL_law 58 = .ok (.lcmp, 1) := by decide +kernel
theorem dL_law_59 : decode cL_law 59 = .ok (.ifCond .ne 1335, 3) := by decide +kernel
theorem dL_law_62 : decode cL_law 62 = .ok (.aload_n 1, 1) := by decide +kernel
theorem dL_law_63 : decode cL_law 63 = .ok (.invokevirtual 172, 3) := by decide +kernel
theorem dL_law_66 : decode cL_law 66 = .ok (.ifCond .eq 1328, 3) := by decide +kernel
theorem dL_law_69 : decode cL_law 69 = .ok (.aload_n 1, 1) := by decide +kernel
theorem dL_law_70 : decode cL_law 70 = .ok (.bipush 66, 2) := by decide +kernel
theorem dL_law_72 : decode cL_law 72 = .ok (.iconst 4, 1) := by decide +kernel
theorem dL_law_73 : decode cL_law 73 = .ok (.newarray .int, 2) := by decide +kernel
theorem dL_law_75 : decode cL_law 75 = .ok (.dup, 1) := by decide +kernel
theorem dL_law_76 : decode cL_law 76 = .ok (.iconst 0, 1) := by decide +kernel
theorem dL_law_77 : decode cL_law 77 = .ok (.bipush 20, 2) := by decide +kernel
theorem dL_law_79 : decode cL_law 79 = .ok (.iastore, 1) := by decide +kernel
theorem dL_law_80 : decode cL_law 80 = .ok (.dup, 1) := by decide +kernel
theorem dL_law_81 : decode cL_law 81 = .ok (.iconst 1, 1) := by decide +kernel
theorem dL_law_82 : decode cL_law 82 = .ok (.iconst 5, 1) := by decide +kernel
theorem dL_law_83 : decode cL_law 83 = .ok (.iastore, 1) := by decide +kernel
theorem dL_law_84 : decode cL_law 84 = .ok (.dup, 1) := by decide +kernel
theorem dL_law_85 : decode cL_law 85 = .ok (.iconst 2, 1) := by decide +kernel
theorem dL_law_86 : decode cL_law 86 = .ok (.iconst 0, 1) := by decide +kernel
theorem dL_law_87 : decode cL_law 87 = .ok (.iastore, 1) := by decide +kernel
theorem dL_law_88 : decode cL_law 88 = .ok (.dup, 1) := by decide +kernel
theorem dL_law_89 : decode cL_law 89 = .ok (.iconst 3, 1) := by decide +kernel
theorem dL_law_90 : decode cL_law 90 = .ok (.iconst 0, 1) := by decide +kernel
theorem dL_law_91 : decode cL_law 91 = .ok (.iastore, 1) := by decide +kernel
theorem dL_law_92 : decode cL_law 92 = .ok (.invokestatic 176, 3) := by decide +kernel
theorem dL_law_95 : decode cL_law 95 = .ok (.ldc 73, 2) := by decide +kernel
theorem dL_law_97 : decode cL_law 97 = .ok (.if_icmp .ne 1297, 3) := by decide +kernel
theorem dL_law_100 : decode cL_law 100 = .ok (.aload_n 1, 1) := by decide +kernel
theorem dL_law_101 : decode cL_law 101 = .ok (.bipush 66, 2) := by decide +kernel
theorem dL_law_103 : decode cL_law 103 = .ok (.iconst 4, 1) := by decide +kernel
theorem dL_law_104 : decode cL_law 104 = .ok (.newarray .int, 2) := by decide +kernel
theorem dL_law_106 : decode cL_law 106 = .ok (.dup, 1) := by decide +kernel
theorem dL_law_107 : decode cL_law 107 = .ok (.iconst 0, 1) := by decide +kernel
theorem dL_law_108 : decode cL_law 108 = .ok (.bipush 16, 2) := by decide +kernel
theorem dL_law_110 : decode cL_law 110 = .ok (.iastore, 1) := by decide +kernel
theorem dL_law_111 : decode cL_law 111 = .ok (.dup, 1) := by decide +kernel
theorem dL_law_112 : decode cL_law 112 = .ok (.iconst 1, 1) := by decide +kernel
theorem dL_law_113 : decode cL_law 113 = .ok (.iconst 1, 1) := by decide +kernel
theorem dL_law_114 : decode cL_law 114 = .ok (.iastore, 1) := by decide +kernel
theorem dL_law_115 : decode cL_law 115 = .ok (.dup, 1) := by decide +kernel
theorem dL_law_116 : decode cL_law 116 = .ok (.iconst 2, 1) := by decide +kernel
theorem dL_law_117 : decode cL_law 117 = .ok (.iconst 0, 1) := by decide +kernel
theorem dL_law_118 : decode cL_law 118 = .ok (.iastore, 1) := by decide +kernel
theorem dL_law_119 : decode cL_law 119 = .ok (.dup, 1) := by decide +kernel
theorem dL_law_120 : decode cL_law 120 = .ok (.iconst 3, 1) := by decide +kernel
theorem dL_law_121 : decode cL_law 121 = .ok (.iconst 0, 1) := by decide +kernel
theorem dL_law_122 : decode cL_law 122 = .ok (.iastore, 1) := by decide +kernel
theorem dL_law_123 : decode cL_law 123 = .ok (.invokestatic 176, 3) := by decide +kernel
theorem dL_law_126 : decode cL_law 126 = .ok (.ldc 76, 2) := by decide +kernel
theorem dL_law_128 : decode cL_law 128 = .ok (.if_icmp .ne 1266, 3) := by decide +kernel
theorem dL_law_131 : decode cL_law 131 = .ok (.aload_n 1, 1) := by decide +kernel
theorem dL_law_132 : decode cL_law 132 = .ok (.bipush 66, 2) := by decide +kernel
theorem dL_law_134 : decode cL_law 134 = .ok (.iconst 4, 1) := by decide +kernel
theorem dL_law_135 : decode cL_law 135 = .ok (.newarray .int, 2) := by decide +kernel
theorem dL_law_137 : decode cL_law 137 = .ok (.dup, 1) := by decide +kernel
theorem dL_law_138 : decode cL_law 138 = .ok (.iconst 0, 1) := by decide +kernel
theorem dL_law_139 : decode cL_law 139 = .ok (.bipush 16, 2) := by decide +kernel
theorem dL_law_141 : decode cL_law 141 = .ok (.iastore, 1) := by decide +kernel
theorem dL_law_142 : decode cL_law 142 = .ok (.dup, 1) := by decide +kernel
theorem dL_law_143 : decode cL_law 143 = .ok (.iconst 1, 1) := by decide +kernel
theorem dL_law_144 : decode cL_law 144 = .ok (.iconst 5, 1) := by decide +kernel
theorem dL_law_145 : decode cL_law 145 = .ok (.iastore, 1) := by decide +kernel
theorem dL_law_146 : decode cL_law 146 = .ok (.dup, 1) := by decide +kernel
theorem dL_law_147 : decode cL_law 147 = .ok (.iconst 2, 1) := by decide +kernel
theorem dL_law_148 : decode cL_law 148 = .ok (.iconst 0, 1) := by decide +kernel
theorem dL_law_149 : decode cL_law 149 = .ok (.iastore, 1) := by decide +kernel
theorem dL_law_150 : decode cL_law 150 = .ok (.dup, 1) := by decide +kernel
theorem dL_law_151 : decode cL_law 151 = .ok (.iconst 3, 1) := by decide +kernel
theorem dL_law_152 : decode cL_law 152 = .ok (.iconst 0, 1) := by decide +kernel
theorem dL_law_153 : decode cL_law 153 = .ok (.iastore, 1) := by decide +kernel
theorem dL_law_154 : decode cL_law 154 = .ok (.invokestatic 176, 3) := by decide +kernel
theorem dL_law_157 : decode cL_law 157 = .ok (.ldc 82, 2) := by decide +kernel
theorem dL_law_159 : decode cL_law 159 = .ok (.if_icmp .ne 1235, 3) := by decide +kernel
theorem dL_law_162 : decode cL_law 162 = .ok (.aload_n 1, 1) := by decide +kernel
theorem dL_law_163 : decode cL_law 163 = .ok (.bipush 66, 2) := by decide +kernel
theorem dL_law_165 : decode cL_law 165 = .ok (.iconst 4, 1) := by decide +kernel
theorem dL_law_166 : decode cL_law 166 = .ok (.newarray .int, 2) := by decide +kernel
theorem dL_law_168 : decode cL_law 168 = .ok (.dup, 1) := by decide +kernel
theorem dL_law_169 : decode cL_law 169 = .ok (.iconst 0, 1) := by decide +kernel
theorem dL_law_170 : decode cL_law 170 = .ok (.iconst 0, 1) := by decide +kernel
theorem dL_law_171 : decode cL_law 171 = .ok (.iastore, 1) := by decide +kernel
theorem dL_law_172 : decode cL_law 172 = .ok (.dup, 1) := by decide +kernel
theorem dL_law_173 : decode cL_law 173 = .ok (.iconst 1, 1) := by decide +kernel
theorem dL_law_174 : decode cL_law 174 = .ok (.iconst 5, 1) := by decide +kernel
theorem dL_law_175 : decode cL_law 175 = .ok (.iastore, 1) := by decide +kernel
theorem dL_law_176 : decode cL_law 176 = .ok (.dup, 1) := by decide +kernel
theorem dL_law_177 : decode cL_law 177 = .ok (.iconst 2, 1) := by decide +kernel
theorem dL_law_178 : decode cL_law 178 = .ok (.iconst 5, 1) := by decide +kernel
theorem dL_law_179 : decode cL_law 179 = .ok (.iastore, 1) := by decide +kernel
theorem dL_law_180 : decode cL_law 180 = .ok (.dup, 1) := by decide +kernel
theorem dL_law_181 : decode cL_law 181 = .ok (.iconst 3, 1) := by decide +kernel
theorem dL_law_182 : decode cL_law 182 = .ok (.iconst 0, 1) := by decide +kernel
theorem dL_law_183 : decode cL_law 183 = .ok (.iastore, 1) := by decide +kernel
theorem dL_law_184 : decode cL_law 184 = .ok (.invokestatic 176, 3) := by decide +kernel
theorem dL_law_187 : decode cL_law 187 = .ok (.ldc 76, 2) := by decide +kernel
theorem dL_law_189 : decode cL_law 189 = .ok (.if_icmp .ne 1205, 3) := by decide +kernel
theorem dL_law_192 : decode cL_law 192 = .ok (.aload_n 1, 1) := by decide +kernel
theorem dL_law_193 : decode cL_law 193 = .ok (.bipush 66, 2) := by decide +kernel
theorem dL_law_195 : decode cL_law 195 = .ok (.iconst 4, 1) := by decide +kernel
theorem dL_law_196 : decode cL_law 196 = .ok (.newarray .int, 2) := by decide +kernel
theorem dL_law_198 : decode cL_law 198 = .ok (.dup, 1) := by decide +kernel
theorem dL_law_199 : decode cL_law 199 = .ok (.iconst 0, 1) := by decide +kernel
theorem dL_law_200 : decode cL_law 200 = .ok (.iconst 0, 1) := by decide +kernel
theorem dL_law_201 : decode cL_law 201 = .ok (.iastore, 1) := by decide +kernel
theorem dL_law_202 : decode cL_law 202 = .ok (.dup, 1) := by decide +kernel
theorem dL_law_203 : decode cL_law 203 = .ok (.iconst 1, 1) := by decide +kernel
theorem dL_law_204 : decode cL_law 204 = .ok (.iconst 5, 1) := by decide +kernel
theorem dL_law_205 : decode cL_law 205 = .ok (.iastore, 1) := by decide +kernel
theorem dL_law_206 : decode cL_law 206 = .ok (.dup, 1) := by decide +kernel
theorem dL_law_207 : decode cL_law 207 = .ok (.iconst 2, 1) := by decide +kernel
theorem dL_law_208 : decode cL_law 208 = .ok (.iconst 0, 1) := by decide +kernel
theorem dL_law_209 : decode cL_law 209 = .ok (.iastore, 1) := by decide +kernel
theorem dL_law_210 : decode cL_law 210 = .ok (.dup, 1) := by decide +kernel
theorem dL_law_211 : decode cL_law 211 = .ok (.iconst 3, 1) := by decide +kernel
theorem dL_law_212 : decode cL_law 212 = .ok (.iconst 5, 1) := by decide +kernel
theorem dL_law_213 : decode cL_law 213 = .ok (.iastore, 1) := by decide +kernel
theorem dL_law_214 : decode cL_law 214 = .ok (.invokestatic 176, 3) := by decide +kernel
theorem dL_law_217 : decode cL_law 217 = .ok (.ldc 76, 2) := by decide +kernel
theorem dL_law_219 : decode cL_law 219 = .ok (.if_icmp .ne 1175, 3) := by decide +kernel
theorem dL_law_222 : decode cL_law 222 = .ok (.aload_n 1, 1) := by decide +kernel
theorem dL_law_223 : decode cL_law 223 = .ok (.bipush 66, 2) := by decide +kernel
theorem dL_law_225 : decode cL_law 225 = .ok (.iconst 4, 1) := by decide +kernel
theorem dL_law_226 : decode cL_law 226 = .ok (.newarray .int, 2) := by decide +kernel
theorem dL_law_228 : decode cL_law 228 = .ok (.dup, 1) := by decide +kernel
theorem dL_law_229 : decode cL_law 229 = .ok (.iconst 0, 1) := by decide +kernel
theorem dL_law_230 : decode cL_law 230 = .ok (.iconst 0, 1) := by decide +kernel
theorem dL_law_231 : decode cL_law 231 = .ok (.iastore, 1) := by decide +kernel
theorem dL_law_232 : decode cL_law 232 = .ok (.dup, 1) := by decide +kernel
theorem dL_law_233 : decode cL_law 233 = .ok (.iconst 1, 1) := by decide +kernel
theorem dL_law_234 : decode cL_law 234 = .ok (.bipush 100, 2) := by decide +kernel
theorem dL_law_236 : decode cL_law 236 = .ok (.iastore, 1) := by decide +kernel
theorem dL_law_237 : decode cL_law 237 = .ok (.dup, 1) := by decide +kernel
theorem dL_law_238 : decode cL_law 238 = .ok (.iconst 2, 1) := by decide +kernel
theorem dL_law_239 : decode cL_law 239 = .ok (.iconst 0, 1) := by decide +kernel
theorem dL_law_240 : decode cL_law 240 = .ok (.iastore, 1) := by decide +kernel
theorem dL_law_241 : decode cL_law 241 = .ok (.dup, 1) := by decide +kernel
theorem dL_law_242 : decode cL_law 242 = .ok (.iconst 3, 1) := by decide +kernel
theorem dL_law_243 : decode cL_law 243 = .ok (.iconst 0, 1) := by decide +kernel
theorem dL_law_244 : decode cL_law 244 = .ok (.iastore, 1) := by decide +kernel
theorem dL_law_245 : decode cL_law 245 = .ok (.invokestatic 176, 3) := by decide +kernel
theorem dL_law_248 : decode cL_law 248 = .ok (.ldc 76, 2) := by decide +kernel
theorem dL_law_250 : decode cL_law 250 = .ok (.if_icmp .ne 1144, 3) := by decide +kernel
theorem dL_law_253 : decode cL_law 253 = .ok (.aload_n 1, 1) := by decide +kernel
theorem dL_law_254 : decode cL_law 254 = .ok (.bipush 83, 2) := by decide +kernel
theorem dL_law_256 : decode cL_law 256 = .ok (.iconst 2, 1) := by decide +kernel
theorem dL_law_257 : decode cL_law 257 = .ok (.newarray .int, 2) := by decide +kernel
theorem dL_law_259 : decode cL_law 259 = .ok (.dup, 1) := by decide +kernel
theorem dL_law_260 : decode cL_law 260 = .ok (.iconst 0, 1) := by decide +kernel
theorem dL_law_261 : decode cL_law 261 = .ok (.iconst (-1), 1) := by decide +kernel
theorem dL_law_262 : decode cL_law 262 = .ok (.iastore, 1) := by decide +kernel
theorem dL_law_263 : decode cL_law 263 = .ok (.dup, 1) := by decide +kernel
theorem dL_law_264 : decode cL_law 264 = .ok (.iconst 1, 1) := by decide +kernel
theorem dL_law_265 : decode cL_law 265 = .ok (.iconst 0, 1) := by decide +kernel
theorem dL_law_266 : decode cL_law 266 = .ok (.iastore, 1) := by decide +kernel
theorem dL_law_267 : decode cL_law 267 = .ok (.invokestatic 176, 3) := by decide +kernel
theorem dL_law_270 : decode cL_law 270 = .ok (.ldc 73, 2) := by decide +kernel
theorem dL_law_272 : decode cL_law 272 = .ok (.if_icmp .ne 1122, 3) := by decide +kernel
theorem dL_law_275 : decode cL_law 275 = .ok (.aload_n 1, 1) := by decide +kernel
theorem dL_law_276 : decode cL_law 276 = .ok (.bipush 83, 2) := by decide +kernel
theorem dL_law_278 : decode cL_law 278 = .ok (.iconst 2, 1) := by decide +kernel
theorem dL_law_279 : decode cL_law 279 = .ok (.newarray .int, 2) := by decide +kernel
theorem dL_law_281 : decode cL_law 281 = .ok (.dup, 1) := by decide +kernel
theorem dL_law_282 : decode cL_law 282 = .ok (.iconst 0, 1) := by decide +kernel
theorem dL_law_283 : decode cL_law 283 = .ok (.iconst 0, 1) := by decide +kernel
theorem dL_law_284 : decode cL_law 284 = .ok (.iastore, 1) := by decide +kernel
theorem dL_law_285 : decode cL_law 285 = .ok (.dup, 1) := by decide +kernel
theorem dL_law_286 : decode cL_law 286 = .ok (.iconst 1, 1) := by decide +kernel
theorem dL_law_287 : decode cL_law 287 = .ok (.sipush 1001, 3) := by decide +kernel
theorem dL_law_290 : decode cL_law 290 = .ok (.iastore, 1) := by decide +kernel
theorem dL_law_291 : decode cL_law 291 = .ok (.invokestatic 176, 3) := by decide +kernel
theorem dL_law_294 : decode cL_law 294 = .ok (.ldc 76, 2) := by decide +kernel
theorem dL_law_296 : decode cL_law 296 = .ok (.if_icmp .ne 1098, 3) := by decide +kernel
theorem dL_law_299 : decode cL_law 299 = .ok (.aload_n 1, 1) := by decide +kernel
theorem dL_law_300 : decode cL_law 300 = .ok (.bipush 83, 2) := by decide +kernel
theorem dL_law_302 : decode cL_law 302 = .ok (.iconst 2, 1) := by decide +kernel
theorem dL_law_303 : decode cL_law 303 = .ok (.newarray .int, 2) := by decide +kernel
theorem dL_law_305 : decode cL_law 305 = .ok (.dup, 1) := by decide +kernel
theorem dL_law_306 : decode cL_law 306 = .ok (.iconst 0, 1) := by decide +kernel
