theorem dX0_init_0 : decode cX0_init 0 = .ok (.aload_n 0, 1) := by decide +kernel
theorem dX0_init_1 : decode cX0_init 1 = .ok (.invokespecial 3, 3) := by decide +kernel
theorem dX0_init_4 : decode cX0_init 4 = .ok (.aload_n 0, 1) := by decide +kernel
theorem dX0_init_5 : decode cX0_init 5 = .ok (.bipush 30, 2) := by decide +kernel
theorem dX0_init_7 : decode cX0_init 7 = .ok (.newarray .int, 2) := by decide +kernel
theorem dX0_init_9 : decode cX0_init 9 = .ok (.putfield 11, 3) := by decide +kernel
theorem dX0_init_12 : decode cX0_init 12 = .ok (.return_, 1) := by decide +kernel
set_option maxRecDepth 20000 in
theorem ggX0_play_X0_own : GoodIn wsX0_play wsX0_own := goodIn_r _ [10, 1, 11, 12, 13, 14, 15, 16, 17, 9, 18, 5, 4, 19, 2, 3, 6, 7, 8, 20, 21, 22, 23, 24, 25, 26, 27, 28, 29] (by decide +kernel) (by decide +kernel)
set_option maxRecDepth 20000 in
theorem gX0_play_X0_own : GoodIn wsX0_play (wsV RX0 32 RX0 yX0_own wsX0_own) := goodIn_app (goodIn_of _ (by decide +kernel)) ggX0_play_X0_own
theorem dX0_play_0 : decode cX0_play 0 = .ok (.aload_n 0, 1) := by decide +kernel
theorem dX0_play_1 : decode cX0_play 1 = .ok (.iload_n 1, 1) := by decide +kernel
theorem dX0_play_2 : decode cX0_play 2 = .ok (.putfield 15, 3) := by decide +kernel
theorem dX0_play_5 : decode cX0_play 5 = .ok (.aload_n 0, 1) := by decide +kernel
theorem dX0_play_6 : decode cX0_play 6 = .ok (.iload_n 2, 1) := by decide +kernel
theorem dX0_play_7 : decode cX0_play 7 = .ok (.putfield 19, 3) := by decide +kernel
theorem dX0_play_10 : decode cX0_play 10 = .ok (.aload_n 0, 1) := by decide +kernel
theorem dX0_play_11 : decode cX0_play 11 = .ok (.iload_n 3, 1) := by decide +kernel
theorem dX0_play_12 : decode cX0_play 12 = .ok (.putfield 22, 3) := by decide +kernel
theorem dX0_play_15 : decode cX0_play 15 = .ok (.aload_n 0, 1) := by decide +kernel
theorem dX0_play_16 : decode cX0_play 16 = .ok (.iconst 0, 1) := by decide +kernel
theorem dX0_play_17 : decode cX0_play 17 = .ok (.putfield 25, 3) := by decide +kernel
theorem dX0_play_20 : decode cX0_play 20 = .ok (.aload_n 0, 1) := by decide +kernel
theorem dX0_play_21 : decode cX0_play 21 = .ok (.iconst 0, 1) := by decide +kernel
theorem dX0_play_22 : decode cX0_play 22 = .ok (.putfield 28, 3) := by decide +kernel
theorem dX0_play_25 : decode cX0_play 25 = .ok (.aload_n 0, 1) := by decide +kernel
theorem dX0_play_26 : decode cX0_play 26 = .ok (.iload 4, 2) := by decide +kernel
theorem dX0_play_28 : decode cX0_play 28 = .ok (.iload 5, 2) := by decide +kernel
theorem dX0_play_30 : decode cX0_play 30 = .ok (.iconst 0, 1) := by decide +kernel
theorem dX0_play_31 : decode cX0_play 31 = .ok (.invokevirtual 32, 3) := by decide +kernel
theorem dX0_play_34 : decode cX0_play 34 = .ok (.istore 6, 2) := by decide +kernel
theorem dX0_play_36 : decode cX0_play 36 = .ok (.aload_n 0, 1) := by decide +kernel
theorem dX0_play_37 : decode cX0_play 37 = .ok (.getfield 28, 3) := by decide +kernel
theorem dX0_play_40 : decode cX0_play 40 = .ok (.ifCond .eq 8, 3) := by decide +kernel
theorem dX0_play_43 : decode cX0_play 43 = .ok (.bipush (-15), 2) := by decide +kernel
theorem dX0_play_45 : decode cX0_play 45 = .ok (.goto 5, 3) := by decide +kernel
theorem dX0_play_48 : decode cX0_play 48 = .ok (.iload 6, 2) := by decide +kernel
theorem dX0_play_50 : decode cX0_play 50 = .ok (.ireturn, 1) := by decide +kernel
set_option maxRecDepth 20000 in
theorem ggX0_own_X5_isIn : GoodIn wsX0_own wsX5_isIn := goodIn_r _ [5] (by decide +kernel) (by decide +kernel)
set_option maxRecDepth 20000 in
theorem gX0_own_X5_isIn_n39 : GoodIn wsX0_own (wsX5_isIn) := ggX0_own_X5_isIn
set_option maxRecDepth 20000 in
theorem ggX0_own_X0_body : GoodIn wsX0_own wsX0_body := goodIn_r _ [10, 11, 12, 13, 14, 15, 16, 17, 18, 9, 19, 20, 21, 22, 6, 7, 8, 0, 1, 2, 3, 4, 5, 23, 24, 25, 26, 27, 28] (by decide +kernel) (by decide +kernel)
set_option maxRecDepth 20000 in
theorem gX0_own_X0_body : GoodIn wsX0_own (wsV RX0 43 RX0 yX0_body wsX0_body) := goodIn_app (goodIn_of _ (by decide +kernel)) ggX0_own_X0_body
theorem dX0_own_0 : decode cX0_own 0 = .ok (.aload_n 0, 1) := by decide +kernel
theorem dX0_own_1 : decode cX0_own 1 = .ok (.getfield 15, 3) := by decide +kernel
theorem dX0_own_4 : decode cX0_own 4 = .ok (.iconst 4, 1) := by decide +kernel
theorem dX0_own_5 : decode cX0_own 5 = .ok (.imul, 1) := by decide +kernel
theorem dX0_own_6 : decode cX0_own 6 = .ok (.iload_n 1, 1) := by decide +kernel
theorem dX0_own_7 : decode cX0_own 7 = .ok (.iadd, 1) := by decide +kernel
theorem dX0_own_8 : decode cX0_own 8 = .ok (.istore 4, 2) := by decide +kernel
theorem dX0_own_10 : decode cX0_own 10 = .ok (.iload 4, 2) := by decide +kernel
theorem dX0_own_12 : decode cX0_own 12 = .ok (.iconst 0, 1) := by decide +kernel
theorem dX0_own_13 : decode cX0_own 13 = .ok (.getstatic 36, 3) := by decide +kernel
theorem dX0_own_16 : decode cX0_own 16 = .ok (.arraylength, 1) := by decide +kernel
theorem dX0_own_17 : decode cX0_own 17 = .ok (.iconst 1, 1) := by decide +kernel
theorem dX0_own_18 : decode cX0_own 18 = .ok (.isub, 1) := by decide +kernel
theorem dX0_own_19 : decode cX0_own 19 = .ok (.invokestatic 39, 3) := by decide +kernel
theorem dX0_own_22 : decode cX0_own 22 = .ok (.ifCond .eq 20, 3) := by decide +kernel
theorem dX0_own_25 : decode cX0_own 25 = .ok (.aload_n 0, 1) := by decide +kernel
theorem dX0_own_26 : decode cX0_own 26 = .ok (.getstatic 36, 3) := by decide +kernel
theorem dX0_own_29 : decode cX0_own 29 = .ok (.iload 4, 2) := by decide +kernel
theorem dX0_own_31 : decode cX0_own 31 = .ok (.iaload, 1) := by decide +kernel
theorem dX0_own_32 : decode cX0_own 32 = .ok (.iload_n 2, 1) := by decide +kernel
theorem dX0_own_33 : decode cX0_own 33 = .ok (.iload_n 3, 1) := by decide +kernel
theorem dX0_own_34 : decode cX0_own 34 = .ok (.iconst 1, 1) := by decide +kernel
theorem dX0_own_35 : decode cX0_own 35 = .ok (.iadd, 1) := by decide +kernel
theorem dX0_own_36 : decode cX0_own 36 = .ok (.invokevirtual 43, 3) := by decide +kernel
theorem dX0_own_39 : decode cX0_own 39 = .ok (.goto 4, 3) := by decide +kernel
theorem dX0_own_42 : decode cX0_own 42 = .ok (.iconst 0, 1) := by decide +kernel
theorem dX0_own_43 : decode cX0_own 43 = .ok (.ireturn, 1) := by decide +kernel
set_option maxRecDepth 20000 in
theorem ggX0_body_X0_own : GoodIn wsX0_body wsX0_own := goodIn_r _ [17, 18, 19, 20, 21, 22, 14, 15, 16, 9, 0, 1, 2, 3, 4, 5, 6, 7, 8, 10, 11, 12, 13, 23, 24, 25, 26, 27, 28] (by decide +kernel) (by decide +kernel)
set_option maxRecDepth 20000 in
theorem gX0_body_X0_own : GoodIn wsX0_body (wsV RX0 32 RX0 yX0_own wsX0_own) := goodIn_app (goodIn_of _ (by decide +kernel)) ggX0_body_X0_own
set_option maxRecDepth 20000 in
theorem ggX0_body_X0_parted : GoodIn wsX0_body wsX0_parted := goodIn_r _ [13, 1, 23, 24, 25, 26, 27, 28] (by decide +kernel) (by decide +kernel)
set_option maxRecDepth 20000 in
theorem gX0_body_X0_parted : GoodIn wsX0_body (wsV RX0 46 RX0 yX0_parted wsX0_parted) := goodIn_app (goodIn_of _ (by decide +kernel)) ggX0_body_X0_parted
set_option maxRecDepth 20000 in
theorem ggX0_body_X0_body : GoodIn wsX0_body wsX0_body := goodIn_r _ [0, 1, 2, 3, 4, 5, 6, 7, 8, 9, 10, 11, 12, 13, 14, 15, 16, 17, 18, 19, 20, 21, 22, 23, 24, 25, 26, 27, 28] (by decide +kernel) (by decide +kernel)
set_option maxRecDepth 20000 in
theorem gX0_body_X0_body : GoodIn wsX0_body (wsV RX0 43 RX0 yX0_body wsX0_body) := goodIn_app (goodIn_of _ (by decide +kernel)) ggX0_body_X0_body
theorem dX0_body_0 : decode cX0_body 0 = .ok (.aload_n 0, 1) := by decide +kernel
theorem dX0_body_1 : decode cX0_body 1 = .ok (.getfield 28, 3) := by decide +kernel
theorem dX0_body_4 : decode cX0_body 4 = .ok (.ifCond .ne 9, 3) := by decide +kernel
theorem dX0_body_7 : decode cX0_body 7 = .ok (.iload_n 3, 1) := by decide +kernel
theorem dX0_body_8 : decode cX0_body 8 = .ok (.bipush 40, 2) := by decide +kernel
theorem dX0_body_10 : decode cX0_body 10 = .ok (.if_icmp .le 5, 3) := by decide +kernel
theorem dX0_body_13 : decode cX0_body 13 = .ok (.iconst 0, 1) := by decide +kernel
theorem dX0_body_14 : decode cX0_body 14 = .ok (.ireturn, 1) := by decide +kernel
theorem dX0_body_15 : decode cX0_body 15 = .ok (.aload_n 0, 1) := by decide +kernel
theorem dX0_body_16 : decode cX0_body 16 = .ok (.getfield 25, 3) := by decide +kernel
theorem dX0_body_19 : decode cX0_body 19 = .ok (.bipush 30, 2) := by decide +kernel
theorem dX0_body_21 : decode cX0_body 21 = .ok (.if_icmp .ge 23, 3) := by decide +kernel
theorem dX0_body_24 : decode cX0_body 24 = .ok (.aload_n 0, 1) := by decide +kernel
theorem dX0_body_25 : decode cX0_body 25 = .ok (.getfield 11, 3) := by decide +kernel
theorem dX0_body_28 : decode cX0_body 28 = .ok (.aload_n 0, 1) := by decide +kernel
theorem dX0_body_29 : decode cX0_body 29 = .ok (.getfield 25, 3) := by decide +kernel
theorem dX0_body_32 : decode cX0_body 32 = .ok (.iload_n 1, 1) := by decide +kernel
theorem dX0_body_33 : decode cX0_body 33 = .ok (.iastore, 1) := by decide +kernel
theorem dX0_body_34 : decode cX0_body 34 = .ok (.aload_n 0, 1) := by decide +kernel
theorem dX0_body_35 : decode cX0_body 35 = .ok (.dup, 1) := by decide +kernel
theorem dX0_body_36 : decode cX0_body 36 = .ok (.getfield 25, 3) := by decide +kernel
theorem dX0_body_39 : decode cX0_body 39 = .ok (.iconst 1, 1) := by decide +kernel
theorem dX0_body_40 : decode cX0_body 40 = .ok (.iadd, 1) := by decide +kernel
theorem dX0_body_41 : decode cX0_body 41 = .ok (.putfield 25, 3) := by decide +kernel
theorem dX0_body_44 : decode cX0_body 44 = .ok (.iload_n 1, 1) := by decide +kernel
theorem dX0_body_45 : decode cX0_body 45 = .ok (.tableswitch 425 10 61 #[223, 233, 246, 261, 425, 425, 425, 425, 425, 425, 272, 425, 425, 425, 425, 425, 425, 425, 425, 425, 285, 298, 425, 425, 425, 425, 425, 425, 425, 425, 320, 334, 425, 425, 425, 425, 425, 425, 425, 425, 356, 374, 425, 425, 425, 425, 425, 425, 425, 425, 390, 403], 223) := by decide +kernel
theorem dX0_body_268 : decode cX0_body 268 = .ok (.iload_n 2, 1) := by decide +kernel
theorem dX0_body_269 : decode cX0_body 269 = .ok (.bipush 6, 2) := by decide +kernel
theorem dX0_body_271 : decode cX0_body 271 = .ok (.imul, 1) := by decide +kernel
theorem dX0_body_272 : decode cX0_body 272 = .ok (.aload_n 0, 1) := by decide +kernel
theorem dX0_body_273 : decode cX0_body 273 = .ok (.getfield 19, 3) := by decide +kernel
theorem dX0_body_276 : decode cX0_body 276 = .ok (.iadd, 1) := by decide +kernel
theorem dX0_body_277 : decode cX0_body 277 = .ok (.ireturn, 1) := by decide +kernel
theorem dX0_body_278 : decode cX0_body 278 = .ok (.aload_n 0, 1) := by decide +kernel
theorem dX0_body_279 : decode cX0_body 279 = .ok (.iconst 0, 1) := by decide +kernel
theorem dX0_body_280 : decode cX0_body 280 = .ok (.iload_n 2, 1) := by decide +kernel
theorem dX0_body_281 : decode cX0_body 281 = .ok (.iload_n 3, 1) := by decide +kernel
theorem dX0_body_282 : decode cX0_body 282 = .ok (.invokevirtual 32, 3) := by decide +kernel
theorem dX0_body_285 : decode cX0_body 285 = .ok (.aload_n 0, 1) := by decide +kernel
theorem dX0_body_286 : decode cX0_body 286 = .ok (.getfield 22, 3) := by decide +kernel
theorem dX0_body_289 : decode cX0_body 289 = .ok (.isub, 1) := by decide +kernel
theorem dX0_body_290 : decode cX0_body 290 = .ok (.ireturn, 1) := by decide +kernel
theorem dX0_body_291 : decode cX0_body 291 = .ok (.aload_n 0, 1) := by decide +kernel
theorem dX0_body_292 : decode cX0_body 292 = .ok (.iload_n 2, 1) := by decide +kernel
theorem dX0_body_293 : decode cX0_body 293 = .ok (.aload_n 0, 1) := by decide +kernel
theorem dX0_body_294 : decode cX0_body 294 = .ok (.getfield 22, 3) := by decide +kernel
theorem dX0_body_297 : decode cX0_body 297 = .ok (.aload_n 0, 1) := by decide +kernel
theorem dX0_body_298 : decode cX0_body 298 = .ok (.getfield 19, 3) := by decide +kernel
theorem dX0_body_301 : decode cX0_body 301 = .ok (.isub, 1) := by decide +kernel
theorem dX0_body_302 : decode cX0_body 302 = .ok (.invokevirtual 46, 3) := by decide +kernel
theorem dX0_body_305 : decode cX0_body 305 = .ok (.ireturn, 1) := by decide +kernel
theorem dX0_body_306 : decode cX0_body 306 = .ok (.aload_n 0, 1) := by decide +kernel
theorem dX0_body_307 : decode cX0_body 307 = .ok (.iconst 1, 1) := by decide +kernel
theorem dX0_body_308 : decode cX0_body 308 = .ok (.iload_n 2, 1) := by decide +kernel
theorem dX0_body_309 : decode cX0_body 309 = .ok (.iload_n 3, 1) := by decide +kernel
theorem dX0_body_310 : decode cX0_body 310 = .ok (.invokevirtual 32, 3) := by decide +kernel
theorem dX0_body_313 : decode cX0_body 313 = .ok (.bipush 100, 2) := by decide +kernel
theorem dX0_body_315 : decode cX0_body 315 = .ok (.ixor, 1) := by decide +kernel
theorem dX0_body_316 : decode cX0_body 316 = .ok (.ireturn, 1) := by decide +kernel
theorem dX0_body_317 : decode cX0_body 317 = .ok (.aload_n 0, 1) := by decide +kernel
theorem dX0_body_318 : decode cX0_body 318 = .ok (.bipush 11, 2) := by decide +kernel
theorem dX0_body_320 : decode cX0_body 320 = .ok (.iload_n 2, 1) := by decide +kernel
theorem dX0_body_321 : decode cX0_body 321 = .ok (.iload_n 3, 1) := by decide +kernel
theorem dX0_body_322 : decode cX0_body 322 = .ok (.iconst 1, 1) := by decide +kernel
theorem dX0_body_323 : decode cX0_body 323 = .ok (.iadd, 1) := by decide +kernel
theorem dX0_body_324 : decode cX0_body 324 = .ok (.invokevirtual 43, 3) := by decide +kernel
theorem dX0_body_327 : decode cX0_body 327 = .ok (.iconst 2, 1) := by decide +kernel
theorem dX0_body_328 : decode cX0_body 328 = .ok (.imul, 1) := by decide +kernel
theorem dX0_body_329 : decode cX0_body 329 = .ok (.ireturn, 1) := by decide +kernel
theorem dX0_body_330 : decode cX0_body 330 = .ok (.iconst 0, 1) := by decide +kernel
theorem dX0_body_331 : decode cX0_body 331 = .ok (.aload_n 0, 1) := by decide +kernel
theorem dX0_body_332 : decode cX0_body 332 = .ok (.bipush 10, 2) := by decide +kernel
theorem dX0_body_334 : decode cX0_body 334 = .ok (.iload_n 2, 1) := by decide +kernel
theorem dX0_body_335 : decode cX0_body 335 = .ok (.iload_n 3, 1) := by decide +kernel
theorem dX0_body_336 : decode cX0_body 336 = .ok (.iconst 1, 1) := by decide +kernel
theorem dX0_body_337 : decode cX0_body 337 = .ok (.iadd, 1) := by decide +kernel
theorem dX0_body_338 : decode cX0_body 338 = .ok (.invokevirtual 43, 3) := by decide +kernel
theorem dX0_body_341 : decode cX0_body 341 = .ok (.isub, 1) := by decide +kernel
theorem dX0_body_342 : decode cX0_body 342 = .ok (.ireturn, 1) := by decide +kernel
theorem dX0_body_343 : decode cX0_body 343 = .ok (.aload_n 0, 1) := by decide +kernel
theorem dX0_body_344 : decode cX0_body 344 = .ok (.bipush 13, 2) := by decide +kernel
theorem dX0_body_346 : decode cX0_body 346 = .ok (.iload_n 2, 1) := by decide +kernel
theorem dX0_body_347 : decode cX0_body 347 = .ok (.iload_n 3, 1) := by decide +kernel
theorem dX0_body_348 : decode cX0_body 348 = .ok (.iconst 1, 1) := by decide +kernel
theorem dX0_body_349 : decode cX0_body 349 = .ok (.iadd, 1) := by decide +kernel
theorem dX0_body_350 : decode cX0_body 350 = .ok (.invokevirtual 43, 3) := by decide +kernel
theorem dX0_body_353 : decode cX0_body 353 = .ok (.aload_n 0, 1) := by decide +kernel
theorem dX0_body_354 : decode cX0_body 354 = .ok (.iconst 2, 1) := by decide +kernel
theorem dX0_body_355 : decode cX0_body 355 = .ok (.aload_n 0, 1) := by decide +kernel
theorem dX0_body_356 : decode cX0_body 356 = .ok (.getfield 19, 3) := by decide +kernel
theorem dX0_body_359 : decode cX0_body 359 = .ok (.iload_n 3, 1) := by decide +kernel
theorem dX0_body_360 : decode cX0_body 360 = .ok (.invokevirtual 32, 3) := by decide +kernel
theorem dX0_body_363 : decode cX0_body 363 = .ok (.iadd, 1) := by decide +kernel
theorem dX0_body_364 : decode cX0_body 364 = .ok (.ireturn, 1) := by decide +kernel
theorem dX0_body_365 : decode cX0_body 365 = .ok (.aload_n 0, 1) := by decide +kernel
theorem dX0_body_366 : decode cX0_body 366 = .ok (.bipush 30, 2) := by decide +kernel
theorem dX0_body_368 : decode cX0_body 368 = .ok (.iload_n 2, 1) := by decide +kernel
theorem dX0_body_369 : decode cX0_body 369 = .ok (.iload_n 3, 1) := by decide +kernel
theorem dX0_body_370 : decode cX0_body 370 = .ok (.iconst 1, 1) := by decide +kernel
theorem dX0_body_371 : decode cX0_body 371 = .ok (.iadd, 1) := by decide +kernel
theorem dX0_body_372 : decode cX0_body 372 = .ok (.invokevirtual 43, 3) := by decide +kernel
theorem dX0_body_375 : decode cX0_body 375 = .ok (.bipush 9, 2) := by decide +kernel
theorem dX0_body_377 : decode cX0_body 377 = .ok (.isub, 1) := by decide +kernel
theorem dX0_body_378 : decode cX0_body 378 = .ok (.ireturn, 1) := by decide +kernel
theorem dX0_body_379 : decode cX0_body 379 = .ok (.aload_n 0, 1) := by decide +kernel
theorem dX0_body_380 : decode cX0_body 380 = .ok (.bipush 11, 2) := by decide +kernel
theorem dX0_body_382 : decode cX0_body 382 = .ok (.iload_n 2, 1) := by decide +kernel
theorem dX0_body_383 : decode cX0_body 383 = .ok (.iload_n 3, 1) := by decide +kernel
theorem dX0_body_384 : decode cX0_body 384 = .ok (.iconst 1, 1) := by decide +kernel
theorem dX0_body_385 : decode cX0_body 385 = .ok (.iadd, 1) := by decide +kernel
theorem dX0_body_386 : decode cX0_body 386 = .ok (.invokevirtual 43, 3) := by decide +kernel
theorem dX0_body_389 : decode cX0_body 389 = .ok (.aload_n 0, 1) := by decide +kernel
theorem dX0_body_390 : decode cX0_body 390 = .ok (.iconst 0, 1) := by decide +kernel
theorem dX0_body_391 : decode cX0_body 391 = .ok (.aload_n 0, 1) := by decide +kernel
theorem dX0_body_392 : decode cX0_body 392 = .ok (.getfield 22, 3) := by decide +kernel
theorem dX0_body_395 : decode cX0_body 395 = .ok (.iload_n 3, 1) := by decide +kernel
theorem dX0_body_396 : decode cX0_body 396 = .ok (.invokevirtual 32, 3) := by decide +kernel
theorem dX0_body_399 : decode cX0_body 399 = .ok (.ixor, 1) := by decide +kernel
theorem dX0_body_400 : decode cX0_body 400 = .ok (.ireturn, 1) := by decide +kernel
theorem dX0_body_401 : decode cX0_body 401 = .ok (.aload_n 0, 1) := by decide +kernel
theorem dX0_body_402 : decode cX0_body 402 = .ok (.bipush 12, 2) := by decide +kernel
theorem dX0_body_404 : decode cX0_body 404 = .ok (.iload_n 2, 1) := by decide +kernel
theorem dX0_body_405 : decode cX0_body 405 = .ok (.iconst 5, 1) := by decide +kernel
theorem dX0_body_406 : decode cX0_body 406 = .ok (.imul, 1) := by decide +kernel
theorem dX0_body_407 : decode cX0_body 407 = .ok (.iload_n 3, 1) := by decide +kernel
theorem dX0_body_408 : decode cX0_body 408 = .ok (.iconst 1, 1) := by decide +kernel
theorem dX0_body_409 : decode cX0_body 409 = .ok (.iadd, 1) := by decide +kernel
theorem dX0_body_410 : decode cX0_body 410 = .ok (.invokevirtual 43, 3) := by decide +kernel
theorem dX0_body_413 : decode cX0_body 413 = .ok (.aload_n 0, 1) := by decide +kernel
theorem dX0_body_414 : decode cX0_body 414 = .ok (.getfield 19, 3) := by decide +kernel
theorem dX0_body_417 : decode cX0_body 417 = .ok (.iadd, 1) := by decide +kernel
theorem dX0_body_418 : decode cX0_body 418 = .ok (.ireturn, 1) := by decide +kernel
theorem dX0_body_419 : decode cX0_body 419 = .ok (.aload_n 0, 1) := by decide +kernel
theorem dX0_body_420 : decode cX0_body 420 = .ok (.bipush 10, 2) := by decide +kernel
theorem dX0_body_422 : decode cX0_body 422 = .ok (.iload_n 2, 1) := by decide +kernel
theorem dX0_body_423 : decode cX0_body 423 = .ok (.iload_n 3, 1) := by decide +kernel
theorem dX0_body_424 : decode cX0_body 424 = .ok (.iconst 1, 1) := by decide +kernel
theorem dX0_body_425 : decode cX0_body 425 = .ok (.iadd, 1) := by decide +kernel
theorem dX0_body_426 : decode cX0_body 426 = .ok (.invokevirtual 43, 3) := by decide +kernel
theorem dX0_body_429 : decode cX0_body 429 = .ok (.aload_n 0, 1) := by decide +kernel
theorem dX0_body_430 : decode cX0_body 430 = .ok (.getfield 22, 3) := by decide +kernel
theorem dX0_body_433 : decode cX0_body 433 = .ok (.iadd, 1) := by decide +kernel
theorem dX0_body_434 : decode cX0_body 434 = .ok (.ireturn, 1) := by decide +kernel
theorem dX0_body_435 : decode cX0_body 435 = .ok (.aload_n 0, 1) := by decide +kernel
theorem dX0_body_436 : decode cX0_body 436 = .ok (.bipush 13, 2) := by decide +kernel
theorem dX0_body_438 : decode cX0_body 438 = .ok (.iload_n 2, 1) := by decide +kernel
theorem dX0_body_439 : decode cX0_body 439 = .ok (.iload_n 3, 1) := by decide +kernel
theorem dX0_body_440 : decode cX0_body 440 = .ok (.iconst 1, 1) := by decide +kernel
theorem dX0_body_441 : decode cX0_body 441 = .ok (.iadd, 1) := by decide +kernel
theorem dX0_body_442 : decode cX0_body 442 = .ok (.invokevirtual 43, 3) := by decide +kernel
theorem dX0_body_445 : decode cX0_body 445 = .ok (.iconst 1, 1) := by decide +kernel
theorem dX0_body_446 : decode cX0_body 446 = .ok (.isub, 1) := by decide +kernel
theorem dX0_body_447 : decode cX0_body 447 = .ok (.ireturn, 1) := by decide +kernel
theorem dX0_body_448 : decode cX0_body 448 = .ok (.aload_n 0, 1) := by decide +kernel
theorem dX0_body_449 : decode cX0_body 449 = .ok (.bipush 12, 2) := by decide +kernel
theorem dX0_body_451 : decode cX0_body 451 = .ok (.iload_n 2, 1) := by decide +kernel
theorem dX0_body_452 : decode cX0_body 452 = .ok (.iload_n 3, 1) := by decide +kernel
theorem dX0_body_453 : decode cX0_body 453 = .ok (.iconst 1, 1) := by decide +kernel
theorem dX0_body_454 : decode cX0_body 454 = .ok (.iadd, 1) := by decide +kernel
theorem dX0_body_455 : decode cX0_body 455 = .ok (.invokevirtual 43, 3) := by decide +kernel
theorem dX0_body_458 : decode cX0_body 458 = .ok (.aload_n 0, 1) := by decide +kernel
theorem dX0_body_459 : decode cX0_body 459 = .ok (.iconst 0, 1) := by decide +kernel
theorem dX0_body_460 : decode cX0_body 460 = .ok (.aload_n 0, 1) := by decide +kernel
theorem dX0_body_461 : decode cX0_body 461 = .ok (.getfield 19, 3) := by decide +kernel
theorem dX0_body_464 : decode cX0_body 464 = .ok (.iload_n 3, 1) := by decide +kernel
theorem dX0_body_465 : decode cX0_body 465 = .ok (.invokevirtual 32, 3) := by decide +kernel
theorem dX0_body_468 : decode cX0_body 468 = .ok (.imul, 1) := by decide +kernel
theorem dX0_body_469 : decode cX0_body 469 = .ok (.ireturn, 1) := by decide +kernel
theorem dX0_body_470 : decode cX0_body 470 = .ok (.iconst 0, 1) := by decide +kernel
theorem dX0_body_471 : decode cX0_body 471 = .ok (.ireturn, 1) := by decide +kernel
theorem dX0_parted_0 : decode cX0_parted 0 = .ok (.iload_n 2, 1) := by decide +kernel
theorem dX0_parted_1 : decode cX0_parted 1 = .ok (.ifCond .ne 10, 3) := by decide +kernel
theorem dX0_parted_4 : decode cX0_parted 4 = .ok (.aload_n 0, 1) := by decide +kernel
theorem dX0_parted_5 : decode cX0_parted 5 = .ok (.iconst 1, 1) := by decide +kernel
theorem dX0_parted_6 : decode cX0_parted 6 = .ok (.putfield 28, 3) := by decide +kernel
theorem dX0_parted_9 : decode cX0_parted 9 = .ok (.iconst 0, 1) := by decide +kernel
theorem dX0_parted_10 : decode cX0_parted 10 = .ok (.ireturn, 1) := by decide +kernel
theorem dX0_parted_11 : decode cX0_parted 11 = .ok (.iload_n 1, 1) := by decide +kernel
theorem dX0_parted_12 : decode cX0_parted 12 = .ok (.iload_n 2, 1) := by decide +kernel
theorem dX0_parted_13 : decode cX0_parted 13 = .ok (.idiv, 1) := by decide +kernel
theorem dX0_parted_14 : decode cX0_parted 14 = .ok (.ireturn, 1) := by decide +kernel
theorem dX1_init_0 : decode cX1_init 0 = .ok (.aload_n 0, 1) := by decide +kernel
theorem dX1_init_1 : decode cX1_init 1 = .ok (.invokespecial 3, 3) := by decide +kernel
theorem dX1_init_4 : decode cX1_init 4 = .ok (.aload_n 0, 1) := by decide +kernel
theorem dX1_init_5 : decode cX1_init 5 = .ok (.bipush 40, 2) := by decide +kernel
theorem dX1_init_7 : decode cX1_init 7 = .ok (.newarray .long, 2) := by decide +kernel
theorem dX1_init_9 : decode cX1_init 9 = .ok (.putfield 9, 3) := by decide +kernel
theorem dX1_init_12 : decode cX1_init 12 = .ok (.aload_n 0, 1) := by decide +kernel
theorem dX1_init_13 : decode cX1_init 13 = .ok (.iconst (-1), 1) := by decide +kernel
theorem dX1_init_14 : decode cX1_init 14 = .ok (.putfield 15, 3) := by decide +kernel
theorem dX1_init_17 : decode cX1_init 17 = .ok (.return_, 1) := by decide +kernel
theorem dX1_become_0 : decode cX1_become 0 = .ok (.aload_n 0, 1) := by decide +kernel
theorem dX1_become_1 : decode cX1_become 1 = .ok (.iload_n 1, 1) := by decide +kernel
theorem dX1_become_2 : decode cX1_become 2 = .ok (.putfield 15, 3) := by decide +kernel
theorem dX1_become_5 : decode cX1_become 5 = .ok (.aload_n 0, 1) := by decide +kernel
theorem dX1_become_6 : decode cX1_become 6 = .ok (.iconst 0, 1) := by decide +kernel
theorem dX1_become_7 : decode cX1_become 7 = .ok (.bipush 40, 2) := by decide +kernel
theorem dX1_become_9 : decode cX1_become 9 = .ok (.iload_n 2, 1) := by decide +kernel
theorem dX1_become_10 : decode cX1_become 10 = .ok (.invokestatic 19, 3) := by decide +kernel
theorem dX1_become_13 : decode cX1_become 13 = .ok (.invokestatic 25, 3) := by decide +kernel
theorem dX1_become_16 : decode cX1_become 16 = .ok (.putfield 28, 3) := by decide +kernel
theorem dX1_become_19 : decode cX1_become 19 = .ok (.iconst 0, 1) := by decide +kernel
theorem dX1_become_20 : decode cX1_become 20 = .ok (.istore_n 3, 1) := by decide +kernel
theorem dX1_become_21 : decode cX1_become 21 = .ok (.iload_n 3, 1) := by decide +kernel
theorem dX1_become_22 : decode cX1_become 22 = .ok (.bipush 40, 2) := by decide +kernel
theorem dX1_become_24 : decode cX1_become 24 = .ok (.if_icmp .ge 16, 3) := by decide +kernel
theorem dX1_become_27 : decode cX1_become 27 = .ok (.aload_n 0, 1) := by decide +kernel
theorem dX1_become_28 : decode cX1_become 28 = .ok (.getfield 9, 3) := by decide +kernel
theorem dX1_become_31 : decode cX1_become 31 = .ok (.iload_n 3, 1) := by decide +kernel
theorem dX1_become_32 : decode cX1_become 32 = .ok (.lconst 0, 1) := by decide +kernel
theorem dX1_become_33 : decode cX1_become 33 = .ok (.lastore, 1) := by decide +kernel
theorem dX1_become_34 : decode cX1_become 34 = .ok (.iinc 3 1, 3) := by decide +kernel
theorem dX1_become_37 : decode cX1_become 37 = .ok (.goto (-16), 3) := by decide +kernel
theorem dX1_become_40 : decode cX1_become 40 = .ok (.return_, 1) := by decide +kernel
theorem dX1_narrowed_0 : decode cX1_narrowed 0 = .ok (.aload_n 0, 1) := by decide +kernel
theorem dX1_narrowed_1 : decode cX1_narrowed 1 = .ok (.getfield 15, 3) := by decide +kernel
theorem dX1_narrowed_4 : decode cX1_narrowed 4 = .ok (.lookupswitch 36 #[(0, 28), (1, 32)], 28) := by decide +kernel
theorem dX1_narrowed_32 : decode cX1_narrowed 32 = .ok (.iload_n 1, 1) := by decide +kernel
theorem dX1_narrowed_33 : decode cX1_narrowed 33 = .ok (.i2b, 1) := by decide +kernel
theorem dX1_narrowed_34 : decode cX1_narrowed 34 = .ok (.i2l, 1) := by decide +kernel
theorem dX1_narrowed_35 : decode cX1_narrowed 35 = .ok (.lreturn, 1) := by decide +kernel
theorem dX1_narrowed_36 : decode cX1_narrowed 36 = .ok (.iload_n 1, 1) := by decide +kernel
theorem dX1_narrowed_37 : decode cX1_narrowed 37 = .ok (.i2s, 1) := by decide +kernel
theorem dX1_narrowed_38 : decode cX1_narrowed 38 = .ok (.i2l, 1) := by decide +kernel
theorem dX1_narrowed_39 : decode cX1_narrowed 39 = .ok (.lreturn, 1) := by decide +kernel
theorem dX1_narrowed_40 : decode cX1_narrowed 40 = .ok (.iload_n 1, 1) := by decide +kernel
theorem dX1_narrowed_41 : decode cX1_narrowed 41 = .ok (.i2l, 1) := by decide +kernel
theorem dX1_narrowed_42 : decode cX1_narrowed 42 = .ok (.lreturn, 1) := by decide +kernel
theorem dX2_init_0 : decode cX2_init 0 = .ok (.aload_n 0, 1) := by decide +kernel
theorem dX2_init_1 : decode cX2_init 1 = .ok (.invokespecial 3, 3) := by decide +kernel
theorem dX2_init_4 : decode cX2_init 4 = .ok (.aload_n 0, 1) := by decide +kernel
theorem dX2_init_5 : decode cX2_init 5 = .ok (.iconst 2, 1) := by decide +kernel
theorem dX2_init_6 : decode cX2_init 6 = .ok (.putfield 9, 3) := by decide +kernel
theorem dX2_init_9 : decode cX2_init 9 = .ok (.return_, 1) := by decide +kernel
theorem dX2_holdPerson_0 : decode cX2_holdPerson 0 = .ok (.aload_n 0, 1) := by decide +kernel
theorem dX2_holdPerson_1 : decode cX2_holdPerson 1 = .ok (.iconst 0, 1) := by decide +kernel
theorem dX2_holdPerson_2 : decode cX2_holdPerson 2 = .ok (.putfield 9, 3) := by decide +kernel
theorem dX2_holdPerson_5 : decode cX2_holdPerson 5 = .ok (.aload_n 0, 1) := by decide +kernel
theorem dX2_holdPerson_6 : decode cX2_holdPerson 6 = .ok (.iload_n 1, 1) := by decide +kernel
theorem dX2_holdPerson_7 : decode cX2_holdPerson 7 = .ok (.putfield 15, 3) := by decide +kernel
theorem dX2_holdPerson_10 : decode cX2_holdPerson 10 = .ok (.return_, 1) := by decide +kernel
theorem dX2_holdRow_0 : decode cX2_holdRow 0 = .ok (.aload_n 0, 1) := by decide +kernel
theorem dX2_holdRow_1 : decode cX2_holdRow 1 = .ok (.iconst 1, 1) := by decide +kernel
theorem dX2_holdRow_2 : decode cX2_holdRow 2 = .ok (.putfield 9, 3) := by decide +kernel
theorem dX2_holdRow_5 : decode cX2_holdRow 5 = .ok (.aload_n 0, 1) := by decide +kernel
theorem dX2_holdRow_6 : decode cX2_holdRow 6 = .ok (.iload_n 1, 1) := by decide +kernel
theorem dX2_holdRow_7 : decode cX2_holdRow 7 = .ok (.putfield 18, 3) := by decide +kernel
theorem dX2_holdRow_10 : decode cX2_holdRow 10 = .ok (.aload_n 0, 1) := by decide +kernel
theorem dX2_holdRow_11 : decode cX2_holdRow 11 = .ok (.iload_n 2, 1) := by decide +kernel
theorem dX2_holdRow_12 : decode cX2_holdRow 12 = .ok (.putfield 21, 3) := by decide +kernel
theorem dX2_holdRow_15 : decode cX2_holdRow 15 = .ok (.return_, 1) := by decide +kernel
theorem dX2_holdNothing_0 : decode cX2_holdNothing 0 = .ok (.aload_n 0, 1) := by decide +kernel
theorem dX2_holdNothing_1 : decode cX2_holdNothing 1 = .ok (.iconst 2, 1) := by decide +kernel
theorem dX2_holdNothing_2 : decode cX2_holdNothing 2 = .ok (.putfield 9, 3) := by decide +kernel
theorem dX2_holdNothing_5 : decode cX2_holdNothing 5 = .ok (.return_, 1) := by decide +kernel
theorem dX3_init_0 : decode cX3_init 0 = .ok (.aload_n 0, 1) := by decide +kernel
theorem dX3_init_1 : decode cX3_init 1 = .ok (.invokespecial 3, 3) := by decide +kernel
theorem dX3_init_4 : decode cX3_init 4 = .ok (.aload_n 0, 1) := by decide +kernel
theorem dX3_init_5 : decode cX3_init 5 = .ok (.sipush 200, 3) := by decide +kernel
theorem dX3_init_8 : decode cX3_init 8 = .ok (.newarray .int, 2) := by decide +kernel
theorem dX3_init_10 : decode cX3_init 10 = .ok (.putfield 11, 3) := by decide +kernel
theorem dX3_init_13 : decode cX3_init 13 = .ok (.return_, 1) := by decide +kernel
theorem dX3_append_0 : decode cX3_append 0 = .ok (.aload_n 0, 1) := by decide +kernel
theorem dX3_append_1 : decode cX3_append 1 = .ok (.getfield 15, 3) := by decide +kernel
theorem dX3_append_4 : decode cX3_append 4 = .ok (.sipush 200, 3) := by decide +kernel
theorem dX3_append_7 : decode cX3_append 7 = .ok (.if_icmp .ge 23, 3) := by decide +kernel
theorem dX3_append_10 : decode cX3_append 10 = .ok (.aload_n 0, 1) := by decide +kernel
theorem dX3_append_11 : decode cX3_append 11 = .ok (.getfield 11, 3) := by decide +kernel
theorem dX3_append_14 : decode cX3_append 14 = .ok (.aload_n 0, 1) := by decide +kernel
theorem dX3_append_15 : decode cX3_append 15 = .ok (.getfield 15, 3) := by decide +kernel
theorem dX3_append_18 : decode cX3_append 18 = .ok (.iload_n 1, 1) := by decide +kernel
theorem dX3_append_19 : decode cX3_append 19 = .ok (.iastore, 1) := by decide +kernel
theorem dX3_append_20 : decode cX3_append 20 = .ok (.aload_n 0, 1) := by decide +kernel
theorem dX3_append_21 : decode cX3_append 21 = .ok (.dup, 1) := by decide +kernel
theorem dX3_append_22 : decode cX3_append 22 = .ok (.getfield 15, 3) := by decide +kernel
theorem dX3_append_25 : decode cX3_append 25 = .ok (.iconst 1, 1) := by decide +kernel
theorem dX3_append_26 : decode cX3_append 26 = .ok (.iadd, 1) := by decide +kernel
theorem dX3_append_27 : decode cX3_append 27 = .ok (.putfield 15, 3) := by decide +kernel
theorem dX3_append_30 : decode cX3_append 30 = .ok (.return_, 1) := by decide +kernel
set_option maxRecDepth 20000 in
theorem ggX3_readInto_X3_readSign : GoodIn wsX3_readInto wsX3_readSign := goodIn_r _ [8, 2, 9, 10, 11, 3, 12, 13, 14, 7, 15, 121, 122, 123, 124, 125, 126] (by decide +kernel) (by decide +kernel)
set_option maxRecDepth 20000 in
theorem gX3_readInto_X3_readSign : GoodIn wsX3_readInto (wsV RX3 25 RX3 yX3_readSign wsX3_readSign) := goodIn_app (goodIn_of _ (by decide +kernel)) ggX3_readInto_X3_readSign
set_option maxRecDepth 20000 in
theorem ggX3_readInto_X3_readStatement : GoodIn wsX3_readInto wsX3_readStatement := goodIn_r _ [19, 20, 21, 22, 23, 24, 7, 25, 26, 27, 28, 29, 3, 2, 9, 10, 11, 30, 31, 32, 33, 34, 35, 36, 37, 38, 39, 40, 41, 42, 43, 44, 45, 46, 47, 48, 49, 50, 51, 52, 53, 54, 55, 56, 57, 58, 59, 60, 61, 62, 63, 64, 65, 66, 67, 68, 69, 70, 71, 72, 73, 74, 75, 76, 77, 78, 79, 80, 81, 82, 4, 5, 6, 8, 12, 13, 14, 15, 83, 84, 85, 86, 87, 88, 89, 90, 1, 91, 92, 93, 94, 95, 96, 97, 98, 99, 100, 101, 102, 103, 104, 105, 106, 107, 108, 109, 110, 111, 112, 113, 114, 115, 116, 117, 118, 119, 120, 127, 128, 129, 130, 131, 132, 133, 134, 135, 136, 137, 138, 121, 122, 123, 124, 125, 126] (by decide +kernel) (by decide +kernel)
set_option maxRecDepth 20000 in
theorem gX3_readInto_X3_readStatement : GoodIn wsX3_readInto (wsV RX3 31 RX3 yX3_readStatement wsX3_readStatement) := goodIn_app (goodIn_of _ (by decide +kernel)) ggX3_readInto_X3_readStatement
theorem dX3_readInto_0 : decode cX3_readInto 0 = .ok (.aload_n 0, 1) := by decide +kernel
theorem dX3_readInto_1 : decode cX3_readInto 1 = .ok (.iconst (-1), 1) := by decide +kernel
theorem dX3_readInto_2 : decode cX3_readInto 2 = .ok (.putfield 19, 3) := by decide +kernel
theorem dX3_readInto_5 : decode cX3_readInto 5 = .ok (.aload_n 0, 1) := by decide +kernel
theorem dX3_readInto_6 : decode cX3_readInto 6 = .ok (.iconst 0, 1) := by decide +kernel
theorem dX3_readInto_7 : decode cX3_readInto 7 = .ok (.putfield 22, 3) := by decide +kernel
theorem dX3_readInto_10 : decode cX3_readInto 10 = .ok (.aload_n 0, 1) := by decide +kernel
theorem dX3_readInto_11 : decode cX3_readInto 11 = .ok (.invokevirtual 25, 3) := by decide +kernel
theorem dX3_readInto_14 : decode cX3_readInto 14 = .ok (.iconst 0, 1) := by decide +kernel
theorem dX3_readInto_15 : decode cX3_readInto 15 = .ok (.istore_n 2, 1) := by decide +kernel
theorem dX3_readInto_16 : decode cX3_readInto 16 = .ok (.iload_n 2, 1) := by decide +kernel
theorem dX3_readInto_17 : decode cX3_readInto 17 = .ok (.sipush 200, 3) := by decide +kernel
theorem dX3_readInto_20 : decode cX3_readInto 20 = .ok (.if_icmp .ge 29, 3) := by decide +kernel
theorem dX3_readInto_23 : decode cX3_readInto 23 = .ok (.aload_n 0, 1) := by decide +kernel
theorem dX3_readInto_24 : decode cX3_readInto 24 = .ok (.getfield 28, 3) := by decide +kernel
theorem dX3_readInto_27 : decode cX3_readInto 27 = .ok (.ifCond .eq 22, 3) := by decide +kernel
theorem dX3_readInto_30 : decode cX3_readInto 30 = .ok (.aload_n 0, 1) := by decide +kernel
theorem dX3_readInto_31 : decode cX3_readInto 31 = .ok (.getfield 19, 3) := by decide +kernel
theorem dX3_readInto_34 : decode cX3_readInto 34 = .ok (.iconst (-1), 1) := by decide +kernel
theorem dX3_readInto_35 : decode cX3_readInto 35 = .ok (.if_icmp .ne 14, 3) := by decide +kernel
theorem dX3_readInto_38 : decode cX3_readInto 38 = .ok (.aload_n 0, 1) := by decide +kernel
theorem dX3_readInto_39 : decode cX3_readInto 39 = .ok (.aload_n 1, 1) := by decide +kernel
theorem dX3_readInto_40 : decode cX3_readInto 40 = .ok (.invokevirtual 31, 3) := by decide +kernel
theorem dX3_readInto_43 : decode cX3_readInto 43 = .ok (.iinc 2 1, 3) := by decide +kernel
theorem dX3_readInto_46 : decode cX3_readInto 46 = .ok (.goto (-30), 3) := by decide +kernel
theorem dX3_readInto_49 : decode cX3_readInto 49 = .ok (.aload_n 0, 1) := by decide +kernel
theorem dX3_readInto_50 : decode cX3_readInto 50 = .ok (.getfield 19, 3) := by decide +kernel
theorem dX3_readInto_53 : decode cX3_readInto 53 = .ok (.ireturn, 1) := by decide +kernel
set_option maxRecDepth 20000 in
theorem ggX3_readStatement_X3_kindNamed : GoodIn wsX3_readStatement wsX3_kindNamed := goodIn_r _ [7, 8, 9, 10, 6, 11, 12, 13, 14, 15, 16, 17, 18, 19, 20, 21, 22, 23, 24, 25, 26, 27, 28, 29, 30, 31, 32, 33, 34, 35, 36, 37, 38, 39, 40, 41, 42, 43, 44, 45, 46, 47, 48, 49, 50, 51, 52, 53, 54, 55, 56, 57, 58, 59, 60, 61, 62, 63, 64, 65, 129, 130, 131, 132, 133, 134] (by decide +kernel) (by decide +kernel)
set_option maxRecDepth 20000 in
theorem gX3_readStatement_X3_kindNamed : GoodIn wsX3_readStatement (wsV RX3 35 RX3 yX3_kindNamed wsX3_kindNamed) := goodIn_app (goodIn_of _ (by decide +kernel)) ggX3_readStatement_X3_kindNamed
set_option maxRecDepth 20000 in
theorem ggX3_readStatement_X3_lawNamed : GoodIn wsX3_readStatement wsX3_lawNamed := goodIn_r _ [69, 8, 9, 10, 6, 11, 12, 13, 14, 15, 16, 17, 18, 19, 20, 21, 22, 23, 24, 25, 26, 27, 28, 29, 30, 31, 32, 33, 34, 35, 36, 37, 38, 39, 40, 41, 42, 43, 44, 45, 46, 47, 48, 49, 50, 51, 52, 53, 54, 55, 56, 57, 58, 59, 60, 61, 62, 63, 64, 65, 129, 130, 131, 132, 133, 134] (by decide +kernel) (by decide +kernel)
set_option maxRecDepth 20000 in
theorem gX3_readStatement_X3_lawNamed : GoodIn wsX3_readStatement (wsV RX3 39 RX3 yX3_lawNamed wsX3_lawNamed) := goodIn_app (goodIn_of _ (by decide +kernel)) ggX3_readStatement_X3_lawNamed
set_option maxRecDepth 20000 in
theorem ggX3_readStatement_X3_readSign : GoodIn wsX3_readStatement wsX3_readSign := goodIn_r _ [73, 13, 14, 15, 16, 12, 74, 75, 76, 6, 77, 129, 130, 131, 132, 133, 134] (by decide +kernel) (by decide +kernel)
set_option maxRecDepth 20000 in
theorem gX3_readStatement_X3_readSign : GoodIn wsX3_readStatement (wsV RX3 25 RX3 yX3_readSign wsX3_readSign) := goodIn_app (goodIn_of _ (by decide +kernel)) ggX3_readStatement_X3_readSign
set_option maxRecDepth 20000 in
theorem ggX3_readStatement_X3_readPerson : GoodIn wsX3_readStatement wsX3_readPerson := goodIn_r _ [81, 82, 83, 84, 6, 85, 86, 8, 9, 10, 11, 12, 13, 14, 15, 16, 17, 18, 19, 20, 21, 22, 23, 24, 25, 26, 27, 28, 29, 30, 31, 32, 33, 34, 35, 36, 37, 38, 39, 40, 41, 42, 43, 44, 45, 46, 47, 48, 49, 50, 51, 52, 53, 54, 55, 56, 57, 58, 59, 60, 61, 62, 63, 64, 65, 70, 71, 72, 73, 74, 75, 76, 77, 87, 88, 89, 90, 91, 92, 93, 94, 95, 96, 97, 98, 99, 100, 101, 102, 103, 104, 105, 106, 107, 108, 109, 110, 111, 112, 113, 114, 115, 116, 129, 130, 131, 132, 133, 134, 117, 118, 119, 120, 121, 122, 123, 124, 125, 126, 127, 128] (by decide +kernel) (by decide +kernel)
set_option maxRecDepth 20000 in
theorem gX3_readStatement_X3_readPerson : GoodIn wsX3_readStatement (wsV RX3 47 RX3 yX3_readPerson wsX3_readPerson) := goodIn_app (goodIn_of _ (by decide +kernel)) ggX3_readStatement_X3_readPerson
set_option maxRecDepth 20000 in
theorem ggX3_readStatement_X3_takeNumber : GoodIn wsX3_readStatement wsX3_takeNumber := goodIn_r _ [94, 86, 95, 96, 97, 6, 98, 12, 13, 14, 15, 16, 99, 100, 101, 87, 88, 89, 90, 70, 71, 72, 73, 74, 75, 76, 77, 129, 130, 131, 132, 133, 134] (by decide +kernel) (by decide +kernel)
set_option maxRecDepth 20000 in
theorem gX3_readStatement_X3_takeNumber : GoodIn wsX3_readStatement (wsV RX3 57 RX3 yX3_takeNumber wsX3_takeNumber) := goodIn_app (goodIn_of _ (by decide +kernel)) ggX3_readStatement_X3_takeNumber
set_option maxRecDepth 20000 in
theorem ggX3_readStatement_X3_takeSemicolon : GoodIn wsX3_readStatement wsX3_takeSemicolon := goodIn_r _ [105, 86, 12, 14, 15, 16, 99, 100, 101, 70, 71, 72, 6, 73, 13, 74, 75, 76, 77, 87, 88, 89, 90, 129, 130, 131, 132, 133, 134] (by decide +kernel) (by decide +kernel)
set_option maxRecDepth 20000 in
theorem gX3_readStatement_X3_takeSemicolon : GoodIn wsX3_readStatement (wsV RX3 61 RX3 yX3_takeSemicolon wsX3_takeSemicolon) := goodIn_app (goodIn_of _ (by decide +kernel)) ggX3_readStatement_X3_takeSemicolon
set_option maxRecDepth 20000 in
theorem ggX3_readStatement_X3_fail : GoodIn wsX3_readStatement wsX3_fail := goodIn_r _ [90, 86, 14, 129, 130, 131, 132, 133, 134] (by decide +kernel) (by decide +kernel)
set_option maxRecDepth 20000 in
theorem gX3_readStatement_X3_fail : GoodIn wsX3_readStatement (wsV RX3 67 RX3 yX3_fail wsX3_fail) := goodIn_app (goodIn_of _ (by decide +kernel)) ggX3_readStatement_X3_fail
theorem dX3_readStatement_0 : decode cX3_readStatement 0 = .ok (.aload_n 0, 1) := by decide +kernel
theorem dX3_readStatement_1 : decode cX3_readStatement 1 = .ok (.invokevirtual 35, 3) := by decide +kernel
theorem dX3_readStatement_4 : decode cX3_readStatement 4 = .ok (.istore_n 2, 1) := by decide +kernel
theorem dX3_readStatement_5 : decode cX3_readStatement 5 = .ok (.aload_n 0, 1) := by decide +kernel
theorem dX3_readStatement_6 : decode cX3_readStatement 6 = .ok (.invokevirtual 39, 3) := by decide +kernel
theorem dX3_readStatement_9 : decode cX3_readStatement 9 = .ok (.istore_n 3, 1) := by decide +kernel
theorem dX3_readStatement_10 : decode cX3_readStatement 10 = .ok (.iload_n 2, 1) := by decide +kernel
theorem dX3_readStatement_11 : decode cX3_readStatement 11 = .ok (.ifCond .lt 25, 3) := by decide +kernel
theorem dX3_readStatement_14 : decode cX3_readStatement 14 = .ok (.aload_n 1, 1) := by decide +kernel
theorem dX3_readStatement_15 : decode cX3_readStatement 15 = .ok (.getfield 42, 3) := by decide +kernel
theorem dX3_readStatement_18 : decode cX3_readStatement 18 = .ok (.bipush 8, 2) := by decide +kernel
theorem dX3_readStatement_20 : decode cX3_readStatement 20 = .ok (.if_icmp .ge 16, 3) := by decide +kernel
theorem dX3_readStatement_23 : decode cX3_readStatement 23 = .ok (.aload_n 0, 1) := by decide +kernel
theorem dX3_readStatement_24 : decode cX3_readStatement 24 = .ok (.invokevirtual 25, 3) := by decide +kernel
theorem dX3_readStatement_27 : decode cX3_readStatement 27 = .ok (.aload_n 0, 1) := by decide +kernel
theorem dX3_readStatement_28 : decode cX3_readStatement 28 = .ok (.aload_n 1, 1) := by decide +kernel
theorem dX3_readStatement_29 : decode cX3_readStatement 29 = .ok (.iload_n 2, 1) := by decide +kernel
theorem dX3_readStatement_30 : decode cX3_readStatement 30 = .ok (.invokevirtual 47, 3) := by decide +kernel
theorem dX3_readStatement_33 : decode cX3_readStatement 33 = .ok (.goto 46, 3) := by decide +kernel
theorem dX3_readStatement_36 : decode cX3_readStatement 36 = .ok (.iload_n 3, 1) := by decide +kernel
theorem dX3_readStatement_37 : decode cX3_readStatement 37 = .ok (.ifCond .lt 38, 3) := by decide +kernel
theorem dX3_readStatement_40 : decode cX3_readStatement 40 = .ok (.aload_n 0, 1) := by decide +kernel
theorem dX3_readStatement_41 : decode cX3_readStatement 41 = .ok (.invokevirtual 25, 3) := by decide +kernel
theorem dX3_readStatement_44 : decode cX3_readStatement 44 = .ok (.aload_n 0, 1) := by decide +kernel
theorem dX3_readStatement_45 : decode cX3_readStatement 45 = .ok (.getstatic 51, 3) := by decide +kernel
theorem dX3_readStatement_48 : decode cX3_readStatement 48 = .ok (.iload_n 3, 1) := by decide +kernel
theorem dX3_readStatement_49 : decode cX3_readStatement 49 = .ok (.iaload, 1) := by decide +kernel
theorem dX3_readStatement_50 : decode cX3_readStatement 50 = .ok (.getstatic 54, 3) := by decide +kernel
theorem dX3_readStatement_53 : decode cX3_readStatement 53 = .ok (.iload_n 3, 1) := by decide +kernel
theorem dX3_readStatement_54 : decode cX3_readStatement 54 = .ok (.iaload, 1) := by decide +kernel
theorem dX3_readStatement_55 : decode cX3_readStatement 55 = .ok (.invokevirtual 57, 3) := by decide +kernel
theorem dX3_readStatement_58 : decode cX3_readStatement 58 = .ok (.istore 4, 2) := by decide +kernel
theorem dX3_readStatement_60 : decode cX3_readStatement 60 = .ok (.aload_n 0, 1) := by decide +kernel
theorem dX3_readStatement_61 : decode cX3_readStatement 61 = .ok (.invokevirtual 61, 3) := by decide +kernel
theorem dX3_readStatement_64 : decode cX3_readStatement 64 = .ok (.aload_n 1, 1) := by decide +kernel
theorem dX3_readStatement_65 : decode cX3_readStatement 65 = .ok (.getfield 64, 3) := by decide +kernel
theorem dX3_readStatement_68 : decode cX3_readStatement 68 = .ok (.iload_n 3, 1) := by decide +kernel
theorem dX3_readStatement_69 : decode cX3_readStatement 69 = .ok (.iload 4, 2) := by decide +kernel
theorem dX3_readStatement_71 : decode cX3_readStatement 71 = .ok (.iastore, 1) := by decide +kernel
theorem dX3_readStatement_72 : decode cX3_readStatement 72 = .ok (.goto 7, 3) := by decide +kernel
theorem dX3_readStatement_75 : decode cX3_readStatement 75 = .ok (.aload_n 0, 1) := by decide +kernel
theorem dX3_readStatement_76 : decode cX3_readStatement 76 = .ok (.invokevirtual 67, 3) := by decide +kernel
theorem dX3_readStatement_79 : decode cX3_readStatement 79 = .ok (.return_, 1) := by decide +kernel
set_option maxRecDepth 20000 in
theorem ggX3_readPerson_X3_tookName : GoodIn wsX3_readPerson wsX3_tookName := goodIn_r _ [5, 6, 7, 8, 9, 4, 10, 11, 12, 13, 14, 15, 16, 17, 18, 19, 20, 21, 22, 23, 24, 25, 26, 27, 28, 29, 30, 31, 32, 33, 34, 35, 36, 37, 38, 39, 40, 41, 42, 43, 44, 45, 46, 47, 48, 49, 50, 51, 52, 53, 54, 55, 56, 57, 58, 59, 60, 61, 62, 63, 64, 65, 66, 67, 68, 69, 70, 71, 72, 103, 104, 105, 106, 107, 108] (by decide +kernel) (by decide +kernel)
set_option maxRecDepth 20000 in
theorem gX3_readPerson_X3_tookName : GoodIn wsX3_readPerson (wsV RX3 72 RX3 yX3_tookName wsX3_tookName) := goodIn_app (goodIn_of _ (by decide +kernel)) ggX3_readPerson_X3_tookName
set_option maxRecDepth 20000 in
theorem ggX3_readPerson_X3_fail : GoodIn wsX3_readPerson wsX3_fail := goodIn_r _ [76, 6, 13, 103, 104, 105, 106, 107, 108] (by decide +kernel) (by decide +kernel)
set_option maxRecDepth 20000 in
theorem gX3_readPerson_X3_fail : GoodIn wsX3_readPerson (wsV RX3 67 RX3 yX3_fail wsX3_fail) := goodIn_app (goodIn_of _ (by decide +kernel)) ggX3_readPerson_X3_fail
set_option maxRecDepth 20000 in
theorem ggX3_readPerson_X3_takeNumber : GoodIn wsX3_readPerson wsX3_takeNumber := goodIn_r _ [80, 6, 81, 82, 83, 4, 84, 11, 12, 13, 14, 15, 85, 86, 87, 73, 74, 75, 76, 65, 66, 67, 68, 69, 70, 71, 72, 103, 104, 105, 106, 107, 108] (by decide +kernel) (by decide +kernel)
set_option maxRecDepth 20000 in
theorem gX3_readPerson_X3_takeNumber : GoodIn wsX3_readPerson (wsV RX3 57 RX3 yX3_takeNumber wsX3_takeNumber) := goodIn_app (goodIn_of _ (by decide +kernel)) ggX3_readPerson_X3_takeNumber
set_option maxRecDepth 20000 in
theorem ggX3_readPerson_X3_takeSemicolon : GoodIn wsX3_readPerson wsX3_takeSemicolon := goodIn_r _ [91, 6, 11, 13, 14, 15, 85, 86, 87, 65, 66, 67, 4, 68, 12, 69, 70, 71, 72, 73, 74, 75, 76, 103, 104, 105, 106, 107, 108] (by decide +kernel) (by decide +kernel)
set_option maxRecDepth 20000 in
theorem gX3_readPerson_X3_takeSemicolon : GoodIn wsX3_readPerson (wsV RX3 61 RX3 yX3_takeSemicolon wsX3_takeSemicolon) := goodIn_app (goodIn_of _ (by decide +kernel)) ggX3_readPerson_X3_takeSemicolon
set_option maxRecDepth 20000 in
theorem ggX3_readPerson_X4_add : GoodIn wsX3_readPerson wsX4_add := goodIn_r _ [96, 97, 98, 99, 100, 101, 102, 109, 110, 111, 112, 113, 114, 115, 116, 117, 118, 119, 120] (by decide +kernel) (by decide +kernel)
set_option maxRecDepth 20000 in
theorem gX3_readPerson_X4_add : GoodIn wsX3_readPerson (wsV RX3 80 RX4 yX4_add wsX4_add) := goodIn_app (goodIn_of _ (by decide +kernel)) ggX3_readPerson_X4_add
theorem dX3_readPerson_0 : decode cX3_readPerson 0 = .ok (.aload_n 0, 1) := by decide +kernel
theorem dX3_readPerson_1 : decode cX3_readPerson 1 = .ok (.ldc 70, 2) := by decide +kernel
theorem dX3_readPerson_3 : decode cX3_readPerson 3 = .ok (.invokevirtual 72, 3) := by decide +kernel
theorem dX3_readPerson_6 : decode cX3_readPerson 6 = .ok (.ifCond .ne 7, 3) := by decide +kernel
theorem dX3_readPerson_9 : decode cX3_readPerson 9 = .ok (.aload_n 0, 1) := by decide +kernel
theorem dX3_readPerson_10 : decode cX3_readPerson 10 = .ok (.invokevirtual 67, 3) := by decide +kernel
theorem dX3_readPerson_13 : decode cX3_readPerson 13 = .ok (.aload_n 0, 1) := by decide +kernel
theorem dX3_readPerson_14 : decode cX3_readPerson 14 = .ok (.iconst 0, 1) := by decide +kernel
theorem dX3_readPerson_15 : decode cX3_readPerson 15 = .ok (.bipush 11, 2) := by decide +kernel
theorem dX3_readPerson_17 : decode cX3_readPerson 17 = .ok (.invokevirtual 57, 3) := by decide +kernel
theorem dX3_readPerson_20 : decode cX3_readPerson 20 = .ok (.istore_n 3, 1) := by decide +kernel
theorem dX3_readPerson_21 : decode cX3_readPerson 21 = .ok (.aload_n 0, 1) := by decide +kernel
theorem dX3_readPerson_22 : decode cX3_readPerson 22 = .ok (.ldc 76, 2) := by decide +kernel
theorem dX3_readPerson_24 : decode cX3_readPerson 24 = .ok (.invokevirtual 72, 3) := by decide +kernel
theorem dX3_readPerson_27 : decode cX3_readPerson 27 = .ok (.ifCond .eq 13, 3) := by decide +kernel
theorem dX3_readPerson_30 : decode cX3_readPerson 30 = .ok (.aload_n 0, 1) := by decide +kernel
theorem dX3_readPerson_31 : decode cX3_readPerson 31 = .ok (.iconst 1, 1) := by decide +kernel
theorem dX3_readPerson_32 : decode cX3_readPerson 32 = .ok (.bipush 9, 2) := by decide +kernel
theorem dX3_readPerson_34 : decode cX3_readPerson 34 = .ok (.invokevirtual 57, 3) := by decide +kernel
theorem dX3_readPerson_37 : decode cX3_readPerson 37 = .ok (.goto 4, 3) := by decide +kernel
theorem dX3_readPerson_40 : decode cX3_readPerson 40 = .ok (.iconst 5, 1) := by decide +kernel
theorem dX3_readPerson_41 : decode cX3_readPerson 41 = .ok (.istore 4, 2) := by decide +kernel
theorem dX3_readPerson_43 : decode cX3_readPerson 43 = .ok (.aload_n 0, 1) := by decide +kernel
theorem dX3_readPerson_44 : decode cX3_readPerson 44 = .ok (.ldc 78, 2) := by decide +kernel
theorem dX3_readPerson_46 : decode cX3_readPerson 46 = .ok (.invokevirtual 72, 3) := by decide +kernel
theorem dX3_readPerson_49 : decode cX3_readPerson 49 = .ok (.ifCond .eq 13, 3) := by decide +kernel
theorem dX3_readPerson_52 : decode cX3_readPerson 52 = .ok (.aload_n 0, 1) := by decide +kernel
theorem dX3_readPerson_53 : decode cX3_readPerson 53 = .ok (.iconst 0, 1) := by decide +kernel
theorem dX3_readPerson_54 : decode cX3_readPerson 54 = .ok (.bipush 8, 2) := by decide +kernel
theorem dX3_readPerson_56 : decode cX3_readPerson 56 = .ok (.invokevirtual 57, 3) := by decide +kernel
theorem dX3_readPerson_59 : decode cX3_readPerson 59 = .ok (.goto 4, 3) := by decide +kernel
theorem dX3_readPerson_62 : decode cX3_readPerson 62 = .ok (.iconst 0, 1) := by decide +kernel
theorem dX3_readPerson_63 : decode cX3_readPerson 63 = .ok (.istore 5, 2) := by decide +kernel
theorem dX3_readPerson_65 : decode cX3_readPerson 65 = .ok (.aload_n 0, 1) := by decide +kernel
theorem dX3_readPerson_66 : decode cX3_readPerson 66 = .ok (.invokevirtual 61, 3) := by decide +kernel
theorem dX3_readPerson_69 : decode cX3_readPerson 69 = .ok (.aload_n 1, 1) := by decide +kernel
theorem dX3_readPerson_70 : decode cX3_readPerson 70 = .ok (.iload_n 2, 1) := by decide +kernel
theorem dX3_readPerson_71 : decode cX3_readPerson 71 = .ok (.iload 4, 2) := by decide +kernel
theorem dX3_readPerson_73 : decode cX3_readPerson 73 = .ok (.iload 5, 2) := by decide +kernel
theorem dX3_readPerson_75 : decode cX3_readPerson 75 = .ok (.iload_n 3, 1) := by decide +kernel
theorem dX3_readPerson_76 : decode cX3_readPerson 76 = .ok (.invokevirtual 80, 3) := by decide +kernel
theorem dX3_readPerson_79 : decode cX3_readPerson 79 = .ok (.return_, 1) := by decide +kernel
set_option maxRecDepth 20000 in
theorem ggX3_tookName_X3_isName : GoodIn wsX3_tookName wsX3_isName := goodIn_r _ [6, 7, 8, 9, 10, 11, 12, 13, 14, 15, 16, 17, 18, 19, 20, 21, 22, 23, 24, 25, 26, 27, 28, 29, 30, 31, 32, 33, 34, 35, 36, 37, 38, 39, 40, 41, 42, 43, 44, 45, 46, 47, 48, 49, 50, 51, 52, 53, 54, 55, 56, 57, 58, 59, 60, 69, 70, 71, 72, 73, 74] (by decide +kernel) (by decide +kernel)
set_option maxRecDepth 20000 in
theorem gX3_tookName_X3_isName : GoodIn wsX3_tookName (wsV RX3 84 RX3 yX3_isName wsX3_isName) := goodIn_app (goodIn_of _ (by decide +kernel)) ggX3_tookName_X3_isName
set_option maxRecDepth 20000 in
theorem ggX3_tookName_X3_readSign : GoodIn wsX3_tookName wsX3_readSign := goodIn_r _ [64, 8, 9, 10, 11, 7, 65, 66, 67, 5, 68, 69, 70, 71, 72, 73, 74] (by decide +kernel) (by decide +kernel)
set_option maxRecDepth 20000 in
theorem gX3_tookName_X3_readSign : GoodIn wsX3_tookName (wsV RX3 25 RX3 yX3_readSign wsX3_readSign) := goodIn_app (goodIn_of _ (by decide +kernel)) ggX3_tookName_X3_readSign
theorem dX3_tookName_0 : decode cX3_tookName 0 = .ok (.aload_n 0, 1) := by decide +kernel
theorem dX3_tookName_1 : decode cX3_tookName 1 = .ok (.getfield 19, 3) := by decide +kernel
theorem dX3_tookName_4 : decode cX3_tookName 4 = .ok (.iconst (-1), 1) := by decide +kernel
theorem dX3_tookName_5 : decode cX3_tookName 5 = .ok (.if_icmp .ne 11, 3) := by decide +kernel
theorem dX3_tookName_8 : decode cX3_tookName 8 = .ok (.aload_n 0, 1) := by decide +kernel
theorem dX3_tookName_9 : decode cX3_tookName 9 = .ok (.aload_n 1, 1) := by decide +kernel
theorem dX3_tookName_10 : decode cX3_tookName 10 = .ok (.invokevirtual 84, 3) := by decide +kernel
theorem dX3_tookName_13 : decode cX3_tookName 13 = .ok (.ifCond .ne 5, 3) := by decide +kernel
theorem dX3_tookName_16 : decode cX3_tookName 16 = .ok (.iconst 0, 1) := by decide +kernel
theorem dX3_tookName_17 : decode cX3_tookName 17 = .ok (.ireturn, 1) := by decide +kernel
theorem dX3_tookName_18 : decode cX3_tookName 18 = .ok (.aload_n 0, 1) := by decide +kernel
theorem dX3_tookName_19 : decode cX3_tookName 19 = .ok (.invokevirtual 25, 3) := by decide +kernel
theorem dX3_tookName_22 : decode cX3_tookName 22 = .ok (.iconst 1, 1) := by decide +kernel
theorem dX3_tookName_23 : decode cX3_tookName 23 = .ok (.ireturn, 1) := by decide +kernel
set_option maxRecDepth 20000 in
theorem ggX3_takeNumber_X3_numberRead : GoodIn wsX3_takeNumber wsX3_numberRead := goodIn_r _ [6, 7, 8, 9, 10, 11, 27, 28, 29, 30, 31, 32] (by decide +kernel) (by decide +kernel)
set_option maxRecDepth 20000 in
theorem gX3_takeNumber_X3_numberRead : GoodIn wsX3_takeNumber (wsV RX3 87 RX3 yX3_numberRead wsX3_numberRead) := goodIn_app (goodIn_of _ (by decide +kernel)) ggX3_takeNumber_X3_numberRead
set_option maxRecDepth 20000 in
theorem ggX3_takeNumber_X5_isIn : GoodIn wsX3_takeNumber wsX5_isIn := goodIn_r _ [14] (by decide +kernel) (by decide +kernel)
set_option maxRecDepth 20000 in
theorem gX3_takeNumber_X5_isIn_n90 : GoodIn wsX3_takeNumber (wsX5_isIn) := ggX3_takeNumber_X5_isIn
set_option maxRecDepth 20000 in
theorem ggX3_takeNumber_X3_fail : GoodIn wsX3_takeNumber wsX3_fail := goodIn_r _ [18, 1, 9, 27, 28, 29, 30, 31, 32] (by decide +kernel) (by decide +kernel)
set_option maxRecDepth 20000 in
theorem gX3_takeNumber_X3_fail : GoodIn wsX3_takeNumber (wsV RX3 67 RX3 yX3_fail wsX3_fail) := goodIn_app (goodIn_of _ (by decide +kernel)) ggX3_takeNumber_X3_fail
set_option maxRecDepth 20000 in
theorem ggX3_takeNumber_X3_readSign : GoodIn wsX3_takeNumber wsX3_readSign := goodIn_r _ [22, 8, 9, 10, 11, 7, 23, 24, 25, 5, 26, 27, 28, 29, 30, 31, 32] (by decide +kernel) (by decide +kernel)
set_option maxRecDepth 20000 in
theorem gX3_takeNumber_X3_readSign : GoodIn wsX3_takeNumber (wsV RX3 25 RX3 yX3_readSign wsX3_readSign) := goodIn_app (goodIn_of _ (by decide +kernel)) ggX3_takeNumber_X3_readSign
theorem dX3_takeNumber_0 : decode cX3_takeNumber 0 = .ok (.aload_n 0, 1) := by decide +kernel
theorem dX3_takeNumber_1 : decode cX3_takeNumber 1 = .ok (.getfield 19, 3) := by decide +kernel
theorem dX3_takeNumber_4 : decode cX3_takeNumber 4 = .ok (.iconst (-1), 1) := by decide +kernel
theorem dX3_takeNumber_5 : decode cX3_takeNumber 5 = .ok (.if_icmp .eq 5, 3) := by decide +kernel
theorem dX3_takeNumber_8 : decode cX3_takeNumber 8 = .ok (.iload_n 1, 1) := by decide +kernel
theorem dX3_takeNumber_9 : decode cX3_takeNumber 9 = .ok (.ireturn, 1) := by decide +kernel
theorem dX3_takeNumber_10 : decode cX3_takeNumber 10 = .ok (.aload_n 0, 1) := by decide +kernel
theorem dX3_takeNumber_11 : decode cX3_takeNumber 11 = .ok (.invokevirtual 87, 3) := by decide +kernel
theorem dX3_takeNumber_14 : decode cX3_takeNumber 14 = .ok (.istore_n 3, 1) := by decide +kernel
theorem dX3_takeNumber_15 : decode cX3_takeNumber 15 = .ok (.iload_n 3, 1) := by decide +kernel
theorem dX3_takeNumber_16 : decode cX3_takeNumber 16 = .ok (.iload_n 1, 1) := by decide +kernel
theorem dX3_takeNumber_17 : decode cX3_takeNumber 17 = .ok (.iload_n 2, 1) := by decide +kernel
theorem dX3_takeNumber_18 : decode cX3_takeNumber 18 = .ok (.invokestatic 90, 3) := by decide +kernel
theorem dX3_takeNumber_21 : decode cX3_takeNumber 21 = .ok (.ifCond .ne 9, 3) := by decide +kernel
theorem dX3_takeNumber_24 : decode cX3_takeNumber 24 = .ok (.aload_n 0, 1) := by decide +kernel
theorem dX3_takeNumber_25 : decode cX3_takeNumber 25 = .ok (.invokevirtual 67, 3) := by decide +kernel
theorem dX3_takeNumber_28 : decode cX3_takeNumber 28 = .ok (.iload_n 1, 1) := by decide +kernel
theorem dX3_takeNumber_29 : decode cX3_takeNumber 29 = .ok (.ireturn, 1) := by decide +kernel
theorem dX3_takeNumber_30 : decode cX3_takeNumber 30 = .ok (.aload_n 0, 1) := by decide +kernel
theorem dX3_takeNumber_31 : decode cX3_takeNumber 31 = .ok (.invokevirtual 25, 3) := by decide +kernel
theorem dX3_takeNumber_34 : decode cX3_takeNumber 34 = .ok (.iload_n 3, 1) := by decide +kernel
theorem dX3_takeNumber_35 : decode cX3_takeNumber 35 = .ok (.ireturn, 1) := by decide +kernel
set_option maxRecDepth 20000 in
theorem ggX3_takeSemicolon_X5_isIn : GoodIn wsX3_takeSemicolon wsX5_isIn := goodIn_r _ [8] (by decide +kernel) (by decide +kernel)
set_option maxRecDepth 20000 in
theorem gX3_takeSemicolon_X5_isIn_n90 : GoodIn wsX3_takeSemicolon (wsX5_isIn) := ggX3_takeSemicolon_X5_isIn
set_option maxRecDepth 20000 in
theorem ggX3_takeSemicolon_X3_readSign : GoodIn wsX3_takeSemicolon wsX3_readSign := goodIn_r _ [13, 14, 3, 4, 5, 2, 15, 16, 17, 12, 18, 23, 24, 25, 26, 27, 28] (by decide +kernel) (by decide +kernel)
set_option maxRecDepth 20000 in
theorem gX3_takeSemicolon_X3_readSign : GoodIn wsX3_takeSemicolon (wsV RX3 25 RX3 yX3_readSign wsX3_readSign) := goodIn_app (goodIn_of _ (by decide +kernel)) ggX3_takeSemicolon_X3_readSign
set_option maxRecDepth 20000 in
theorem ggX3_takeSemicolon_X3_fail : GoodIn wsX3_takeSemicolon wsX3_fail := goodIn_r _ [22, 1, 3, 23, 24, 25, 26, 27, 28] (by decide +kernel) (by decide +kernel)
set_option maxRecDepth 20000 in
theorem gX3_takeSemicolon_X3_fail : GoodIn wsX3_takeSemicolon (wsV RX3 67 RX3 yX3_fail wsX3_fail) := goodIn_app (goodIn_of _ (by decide +kernel)) ggX3_takeSemicolon_X3_fail
theorem dX3_takeSemicolon_0 : decode cX3_takeSemicolon 0 = .ok (.aload_n 0, 1) := by decide +kernel
theorem dX3_takeSemicolon_1 : decode cX3_takeSemicolon 1 = .ok (.getfield 19, 3) := by decide +kernel
theorem dX3_takeSemicolon_4 : decode cX3_takeSemicolon 4 = .ok (.iconst (-1), 1) := by decide +kernel
theorem dX3_takeSemicolon_5 : decode cX3_takeSemicolon 5 = .ok (.if_icmp .eq 4, 3) := by decide +kernel
theorem dX3_takeSemicolon_8 : decode cX3_takeSemicolon 8 = .ok (.return_, 1) := by decide +kernel
theorem dX3_takeSemicolon_9 : decode cX3_takeSemicolon 9 = .ok (.aload_n 0, 1) := by decide +kernel
theorem dX3_takeSemicolon_10 : decode cX3_takeSemicolon 10 = .ok (.getfield 28, 3) := by decide +kernel
theorem dX3_takeSemicolon_13 : decode cX3_takeSemicolon 13 = .ok (.iconst 3, 1) := by decide +kernel
theorem dX3_takeSemicolon_14 : decode cX3_takeSemicolon 14 = .ok (.if_icmp .ne 41, 3) := by decide +kernel
theorem dX3_takeSemicolon_17 : decode cX3_takeSemicolon 17 = .ok (.aload_n 0, 1) := by decide +kernel
theorem dX3_takeSemicolon_18 : decode cX3_takeSemicolon 18 = .ok (.getfield 94, 3) := by decide +kernel
theorem dX3_takeSemicolon_21 : decode cX3_takeSemicolon 21 = .ok (.iconst 0, 1) := by decide +kernel
theorem dX3_takeSemicolon_22 : decode cX3_takeSemicolon 22 = .ok (.aload_n 0, 1) := by decide +kernel
theorem dX3_takeSemicolon_23 : decode cX3_takeSemicolon 23 = .ok (.getfield 15, 3) := by decide +kernel
theorem dX3_takeSemicolon_26 : decode cX3_takeSemicolon 26 = .ok (.iconst 1, 1) := by decide +kernel
theorem dX3_takeSemicolon_27 : decode cX3_takeSemicolon 27 = .ok (.isub, 1) := by decide +kernel
theorem dX3_takeSemicolon_28 : decode cX3_takeSemicolon 28 = .ok (.invokestatic 90, 3) := by decide +kernel
theorem dX3_takeSemicolon_31 : decode cX3_takeSemicolon 31 = .ok (.ifCond .eq 24, 3) := by decide +kernel
theorem dX3_takeSemicolon_34 : decode cX3_takeSemicolon 34 = .ok (.aload_n 0, 1) := by decide +kernel
theorem dX3_takeSemicolon_35 : decode cX3_takeSemicolon 35 = .ok (.getfield 11, 3) := by decide +kernel
theorem dX3_takeSemicolon_38 : decode cX3_takeSemicolon 38 = .ok (.aload_n 0, 1) := by decide +kernel
theorem dX3_takeSemicolon_39 : decode cX3_takeSemicolon 39 = .ok (.getfield 94, 3) := by decide +kernel
theorem dX3_takeSemicolon_42 : decode cX3_takeSemicolon 42 = .ok (.iaload, 1) := by decide +kernel
theorem dX3_takeSemicolon_43 : decode cX3_takeSemicolon 43 = .ok (.bipush 59, 2) := by decide +kernel
theorem dX3_takeSemicolon_45 : decode cX3_takeSemicolon 45 = .ok (.if_icmp .ne 10, 3) := by decide +kernel
theorem dX3_takeSemicolon_48 : decode cX3_takeSemicolon 48 = .ok (.aload_n 0, 1) := by decide +kernel
theorem dX3_takeSemicolon_49 : decode cX3_takeSemicolon 49 = .ok (.invokevirtual 25, 3) := by decide +kernel
theorem dX3_takeSemicolon_52 : decode cX3_takeSemicolon 52 = .ok (.goto 7, 3) := by decide +kernel
theorem dX3_takeSemicolon_55 : decode cX3_takeSemicolon 55 = .ok (.aload_n 0, 1) := by decide +kernel
theorem dX3_takeSemicolon_56 : decode cX3_takeSemicolon 56 = .ok (.invokevirtual 67, 3) := by decide +kernel
theorem dX3_takeSemicolon_59 : decode cX3_takeSemicolon 59 = .ok (.return_, 1) := by decide +kernel
theorem dX3_fail_0 : decode cX3_fail 0 = .ok (.aload_n 0, 1) := by decide +kernel
theorem dX3_fail_1 : decode cX3_fail 1 = .ok (.getfield 19, 3) := by decide +kernel
theorem dX3_fail_4 : decode cX3_fail 4 = .ok (.iconst (-1), 1) := by decide +kernel
theorem dX3_fail_5 : decode cX3_fail 5 = .ok (.if_icmp .ne 11, 3) := by decide +kernel
theorem dX3_fail_8 : decode cX3_fail 8 = .ok (.aload_n 0, 1) := by decide +kernel
theorem dX3_fail_9 : decode cX3_fail 9 = .ok (.aload_n 0, 1) := by decide +kernel
theorem dX3_fail_10 : decode cX3_fail 10 = .ok (.getfield 94, 3) := by decide +kernel
theorem dX3_fail_13 : decode cX3_fail 13 = .ok (.putfield 19, 3) := by decide +kernel
theorem dX3_fail_16 : decode cX3_fail 16 = .ok (.return_, 1) := by decide +kernel
set_option maxRecDepth 20000 in
theorem ggX3_readSign_X3_sortAt : GoodIn wsX3_readSign wsX3_sortAt := goodIn_r _ [10, 3, 4, 11, 12, 13, 14, 15, 16] (by decide +kernel) (by decide +kernel)
set_option maxRecDepth 20000 in
theorem gX3_readSign_X3_sortAt : GoodIn wsX3_readSign (wsV RX3 97 RX3 yX3_sortAt wsX3_sortAt) := goodIn_app (goodIn_of _ (by decide +kernel)) ggX3_readSign_X3_sortAt
theorem dX3_readSign_0 : decode cX3_readSign 0 = .ok (.aload_n 0, 1) := by decide +kernel
theorem dX3_readSign_1 : decode cX3_readSign 1 = .ok (.aload_n 0, 1) := by decide +kernel
theorem dX3_readSign_2 : decode cX3_readSign 2 = .ok (.getfield 22, 3) := by decide +kernel
theorem dX3_readSign_5 : decode cX3_readSign 5 = .ok (.putfield 94, 3) := by decide +kernel
theorem dX3_readSign_8 : decode cX3_readSign 8 = .ok (.aload_n 0, 1) := by decide +kernel
theorem dX3_readSign_9 : decode cX3_readSign 9 = .ok (.getfield 94, 3) := by decide +kernel
theorem dX3_readSign_12 : decode cX3_readSign 12 = .ok (.aload_n 0, 1) := by decide +kernel
theorem dX3_readSign_13 : decode cX3_readSign 13 = .ok (.getfield 15, 3) := by decide +kernel
theorem dX3_readSign_16 : decode cX3_readSign 16 = .ok (.if_icmp .ge 30, 3) := by decide +kernel
theorem dX3_readSign_19 : decode cX3_readSign 19 = .ok (.aload_n 0, 1) := by decide +kernel
theorem dX3_readSign_20 : decode cX3_readSign 20 = .ok (.getfield 11, 3) := by decide +kernel
theorem dX3_readSign_23 : decode cX3_readSign 23 = .ok (.aload_n 0, 1) := by decide +kernel
theorem dX3_readSign_24 : decode cX3_readSign 24 = .ok (.getfield 94, 3) := by decide +kernel
theorem dX3_readSign_27 : decode cX3_readSign 27 = .ok (.iaload, 1) := by decide +kernel
theorem dX3_readSign_28 : decode cX3_readSign 28 = .ok (.bipush 32, 2) := by decide +kernel
theorem dX3_readSign_30 : decode cX3_readSign 30 = .ok (.if_icmp .ne 16, 3) := by decide +kernel
theorem dX3_readSign_33 : decode cX3_readSign 33 = .ok (.aload_n 0, 1) := by decide +kernel
theorem dX3_readSign_34 : decode cX3_readSign 34 = .ok (.dup, 1) := by decide +kernel
theorem dX3_readSign_35 : decode cX3_readSign 35 = .ok (.getfield 94, 3) := by decide +kernel
theorem dX3_readSign_38 : decode cX3_readSign 38 = .ok (.iconst 1, 1) := by decide +kernel
theorem dX3_readSign_39 : decode cX3_readSign 39 = .ok (.iadd, 1) := by decide +kernel
theorem dX3_readSign_40 : decode cX3_readSign 40 = .ok (.putfield 94, 3) := by decide +kernel
theorem dX3_readSign_43 : decode cX3_readSign 43 = .ok (.goto (-35), 3) := by decide +kernel
theorem dX3_readSign_46 : decode cX3_readSign 46 = .ok (.aload_n 0, 1) := by decide +kernel
theorem dX3_readSign_47 : decode cX3_readSign 47 = .ok (.aload_n 0, 1) := by decide +kernel
theorem dX3_readSign_48 : decode cX3_readSign 48 = .ok (.getfield 94, 3) := by decide +kernel
theorem dX3_readSign_51 : decode cX3_readSign 51 = .ok (.putfield 22, 3) := by decide +kernel
theorem dX3_readSign_54 : decode cX3_readSign 54 = .ok (.aload_n 0, 1) := by decide +kernel
theorem dX3_readSign_55 : decode cX3_readSign 55 = .ok (.aload_n 0, 1) := by decide +kernel
theorem dX3_readSign_56 : decode cX3_readSign 56 = .ok (.aload_n 0, 1) := by decide +kernel
theorem dX3_readSign_57 : decode cX3_readSign 57 = .ok (.getfield 94, 3) := by decide +kernel
theorem dX3_readSign_60 : decode cX3_readSign 60 = .ok (.invokevirtual 97, 3) := by decide +kernel
theorem dX3_readSign_63 : decode cX3_readSign 63 = .ok (.putfield 28, 3) := by decide +kernel
theorem dX3_readSign_66 : decode cX3_readSign 66 = .ok (.aload_n 0, 1) := by decide +kernel
theorem dX3_readSign_67 : decode cX3_readSign 67 = .ok (.getfield 28, 3) := by decide +kernel
theorem dX3_readSign_70 : decode cX3_readSign 70 = .ok (.iconst 3, 1) := by decide +kernel
theorem dX3_readSign_71 : decode cX3_readSign 71 = .ok (.if_icmp .ne 13, 3) := by decide +kernel
theorem dX3_readSign_74 : decode cX3_readSign 74 = .ok (.aload_n 0, 1) := by decide +kernel
theorem dX3_readSign_75 : decode cX3_readSign 75 = .ok (.dup, 1) := by decide +kernel
theorem dX3_readSign_76 : decode cX3_readSign 76 = .ok (.getfield 22, 3) := by decide +kernel
theorem dX3_readSign_79 : decode cX3_readSign 79 = .ok (.iconst 1, 1) := by decide +kernel
theorem dX3_readSign_80 : decode cX3_readSign 80 = .ok (.iadd, 1) := by decide +kernel
theorem dX3_readSign_81 : decode cX3_readSign 81 = .ok (.putfield 22, 3) := by decide +kernel
theorem dX3_readSign_84 : decode cX3_readSign 84 = .ok (.aload_n 0, 1) := by decide +kernel
theorem dX3_readSign_85 : decode cX3_readSign 85 = .ok (.getfield 28, 3) := by decide +kernel
theorem dX3_readSign_88 : decode cX3_readSign 88 = .ok (.iconst 1, 1) := by decide +kernel
theorem dX3_readSign_89 : decode cX3_readSign 89 = .ok (.if_icmp .eq 11, 3) := by decide +kernel
theorem dX3_readSign_92 : decode cX3_readSign 92 = .ok (.aload_n 0, 1) := by decide +kernel
theorem dX3_readSign_93 : decode cX3_readSign 93 = .ok (.getfield 28, 3) := by decide +kernel
theorem dX3_readSign_96 : decode cX3_readSign 96 = .ok (.iconst 2, 1) := by decide +kernel
theorem dX3_readSign_97 : decode cX3_readSign 97 = .ok (.if_icmp .ne 42, 3) := by decide +kernel
theorem dX3_readSign_100 : decode cX3_readSign 100 = .ok (.aload_n 0, 1) := by decide +kernel
theorem dX3_readSign_101 : decode cX3_readSign 101 = .ok (.getfield 22, 3) := by decide +kernel
theorem dX3_readSign_104 : decode cX3_readSign 104 = .ok (.aload_n 0, 1) := by decide +kernel
theorem dX3_readSign_105 : decode cX3_readSign 105 = .ok (.getfield 15, 3) := by decide +kernel
theorem dX3_readSign_108 : decode cX3_readSign 108 = .ok (.if_icmp .ge 31, 3) := by decide +kernel
theorem dX3_readSign_111 : decode cX3_readSign 111 = .ok (.aload_n 0, 1) := by decide +kernel
theorem dX3_readSign_112 : decode cX3_readSign 112 = .ok (.aload_n 0, 1) := by decide +kernel
theorem dX3_readSign_113 : decode cX3_readSign 113 = .ok (.getfield 22, 3) := by decide +kernel
theorem dX3_readSign_116 : decode cX3_readSign 116 = .ok (.invokevirtual 97, 3) := by decide +kernel
theorem dX3_readSign_119 : decode cX3_readSign 119 = .ok (.aload_n 0, 1) := by decide +kernel
theorem dX3_readSign_120 : decode cX3_readSign 120 = .ok (.getfield 28, 3) := by decide +kernel
theorem dX3_readSign_123 : decode cX3_readSign 123 = .ok (.if_icmp .ne 16, 3) := by decide +kernel
theorem dX3_readSign_126 : decode cX3_readSign 126 = .ok (.aload_n 0, 1) := by decide +kernel
theorem dX3_readSign_127 : decode cX3_readSign 127 = .ok (.dup, 1) := by decide +kernel
theorem dX3_readSign_128 : decode cX3_readSign 128 = .ok (.getfield 22, 3) := by decide +kernel
theorem dX3_readSign_131 : decode cX3_readSign 131 = .ok (.iconst 1, 1) := by decide +kernel
theorem dX3_readSign_132 : decode cX3_readSign 132 = .ok (.iadd, 1) := by decide +kernel
theorem dX3_readSign_133 : decode cX3_readSign 133 = .ok (.putfield 22, 3) := by decide +kernel
theorem dX3_readSign_136 : decode cX3_readSign 136 = .ok (.goto (-52), 3) := by decide +kernel
theorem dX3_readSign_139 : decode cX3_readSign 139 = .ok (.return_, 1) := by decide +kernel
theorem dX3_sortAt_0 : decode cX3_sortAt 0 = .ok (.iload_n 1, 1) := by decide +kernel
theorem dX3_sortAt_1 : decode cX3_sortAt 1 = .ok (.ifCond .lt 11, 3) := by decide +kernel
theorem dX3_sortAt_4 : decode cX3_sortAt 4 = .ok (.iload_n 1, 1) := by decide +kernel
theorem dX3_sortAt_5 : decode cX3_sortAt 5 = .ok (.aload_n 0, 1) := by decide +kernel
theorem dX3_sortAt_6 : decode cX3_sortAt 6 = .ok (.getfield 15, 3) := by decide +kernel
theorem dX3_sortAt_9 : decode cX3_sortAt 9 = .ok (.if_icmp .lt 5, 3) := by decide +kernel
theorem dX3_sortAt_12 : decode cX3_sortAt 12 = .ok (.iconst 0, 1) := by decide +kernel
theorem dX3_sortAt_13 : decode cX3_sortAt 13 = .ok (.ireturn, 1) := by decide +kernel
theorem dX3_sortAt_14 : decode cX3_sortAt 14 = .ok (.aload_n 0, 1) := by decide +kernel
theorem dX3_sortAt_15 : decode cX3_sortAt 15 = .ok (.getfield 11, 3) := by decide +kernel
theorem dX3_sortAt_18 : decode cX3_sortAt 18 = .ok (.iload_n 1, 1) := by decide +kernel
theorem dX3_sortAt_19 : decode cX3_sortAt 19 = .ok (.iaload, 1) := by decide +kernel
theorem dX3_sortAt_20 : decode cX3_sortAt 20 = .ok (.istore_n 2, 1) := by decide +kernel
theorem dX3_sortAt_21 : decode cX3_sortAt 21 = .ok (.iload_n 2, 1) := by decide +kernel
theorem dX3_sortAt_22 : decode cX3_sortAt 22 = .ok (.bipush 97, 2) := by decide +kernel
theorem dX3_sortAt_24 : decode cX3_sortAt 24 = .ok (.if_icmp .lt 11, 3) := by decide +kernel
theorem dX3_sortAt_27 : decode cX3_sortAt 27 = .ok (.iload_n 2, 1) := by decide +kernel
theorem dX3_sortAt_28 : decode cX3_sortAt 28 = .ok (.bipush 122, 2) := by decide +kernel
theorem dX3_sortAt_30 : decode cX3_sortAt 30 = .ok (.if_icmp .gt 5, 3) := by decide +kernel
theorem dX3_sortAt_33 : decode cX3_sortAt 33 = .ok (.iconst 1, 1) := by decide +kernel
theorem dX3_sortAt_34 : decode cX3_sortAt 34 = .ok (.ireturn, 1) := by decide +kernel
theorem dX3_sortAt_35 : decode cX3_sortAt 35 = .ok (.iload_n 2, 1) := by decide +kernel
theorem dX3_sortAt_36 : decode cX3_sortAt 36 = .ok (.bipush 48, 2) := by decide +kernel
theorem dX3_sortAt_38 : decode cX3_sortAt 38 = .ok (.if_icmp .lt 13, 3) := by decide +kernel
theorem dX3_sortAt_41 : decode cX3_sortAt 41 = .ok (.iload_n 2, 1) := by decide +kernel
theorem dX3_sortAt_42 : decode cX3_sortAt 42 = .ok (.bipush 57, 2) := by decide +kernel
theorem dX3_sortAt_44 : decode cX3_sortAt 44 = .ok (.if_icmp .gt 7, 3) := by decide +kernel
theorem dX3_sortAt_47 : decode cX3_sortAt 47 = .ok (.iconst 2, 1) := by decide +kernel
theorem dX3_sortAt_48 : decode cX3_sortAt 48 = .ok (.goto 4, 3) := by decide +kernel
theorem dX3_sortAt_51 : decode cX3_sortAt 51 = .ok (.iconst 3, 1) := by decide +kernel
theorem dX3_sortAt_52 : decode cX3_sortAt 52 = .ok (.ireturn, 1) := by decide +kernel
theorem dX3_numberRead_0 : decode cX3_numberRead 0 = .ok (.aload_n 0, 1) := by decide +kernel
theorem dX3_numberRead_1 : decode cX3_numberRead 1 = .ok (.getfield 28, 3) := by decide +kernel
theorem dX3_numberRead_4 : decode cX3_numberRead 4 = .ok (.iconst 2, 1) := by decide +kernel
theorem dX3_numberRead_5 : decode cX3_numberRead 5 = .ok (.if_icmp .ne 16, 3) := by decide +kernel
theorem dX3_numberRead_8 : decode cX3_numberRead 8 = .ok (.aload_n 0, 1) := by decide +kernel
theorem dX3_numberRead_9 : decode cX3_numberRead 9 = .ok (.getfield 22, 3) := by decide +kernel
theorem dX3_numberRead_12 : decode cX3_numberRead 12 = .ok (.aload_n 0, 1) := by decide +kernel
theorem dX3_numberRead_13 : decode cX3_numberRead 13 = .ok (.getfield 94, 3) := by decide +kernel
theorem dX3_numberRead_16 : decode cX3_numberRead 16 = .ok (.isub, 1) := by decide +kernel
theorem dX3_numberRead_17 : decode cX3_numberRead 17 = .ok (.iconst 3, 1) := by decide +kernel
theorem dX3_numberRead_18 : decode cX3_numberRead 18 = .ok (.if_icmp .le 5, 3) := by decide +kernel
theorem dX3_numberRead_21 : decode cX3_numberRead 21 = .ok (.iconst (-1), 1) := by decide +kernel
theorem dX3_numberRead_22 : decode cX3_numberRead 22 = .ok (.ireturn, 1) := by decide +kernel
theorem dX3_numberRead_23 : decode cX3_numberRead 23 = .ok (.iconst 0, 1) := by decide +kernel
theorem dX3_numberRead_24 : decode cX3_numberRead 24 = .ok (.istore_n 1, 1) := by decide +kernel
theorem dX3_numberRead_25 : decode cX3_numberRead 25 = .ok (.aload_n 0, 1) := by decide +kernel
theorem dX3_numberRead_26 : decode cX3_numberRead 26 = .ok (.getfield 94, 3) := by decide +kernel
theorem dX3_numberRead_29 : decode cX3_numberRead 29 = .ok (.istore_n 2, 1) := by decide +kernel
theorem dX3_numberRead_30 : decode cX3_numberRead 30 = .ok (.iload_n 2, 1) := by decide +kernel
theorem dX3_numberRead_31 : decode cX3_numberRead 31 = .ok (.aload_n 0, 1) := by decide +kernel
theorem dX3_numberRead_32 : decode cX3_numberRead 32 = .ok (.getfield 22, 3) := by decide +kernel
theorem dX3_numberRead_35 : decode cX3_numberRead 35 = .ok (.if_icmp .ge 32, 3) := by decide +kernel
theorem dX3_numberRead_38 : decode cX3_numberRead 38 = .ok (.iload_n 2, 1) := by decide +kernel
theorem dX3_numberRead_39 : decode cX3_numberRead 39 = .ok (.aload_n 0, 1) := by decide +kernel
theorem dX3_numberRead_40 : decode cX3_numberRead 40 = .ok (.getfield 15, 3) := by decide +kernel
theorem dX3_numberRead_43 : decode cX3_numberRead 43 = .ok (.if_icmp .ge 24, 3) := by decide +kernel
theorem dX3_numberRead_46 : decode cX3_numberRead 46 = .ok (.iload_n 1, 1) := by decide +kernel
theorem dX3_numberRead_47 : decode cX3_numberRead 47 = .ok (.bipush 10, 2) := by decide +kernel
theorem dX3_numberRead_49 : decode cX3_numberRead 49 = .ok (.imul, 1) := by decide +kernel
theorem dX3_numberRead_50 : decode cX3_numberRead 50 = .ok (.aload_n 0, 1) := by decide +kernel
theorem dX3_numberRead_51 : decode cX3_numberRead 51 = .ok (.getfield 11, 3) := by decide +kernel
theorem dX3_numberRead_54 : decode cX3_numberRead 54 = .ok (.iload_n 2, 1) := by decide +kernel
theorem dX3_numberRead_55 : decode cX3_numberRead 55 = .ok (.iaload, 1) := by decide +kernel
theorem dX3_numberRead_56 : decode cX3_numberRead 56 = .ok (.iadd, 1) := by decide +kernel
theorem dX3_numberRead_57 : decode cX3_numberRead 57 = .ok (.bipush 48, 2) := by decide +kernel
theorem dX3_numberRead_59 : decode cX3_numberRead 59 = .ok (.isub, 1) := by decide +kernel
theorem dX3_numberRead_60 : decode cX3_numberRead 60 = .ok (.istore_n 1, 1) := by decide +kernel
theorem dX3_numberRead_61 : decode cX3_numberRead 61 = .ok (.iinc 2 1, 3) := by decide +kernel
theorem dX3_numberRead_64 : decode cX3_numberRead 64 = .ok (.goto (-34), 3) := by decide +kernel
theorem dX3_numberRead_67 : decode cX3_numberRead 67 = .ok (.iload_n 1, 1) := by decide +kernel
theorem dX3_numberRead_68 : decode cX3_numberRead 68 = .ok (.ireturn, 1) := by decide +kernel
set_option maxRecDepth 20000 in
theorem ggX3_isName_J0_length_8abf5 : GoodIn wsX3_isName wsJ0_length_8abf5 := goodIn_r _ [10, 11, 12, 13, 14, 9, 15, 16, 17] (by decide +kernel) (by decide +kernel)
set_option maxRecDepth 20000 in
theorem gX3_isName_J0_length_8abf5 : GoodIn wsX3_isName (wsV RX3 101 RJ0 yJ0_length_8abf5 wsJ0_length_8abf5) := goodIn_app (goodIn_of _ (by decide +kernel)) ggX3_isName_J0_length_8abf5
set_option maxRecDepth 20000 in
theorem ggX3_isName_J0_charAt_5068e : GoodIn wsX3_isName wsJ0_charAt_5068e := goodIn_r _ [21, 11, 22, 23, 24, 9, 25, 16, 17, 26, 27, 28, 29, 30, 31, 32, 33, 34, 35, 36, 37, 38, 39, 40, 41, 42, 43, 44, 45, 46, 47, 48, 49, 50, 51, 52, 53, 54] (by decide +kernel) (by decide +kernel)
set_option maxRecDepth 20000 in
theorem gX3_isName_J0_charAt_5068e : GoodIn wsX3_isName (wsV RX3 106 RJ0 yJ0_charAt_5068e wsJ0_charAt_5068e) := goodIn_app (goodIn_of _ (by decide +kernel)) ggX3_isName_J0_charAt_5068e
theorem dX3_isName_0 : decode cX3_isName 0 = .ok (.aload_n 0, 1) := by decide +kernel
theorem dX3_isName_1 : decode cX3_isName 1 = .ok (.getfield 28, 3) := by decide +kernel
theorem dX3_isName_4 : decode cX3_isName 4 = .ok (.iconst 1, 1) := by decide +kernel
theorem dX3_isName_5 : decode cX3_isName 5 = .ok (.if_icmp .ne 30, 3) := by decide +kernel
theorem dX3_isName_8 : decode cX3_isName 8 = .ok (.aload_n 0, 1) := by decide +kernel
theorem dX3_isName_9 : decode cX3_isName 9 = .ok (.getfield 22, 3) := by decide +kernel
theorem dX3_isName_12 : decode cX3_isName 12 = .ok (.aload_n 0, 1) := by decide +kernel
theorem dX3_isName_13 : decode cX3_isName 13 = .ok (.getfield 94, 3) := by decide +kernel
theorem dX3_isName_16 : decode cX3_isName 16 = .ok (.isub, 1) := by decide +kernel
theorem dX3_isName_17 : decode cX3_isName 17 = .ok (.aload_n 1, 1) := by decide +kernel
theorem dX3_isName_18 : decode cX3_isName 18 = .ok (.invokevirtual 101, 3) := by decide +kernel
theorem dX3_isName_21 : decode cX3_isName 21 = .ok (.if_icmp .ne 14, 3) := by decide +kernel
theorem dX3_isName_24 : decode cX3_isName 24 = .ok (.aload_n 0, 1) := by decide +kernel
theorem dX3_isName_25 : decode cX3_isName 25 = .ok (.getfield 22, 3) := by decide +kernel
theorem dX3_isName_28 : decode cX3_isName 28 = .ok (.aload_n 0, 1) := by decide +kernel
theorem dX3_isName_29 : decode cX3_isName 29 = .ok (.getfield 15, 3) := by decide +kernel
theorem dX3_isName_32 : decode cX3_isName 32 = .ok (.if_icmp .le 5, 3) := by decide +kernel
theorem dX3_isName_35 : decode cX3_isName 35 = .ok (.iconst 0, 1) := by decide +kernel
theorem dX3_isName_36 : decode cX3_isName 36 = .ok (.ireturn, 1) := by decide +kernel
theorem dX3_isName_37 : decode cX3_isName 37 = .ok (.iconst 0, 1) := by decide +kernel
theorem dX3_isName_38 : decode cX3_isName 38 = .ok (.istore_n 2, 1) := by decide +kernel
theorem dX3_isName_39 : decode cX3_isName 39 = .ok (.iload_n 2, 1) := by decide +kernel
theorem dX3_isName_40 : decode cX3_isName 40 = .ok (.aload_n 1, 1) := by decide +kernel
theorem dX3_isName_41 : decode cX3_isName 41 = .ok (.invokevirtual 101, 3) := by decide +kernel
theorem dX3_isName_44 : decode cX3_isName 44 = .ok (.if_icmp .ge 30, 3) := by decide +kernel
theorem dX3_isName_47 : decode cX3_isName 47 = .ok (.aload_n 0, 1) := by decide +kernel
theorem dX3_isName_48 : decode cX3_isName 48 = .ok (.getfield 11, 3) := by decide +kernel
theorem dX3_isName_51 : decode cX3_isName 51 = .ok (.aload_n 0, 1) := by decide +kernel
theorem dX3_isName_52 : decode cX3_isName 52 = .ok (.getfield 94, 3) := by decide +kernel
theorem dX3_isName_55 : decode cX3_isName 55 = .ok (.iload_n 2, 1) := by decide +kernel
theorem dX3_isName_56 : decode cX3_isName 56 = .ok (.iadd, 1) := by decide +kernel
theorem dX3_isName_57 : decode cX3_isName 57 = .ok (.iaload, 1) := by decide +kernel
theorem dX3_isName_58 : decode cX3_isName 58 = .ok (.aload_n 1, 1) := by decide +kernel
theorem dX3_isName_59 : decode cX3_isName 59 = .ok (.iload_n 2, 1) := by decide +kernel
theorem dX3_isName_60 : decode cX3_isName 60 = .ok (.invokevirtual 106, 3) := by decide +kernel
theorem dX3_isName_63 : decode cX3_isName 63 = .ok (.if_icmp .eq 5, 3) := by decide +kernel
theorem dX3_isName_66 : decode cX3_isName 66 = .ok (.iconst 0, 1) := by decide +kernel
theorem dX3_isName_67 : decode cX3_isName 67 = .ok (.ireturn, 1) := by decide +kernel
theorem dX3_isName_68 : decode cX3_isName 68 = .ok (.iinc 2 1, 3) := by decide +kernel
theorem dX3_isName_71 : decode cX3_isName 71 = .ok (.goto (-32), 3) := by decide +kernel
theorem dX3_isName_74 : decode cX3_isName 74 = .ok (.iconst 1, 1) := by decide +kernel
theorem dX3_isName_75 : decode cX3_isName 75 = .ok (.ireturn, 1) := by decide +kernel
set_option maxRecDepth 20000 in
theorem ggX3_kindNamed_X3_isName : GoodIn wsX3_kindNamed wsX3_isName := goodIn_r _ [5, 6, 7, 8, 9, 10, 11, 12, 13, 14, 15, 16, 17, 18, 19, 20, 21, 22, 23, 24, 25, 26, 27, 28, 29, 30, 31, 32, 33, 34, 35, 36, 37, 38, 39, 40, 41, 42, 43, 44, 45, 46, 47, 48, 49, 50, 51, 52, 53, 54, 55, 56, 57, 58, 59, 60, 61, 62, 63, 64, 65] (by decide +kernel) (by decide +kernel)
set_option maxRecDepth 20000 in
theorem gX3_kindNamed_X3_isName : GoodIn wsX3_kindNamed (wsV RX3 84 RX3 yX3_isName wsX3_isName) := goodIn_app (goodIn_of _ (by decide +kernel)) ggX3_kindNamed_X3_isName
theorem dX3_kindNamed_0 : decode cX3_kindNamed 0 = .ok (.aload_n 0, 1) := by decide +kernel
theorem dX3_kindNamed_1 : decode cX3_kindNamed 1 = .ok (.ldc 110, 2) := by decide +kernel
theorem dX3_kindNamed_3 : decode cX3_kindNamed 3 = .ok (.invokevirtual 84, 3) := by decide +kernel
theorem dX3_kindNamed_6 : decode cX3_kindNamed 6 = .ok (.ifCond .eq 7, 3) := by decide +kernel
theorem dX3_kindNamed_9 : decode cX3_kindNamed 9 = .ok (.iconst 0, 1) := by decide +kernel
theorem dX3_kindNamed_10 : decode cX3_kindNamed 10 = .ok (.goto 69, 3) := by decide +kernel
theorem dX3_kindNamed_13 : decode cX3_kindNamed 13 = .ok (.aload_n 0, 1) := by decide +kernel
theorem dX3_kindNamed_14 : decode cX3_kindNamed 14 = .ok (.ldc 112, 2) := by decide +kernel
theorem dX3_kindNamed_16 : decode cX3_kindNamed 16 = .ok (.invokevirtual 84, 3) := by decide +kernel
theorem dX3_kindNamed_19 : decode cX3_kindNamed 19 = .ok (.ifCond .eq 7, 3) := by decide +kernel
theorem dX3_kindNamed_22 : decode cX3_kindNamed 22 = .ok (.iconst 1, 1) := by decide +kernel
theorem dX3_kindNamed_23 : decode cX3_kindNamed 23 = .ok (.goto 56, 3) := by decide +kernel
theorem dX3_kindNamed_26 : decode cX3_kindNamed 26 = .ok (.aload_n 0, 1) := by decide +kernel
theorem dX3_kindNamed_27 : decode cX3_kindNamed 27 = .ok (.ldc 114, 2) := by decide +kernel
theorem dX3_kindNamed_29 : decode cX3_kindNamed 29 = .ok (.invokevirtual 84, 3) := by decide +kernel
theorem dX3_kindNamed_32 : decode cX3_kindNamed 32 = .ok (.ifCond .eq 7, 3) := by decide +kernel
theorem dX3_kindNamed_35 : decode cX3_kindNamed 35 = .ok (.iconst 2, 1) := by decide +kernel
theorem dX3_kindNamed_36 : decode cX3_kindNamed 36 = .ok (.goto 43, 3) := by decide +kernel
theorem dX3_kindNamed_39 : decode cX3_kindNamed 39 = .ok (.aload_n 0, 1) := by decide +kernel
theorem dX3_kindNamed_40 : decode cX3_kindNamed 40 = .ok (.ldc 116, 2) := by decide +kernel
theorem dX3_kindNamed_42 : decode cX3_kindNamed 42 = .ok (.invokevirtual 84, 3) := by decide +kernel
theorem dX3_kindNamed_45 : decode cX3_kindNamed 45 = .ok (.ifCond .eq 7, 3) := by decide +kernel
theorem dX3_kindNamed_48 : decode cX3_kindNamed 48 = .ok (.iconst 3, 1) := by decide +kernel
theorem dX3_kindNamed_49 : decode cX3_kindNamed 49 = .ok (.goto 30, 3) := by decide +kernel
theorem dX3_kindNamed_52 : decode cX3_kindNamed 52 = .ok (.aload_n 0, 1) := by decide +kernel
theorem dX3_kindNamed_53 : decode cX3_kindNamed 53 = .ok (.ldc 118, 2) := by decide +kernel
theorem dX3_kindNamed_55 : decode cX3_kindNamed 55 = .ok (.invokevirtual 84, 3) := by decide +kernel
theorem dX3_kindNamed_58 : decode cX3_kindNamed 58 = .ok (.ifCond .eq 7, 3) := by decide +kernel
theorem dX3_kindNamed_61 : decode cX3_kindNamed 61 = .ok (.iconst 4, 1) := by decide +kernel
theorem dX3_kindNamed_62 : decode cX3_kindNamed 62 = .ok (.goto 17, 3) := by decide +kernel
theorem dX3_kindNamed_65 : decode cX3_kindNamed 65 = .ok (.aload_n 0, 1) := by decide +kernel
theorem dX3_kindNamed_66 : decode cX3_kindNamed 66 = .ok (.ldc 120, 2) := by decide +kernel
theorem dX3_kindNamed_68 : decode cX3_kindNamed 68 = .ok (.invokevirtual 84, 3) := by decide +kernel
theorem dX3_kindNamed_71 : decode cX3_kindNamed 71 = .ok (.ifCond .eq 7, 3) := by decide +kernel
theorem dX3_kindNamed_74 : decode cX3_kindNamed 74 = .ok (.iconst 5, 1) := by decide +kernel
theorem dX3_kindNamed_75 : decode cX3_kindNamed 75 = .ok (.goto 4, 3) := by decide +kernel
theorem dX3_kindNamed_78 : decode cX3_kindNamed 78 = .ok (.iconst (-1), 1) := by decide +kernel
theorem dX3_kindNamed_79 : decode cX3_kindNamed 79 = .ok (.ireturn, 1) := by decide +kernel
set_option maxRecDepth 20000 in
theorem ggX3_lawNamed_X3_isName : GoodIn wsX3_lawNamed wsX3_isName := goodIn_r _ [5, 6, 7, 8, 9, 10, 11, 12, 13, 14, 15, 16, 17, 18, 19, 20, 21, 22, 23, 24, 25, 26, 27, 28, 29, 30, 31, 32, 33, 34, 35, 36, 37, 38, 39, 40, 41, 42, 43, 44, 45, 46, 47, 48, 49, 50, 51, 52, 53, 54, 55, 56, 57, 58, 59, 60, 61, 62, 63, 64, 65] (by decide +kernel) (by decide +kernel)
set_option maxRecDepth 20000 in
theorem gX3_lawNamed_X3_isName : GoodIn wsX3_lawNamed (wsV RX3 84 RX3 yX3_isName wsX3_isName) := goodIn_app (goodIn_of _ (by decide +kernel)) ggX3_lawNamed_X3_isName
theorem dX3_lawNamed_0 : decode cX3_lawNamed 0 = .ok (.aload_n 0, 1) := by decide +kernel
theorem dX3_lawNamed_1 : decode cX3_lawNamed 1 = .ok (.ldc 122, 2) := by decide +kernel
theorem dX3_lawNamed_3 : decode cX3_lawNamed 3 = .ok (.invokevirtual 84, 3) := by decide +kernel
theorem dX3_lawNamed_6 : decode cX3_lawNamed 6 = .ok (.ifCond .eq 7, 3) := by decide +kernel
theorem dX3_lawNamed_9 : decode cX3_lawNamed 9 = .ok (.iconst 0, 1) := by decide +kernel
theorem dX3_lawNamed_10 : decode cX3_lawNamed 10 = .ok (.goto 43, 3) := by decide +kernel
theorem dX3_lawNamed_13 : decode cX3_lawNamed 13 = .ok (.aload_n 0, 1) := by decide +kernel
theorem dX3_lawNamed_14 : decode cX3_lawNamed 14 = .ok (.ldc 124, 2) := by decide +kernel
theorem dX3_lawNamed_16 : decode cX3_lawNamed 16 = .ok (.invokevirtual 84, 3) := by decide +kernel
theorem dX3_lawNamed_19 : decode cX3_lawNamed 19 = .ok (.ifCond .eq 7, 3) := by decide +kernel
theorem dX3_lawNamed_22 : decode cX3_lawNamed 22 = .ok (.iconst 1, 1) := by decide +kernel
theorem dX3_lawNamed_23 : decode cX3_lawNamed 23 = .ok (.goto 30, 3) := by decide +kernel
theorem dX3_lawNamed_26 : decode cX3_lawNamed 26 = .ok (.aload_n 0, 1) := by decide +kernel
theorem dX3_lawNamed_27 : decode cX3_lawNamed 27 = .ok (.ldc 126, 2) := by decide +kernel
theorem dX3_lawNamed_29 : decode cX3_lawNamed 29 = .ok (.invokevirtual 84, 3) := by decide +kernel
theorem dX3_lawNamed_32 : decode cX3_lawNamed 32 = .ok (.ifCond .eq 7, 3) := by decide +kernel
theorem dX3_lawNamed_35 : decode cX3_lawNamed 35 = .ok (.iconst 2, 1) := by decide +kernel
theorem dX3_lawNamed_36 : decode cX3_lawNamed 36 = .ok (.goto 17, 3) := by decide +kernel
theorem dX3_lawNamed_39 : decode cX3_lawNamed 39 = .ok (.aload_n 0, 1) := by decide +kernel
theorem dX3_lawNamed_40 : decode cX3_lawNamed 40 = .ok (.ldc 128, 2) := by decide +kernel
theorem dX3_lawNamed_42 : decode cX3_lawNamed 42 = .ok (.invokevirtual 84, 3) := by decide +kernel
theorem dX3_lawNamed_45 : decode cX3_lawNamed 45 = .ok (.ifCond .eq 7, 3) := by decide +kernel
theorem dX3_lawNamed_48 : decode cX3_lawNamed 48 = .ok (.iconst 3, 1) := by decide +kernel
theorem dX3_lawNamed_49 : decode cX3_lawNamed 49 = .ok (.goto 4, 3) := by decide +kernel
theorem dX3_lawNamed_52 : decode cX3_lawNamed 52 = .ok (.iconst (-1), 1) := by decide +kernel
theorem dX3_lawNamed_53 : decode cX3_lawNamed 53 = .ok (.ireturn, 1) := by decide +kernel
set_option maxRecDepth 20000 in
theorem ggX4_init_X4_clear : GoodIn wsX4_init wsX4_clear := goodIn_r _ [16, 5, 17, 18, 19, 20, 21, 22, 23, 24, 25, 15, 26, 27, 28, 29, 10, 30, 31, 32, 33, 34, 35, 36, 37, 38, 39, 40, 41] (by decide +kernel) (by decide +kernel)
set_option maxRecDepth 20000 in
theorem gX4_init_X4_clear : GoodIn wsX4_init (wsV RX4 34 RX4 yX4_clear wsX4_clear) := goodIn_app (goodIn_of _ (by decide +kernel)) ggX4_init_X4_clear
theorem dX4_init_0 : decode cX4_init 0 = .ok (.aload_n 0, 1) := by decide +kernel
theorem dX4_init_1 : decode cX4_init 1 = .ok (.invokespecial 3, 3) := by decide +kernel
theorem dX4_init_4 : decode cX4_init 4 = .ok (.aload_n 0, 1) := by decide +kernel
theorem dX4_init_5 : decode cX4_init 5 = .ok (.iconst 4, 1) := by decide +kernel
theorem dX4_init_6 : decode cX4_init 6 = .ok (.newarray .int, 2) := by decide +kernel
theorem dX4_init_8 : decode cX4_init 8 = .ok (.putfield 9, 3) := by decide +kernel
theorem dX4_init_11 : decode cX4_init 11 = .ok (.aload_n 0, 1) := by decide +kernel
theorem dX4_init_12 : decode cX4_init 12 = .ok (.bipush 8, 2) := by decide +kernel
theorem dX4_init_14 : decode cX4_init 14 = .ok (.newarray .int, 2) := by decide +kernel
theorem dX4_init_16 : decode cX4_init 16 = .ok (.putfield 15, 3) := by decide +kernel
theorem dX4_init_19 : decode cX4_init 19 = .ok (.aload_n 0, 1) := by decide +kernel
theorem dX4_init_20 : decode cX4_init 20 = .ok (.bipush 8, 2) := by decide +kernel
theorem dX4_init_22 : decode cX4_init 22 = .ok (.newarray .int, 2) := by decide +kernel
theorem dX4_init_24 : decode cX4_init 24 = .ok (.putfield 18, 3) := by decide +kernel
theorem dX4_init_27 : decode cX4_init 27 = .ok (.aload_n 0, 1) := by decide +kernel
theorem dX4_init_28 : decode cX4_init 28 = .ok (.bipush 8, 2) := by decide +kernel
theorem dX4_init_30 : decode cX4_init 30 = .ok (.newarray .int, 2) := by decide +kernel
theorem dX4_init_32 : decode cX4_init 32 = .ok (.putfield 21, 3) := by decide +kernel
theorem dX4_init_35 : decode cX4_init 35 = .ok (.aload_n 0, 1) := by decide +kernel
theorem dX4_init_36 : decode cX4_init 36 = .ok (.bipush 8, 2) := by decide +kernel
theorem dX4_init_38 : decode cX4_init 38 = .ok (.newarray .int, 2) := by decide +kernel
theorem dX4_init_40 : decode cX4_init 40 = .ok (.putfield 24, 3) := by decide +kernel
theorem dX4_init_43 : decode cX4_init 43 = .ok (.aload_n 0, 1) := by decide +kernel
theorem dX4_init_44 : decode cX4_init 44 = .ok (.bipush 8, 2) := by decide +kernel
theorem dX4_init_46 : decode cX4_init 46 = .ok (.newarray .int, 2) := by decide +kernel
theorem dX4_init_48 : decode cX4_init 48 = .ok (.putfield 27, 3) := by decide +kernel
theorem dX4_init_51 : decode cX4_init 51 = .ok (.aload_n 0, 1) := by decide +kernel
theorem dX4_init_52 : decode cX4_init 52 = .ok (.iconst 1, 1) := by decide +kernel
theorem dX4_init_53 : decode cX4_init 53 = .ok (.putfield 30, 3) := by decide +kernel
theorem dX4_init_56 : decode cX4_init 56 = .ok (.aload_n 0, 1) := by decide +kernel
theorem dX4_init_57 : decode cX4_init 57 = .ok (.invokevirtual 34, 3) := by decide +kernel
theorem dX4_init_60 : decode cX4_init 60 = .ok (.return_, 1) := by decide +kernel
set_option maxRecDepth 20000 in
theorem ggX4_clear_X4_forget : GoodIn wsX4_clear wsX4_forget := goodIn_r _ [12, 13, 14, 15, 16, 17, 18, 19, 20, 21, 22, 23, 24, 25, 26, 27, 28] (by decide +kernel) (by decide +kernel)
set_option maxRecDepth 20000 in
theorem gX4_clear_X4_forget : GoodIn wsX4_clear (wsV RX4 52 RX4 yX4_forget wsX4_forget) := goodIn_app (goodIn_of _ (by decide +kernel)) ggX4_clear_X4_forget
theorem dX4_clear_0 : decode cX4_clear 0 = .ok (.getstatic 37, 3) := by decide +kernel
theorem dX4_clear_3 : decode cX4_clear 3 = .ok (.iconst 0, 1) := by decide +kernel
theorem dX4_clear_4 : decode cX4_clear 4 = .ok (.aload_n 0, 1) := by decide +kernel
theorem dX4_clear_5 : decode cX4_clear 5 = .ok (.getfield 9, 3) := by decide +kernel
theorem dX4_clear_8 : decode cX4_clear 8 = .ok (.iconst 0, 1) := by decide +kernel
theorem dX4_clear_9 : decode cX4_clear 9 = .ok (.iconst 4, 1) := by decide +kernel
theorem dX4_clear_10 : decode cX4_clear 10 = .ok (.invokestatic 40, 3) := by decide +kernel
theorem dX4_clear_13 : decode cX4_clear 13 = .ok (.aload_n 0, 1) := by decide +kernel
theorem dX4_clear_14 : decode cX4_clear 14 = .ok (.iconst 0, 1) := by decide +kernel
theorem dX4_clear_15 : decode cX4_clear 15 = .ok (.putfield 46, 3) := by decide +kernel
theorem dX4_clear_18 : decode cX4_clear 18 = .ok (.aload_n 0, 1) := by decide +kernel
theorem dX4_clear_19 : decode cX4_clear 19 = .ok (.iconst 0, 1) := by decide +kernel
theorem dX4_clear_20 : decode cX4_clear 20 = .ok (.putfield 49, 3) := by decide +kernel
theorem dX4_clear_23 : decode cX4_clear 23 = .ok (.aload_n 0, 1) := by decide +kernel
theorem dX4_clear_24 : decode cX4_clear 24 = .ok (.invokevirtual 52, 3) := by decide +kernel
theorem dX4_clear_27 : decode cX4_clear 27 = .ok (.return_, 1) := by decide +kernel
theorem dX4_forget_0 : decode cX4_forget 0 = .ok (.aload_n 0, 1) := by decide +kernel
theorem dX4_forget_1 : decode cX4_forget 1 = .ok (.iconst 0, 1) := by decide +kernel
theorem dX4_forget_2 : decode cX4_forget 2 = .ok (.putfield 55, 3) := by decide +kernel
theorem dX4_forget_5 : decode cX4_forget 5 = .ok (.aload_n 0, 1) := by decide +kernel
theorem dX4_forget_6 : decode cX4_forget 6 = .ok (.iconst 0, 1) := by decide +kernel
theorem dX4_forget_7 : decode cX4_forget 7 = .ok (.putfield 58, 3) := by decide +kernel
theorem dX4_forget_10 : decode cX4_forget 10 = .ok (.aload_n 0, 1) := by decide +kernel
theorem dX4_forget_11 : decode cX4_forget 11 = .ok (.iconst 0, 1) := by decide +kernel
theorem dX4_forget_12 : decode cX4_forget 12 = .ok (.putfield 61, 3) := by decide +kernel
theorem dX4_forget_15 : decode cX4_forget 15 = .ok (.iconst 0, 1) := by decide +kernel
theorem dX4_forget_16 : decode cX4_forget 16 = .ok (.istore_n 1, 1) := by decide +kernel
theorem dX4_forget_17 : decode cX4_forget 17 = .ok (.iload_n 1, 1) := by decide +kernel
theorem dX4_forget_18 : decode cX4_forget 18 = .ok (.bipush 8, 2) := by decide +kernel
theorem dX4_forget_20 : decode cX4_forget 20 = .ok (.if_icmp .ge 16, 3) := by decide +kernel
theorem dX4_forget_23 : decode cX4_forget 23 = .ok (.aload_n 0, 1) := by decide +kernel
theorem dX4_forget_24 : decode cX4_forget 24 = .ok (.getfield 27, 3) := by decide +kernel
theorem dX4_forget_27 : decode cX4_forget 27 = .ok (.iload_n 1, 1) := by decide +kernel
theorem dX4_forget_28 : decode cX4_forget 28 = .ok (.iconst 0, 1) := by decide +kernel
theorem dX4_forget_29 : decode cX4_forget 29 = .ok (.iastore, 1) := by decide +kernel
theorem dX4_forget_30 : decode cX4_forget 30 = .ok (.iinc 1 1, 3) := by decide +kernel
theorem dX4_forget_33 : decode cX4_forget 33 = .ok (.goto (-16), 3) := by decide +kernel
theorem dX4_forget_36 : decode cX4_forget 36 = .ok (.return_, 1) := by decide +kernel
theorem dX4_copyFrom_0 : decode cX4_copyFrom 0 = .ok (.aload_n 1, 1) := by decide +kernel
theorem dX4_copyFrom_1 : decode cX4_copyFrom 1 = .ok (.getfield 9, 3) := by decide +kernel
theorem dX4_copyFrom_4 : decode cX4_copyFrom 4 = .ok (.iconst 0, 1) := by decide +kernel
theorem dX4_copyFrom_5 : decode cX4_copyFrom 5 = .ok (.aload_n 0, 1) := by decide +kernel
theorem dX4_copyFrom_6 : decode cX4_copyFrom 6 = .ok (.getfield 9, 3) := by decide +kernel
theorem dX4_copyFrom_9 : decode cX4_copyFrom 9 = .ok (.iconst 0, 1) := by decide +kernel
theorem dX4_copyFrom_10 : decode cX4_copyFrom 10 = .ok (.iconst 4, 1) := by decide +kernel
theorem dX4_copyFrom_11 : decode cX4_copyFrom 11 = .ok (.invokestatic 40, 3) := by decide +kernel
theorem dX4_copyFrom_14 : decode cX4_copyFrom 14 = .ok (.aload_n 1, 1) := by decide +kernel
theorem dX4_copyFrom_15 : decode cX4_copyFrom 15 = .ok (.getfield 15, 3) := by decide +kernel
theorem dX4_copyFrom_18 : decode cX4_copyFrom 18 = .ok (.iconst 0, 1) := by decide +kernel
theorem dX4_copyFrom_19 : decode cX4_copyFrom 19 = .ok (.aload_n 0, 1) := by decide +kernel
theorem dX4_copyFrom_20 : decode cX4_copyFrom 20 = .ok (.getfield 15, 3) := by decide +kernel
theorem dX4_copyFrom_23 : decode cX4_copyFrom 23 = .ok (.iconst 0, 1) := by decide +kernel
theorem dX4_copyFrom_24 : decode cX4_copyFrom 24 = .ok (.bipush 8, 2) := by decide +kernel
theorem dX4_copyFrom_26 : decode cX4_copyFrom 26 = .ok (.invokestatic 40, 3) := by decide +kernel
theorem dX4_copyFrom_29 : decode cX4_copyFrom 29 = .ok (.aload_n 1, 1) := by decide +kernel
theorem dX4_copyFrom_30 : decode cX4_copyFrom 30 = .ok (.getfield 18, 3) := by decide +kernel
theorem dX4_copyFrom_33 : decode cX4_copyFrom 33 = .ok (.iconst 0, 1) := by decide +kernel
theorem dX4_copyFrom_34 : decode cX4_copyFrom 34 = .ok (.aload_n 0, 1) := by decide +kernel
theorem dX4_copyFrom_35 : decode cX4_copyFrom 35 = .ok (.getfield 18, 3) := by decide +kernel
theorem dX4_copyFrom_38 : decode cX4_copyFrom 38 = .ok (.iconst 0, 1) := by decide +kernel
theorem dX4_copyFrom_39 : decode cX4_copyFrom 39 = .ok (.bipush 8, 2) := by decide +kernel
theorem dX4_copyFrom_41 : decode cX4_copyFrom 41 = .ok (.invokestatic 40, 3) := by decide +kernel
theorem dX4_copyFrom_44 : decode cX4_copyFrom 44 = .ok (.aload_n 1, 1) := by decide +kernel
theorem dX4_copyFrom_45 : decode cX4_copyFrom 45 = .ok (.getfield 21, 3) := by decide +kernel
theorem dX4_copyFrom_48 : decode cX4_copyFrom 48 = .ok (.iconst 0, 1) := by decide +kernel
theorem dX4_copyFrom_49 : decode cX4_copyFrom 49 = .ok (.aload_n 0, 1) := by decide +kernel
theorem dX4_copyFrom_50 : decode cX4_copyFrom 50 = .ok (.getfield 21, 3) := by decide +kernel
theorem dX4_copyFrom_53 : decode cX4_copyFrom 53 = .ok (.iconst 0, 1) := by decide +kernel
theorem dX4_copyFrom_54 : decode cX4_copyFrom 54 = .ok (.bipush 8, 2) := by decide +kernel
theorem dX4_copyFrom_56 : decode cX4_copyFrom 56 = .ok (.invokestatic 40, 3) := by decide +kernel
theorem dX4_copyFrom_59 : decode cX4_copyFrom 59 = .ok (.aload_n 1, 1) := by decide +kernel
theorem dX4_copyFrom_60 : decode cX4_copyFrom 60 = .ok (.getfield 24, 3) := by decide +kernel
theorem dX4_copyFrom_63 : decode cX4_copyFrom 63 = .ok (.iconst 0, 1) := by decide +kernel
theorem dX4_copyFrom_64 : decode cX4_copyFrom 64 = .ok (.aload_n 0, 1) := by decide +kernel
theorem dX4_copyFrom_65 : decode cX4_copyFrom 65 = .ok (.getfield 24, 3) := by decide +kernel
theorem dX4_copyFrom_68 : decode cX4_copyFrom 68 = .ok (.iconst 0, 1) := by decide +kernel
theorem dX4_copyFrom_69 : decode cX4_copyFrom 69 = .ok (.bipush 8, 2) := by decide +kernel
theorem dX4_copyFrom_71 : decode cX4_copyFrom 71 = .ok (.invokestatic 40, 3) := by decide +kernel
theorem dX4_copyFrom_74 : decode cX4_copyFrom 74 = .ok (.aload_n 1, 1) := by decide +kernel
theorem dX4_copyFrom_75 : decode cX4_copyFrom 75 = .ok (.getfield 27, 3) := by decide +kernel
theorem dX4_copyFrom_78 : decode cX4_copyFrom 78 = .ok (.iconst 0, 1) := by decide +kernel
theorem dX4_copyFrom_79 : decode cX4_copyFrom 79 = .ok (.aload_n 0, 1) := by decide +kernel
theorem dX4_copyFrom_80 : decode cX4_copyFrom 80 = .ok (.getfield 27, 3) := by decide +kernel
theorem dX4_copyFrom_83 : decode cX4_copyFrom 83 = .ok (.iconst 0, 1) := by decide +kernel
theorem dX4_copyFrom_84 : decode cX4_copyFrom 84 = .ok (.bipush 8, 2) := by decide +kernel
theorem dX4_copyFrom_86 : decode cX4_copyFrom 86 = .ok (.invokestatic 40, 3) := by decide +kernel
theorem dX4_copyFrom_89 : decode cX4_copyFrom 89 = .ok (.aload_n 0, 1) := by decide +kernel
theorem dX4_copyFrom_90 : decode cX4_copyFrom 90 = .ok (.aload_n 1, 1) := by decide +kernel
theorem dX4_copyFrom_91 : decode cX4_copyFrom 91 = .ok (.getfield 46, 3) := by decide +kernel
theorem dX4_copyFrom_94 : decode cX4_copyFrom 94 = .ok (.putfield 46, 3) := by decide +kernel
theorem dX4_copyFrom_97 : decode cX4_copyFrom 97 = .ok (.aload_n 0, 1) := by decide +kernel
theorem dX4_copyFrom_98 : decode cX4_copyFrom 98 = .ok (.aload_n 1, 1) := by decide +kernel
theorem dX4_copyFrom_99 : decode cX4_copyFrom 99 = .ok (.getfield 49, 3) := by decide +kernel
theorem dX4_copyFrom_102 : decode cX4_copyFrom 102 = .ok (.putfield 49, 3) := by decide +kernel
theorem dX4_copyFrom_105 : decode cX4_copyFrom 105 = .ok (.aload_n 0, 1) := by decide +kernel
theorem dX4_copyFrom_106 : decode cX4_copyFrom 106 = .ok (.aload_n 1, 1) := by decide +kernel
theorem dX4_copyFrom_107 : decode cX4_copyFrom 107 = .ok (.getfield 55, 3) := by decide +kernel
theorem dX4_copyFrom_110 : decode cX4_copyFrom 110 = .ok (.putfield 55, 3) := by decide +kernel
theorem dX4_copyFrom_113 : decode cX4_copyFrom 113 = .ok (.aload_n 0, 1) := by decide +kernel
theorem dX4_copyFrom_114 : decode cX4_copyFrom 114 = .ok (.aload_n 1, 1) := by decide +kernel
theorem dX4_copyFrom_115 : decode cX4_copyFrom 115 = .ok (.getfield 58, 3) := by decide +kernel
theorem dX4_copyFrom_118 : decode cX4_copyFrom 118 = .ok (.putfield 58, 3) := by decide +kernel
theorem dX4_copyFrom_121 : decode cX4_copyFrom 121 = .ok (.aload_n 0, 1) := by decide +kernel
theorem dX4_copyFrom_122 : decode cX4_copyFrom 122 = .ok (.aload_n 1, 1) := by decide +kernel
theorem dX4_copyFrom_123 : decode cX4_copyFrom 123 = .ok (.getfield 61, 3) := by decide +kernel
theorem dX4_copyFrom_126 : decode cX4_copyFrom 126 = .ok (.putfield 61, 3) := by decide +kernel
theorem dX4_copyFrom_129 : decode cX4_copyFrom 129 = .ok (.aload_n 0, 1) := by decide +kernel
theorem dX4_copyFrom_130 : decode cX4_copyFrom 130 = .ok (.aload_n 1, 1) := by decide +kernel
theorem dX4_copyFrom_131 : decode cX4_copyFrom 131 = .ok (.getfield 30, 3) := by decide +kernel
theorem dX4_copyFrom_134 : decode cX4_copyFrom 134 = .ok (.putfield 30, 3) := by decide +kernel
theorem dX4_copyFrom_137 : decode cX4_copyFrom 137 = .ok (.return_, 1) := by decide +kernel
set_option maxRecDepth 20000 in
theorem ggX4_has_X5_isIn : GoodIn wsX4_has wsX5_isIn := goodIn_r _ [4] (by decide +kernel) (by decide +kernel)
set_option maxRecDepth 20000 in
theorem gX4_has_X5_isIn_n64 : GoodIn wsX4_has (wsX5_isIn) := ggX4_has_X5_isIn
theorem dX4_has_0 : decode cX4_has 0 = .ok (.iload_n 1, 1) := by decide +kernel
theorem dX4_has_1 : decode cX4_has 1 = .ok (.iconst 0, 1) := by decide +kernel
theorem dX4_has_2 : decode cX4_has 2 = .ok (.aload_n 0, 1) := by decide +kernel
theorem dX4_has_3 : decode cX4_has 3 = .ok (.getfield 46, 3) := by decide +kernel
theorem dX4_has_6 : decode cX4_has 6 = .ok (.iconst 1, 1) := by decide +kernel
theorem dX4_has_7 : decode cX4_has 7 = .ok (.isub, 1) := by decide +kernel
theorem dX4_has_8 : decode cX4_has 8 = .ok (.invokestatic 64, 3) := by decide +kernel
theorem dX4_has_11 : decode cX4_has 11 = .ok (.ireturn, 1) := by decide +kernel
theorem dX4_add_0 : decode cX4_add 0 = .ok (.aload_n 0, 1) := by decide +kernel
theorem dX4_add_1 : decode cX4_add 1 = .ok (.getfield 46, 3) := by decide +kernel
theorem dX4_add_4 : decode cX4_add 4 = .ok (.bipush 8, 2) := by decide +kernel
theorem dX4_add_6 : decode cX4_add 6 = .ok (.if_icmp .lt 4, 3) := by decide +kernel
theorem dX4_add_9 : decode cX4_add 9 = .ok (.return_, 1) := by decide +kernel
theorem dX4_add_10 : decode cX4_add 10 = .ok (.aload_n 0, 1) := by decide +kernel
theorem dX4_add_11 : decode cX4_add 11 = .ok (.getfield 15, 3) := by decide +kernel
theorem dX4_add_14 : decode cX4_add 14 = .ok (.aload_n 0, 1) := by decide +kernel
theorem dX4_add_15 : decode cX4_add 15 = .ok (.getfield 46, 3) := by decide +kernel
theorem dX4_add_18 : decode cX4_add 18 = .ok (.iload_n 1, 1) := by decide +kernel
theorem dX4_add_19 : decode cX4_add 19 = .ok (.iastore, 1) := by decide +kernel
theorem dX4_add_20 : decode cX4_add 20 = .ok (.aload_n 0, 1) := by decide +kernel
theorem dX4_add_21 : decode cX4_add 21 = .ok (.getfield 18, 3) := by decide +kernel
theorem dX4_add_24 : decode cX4_add 24 = .ok (.aload_n 0, 1) := by decide +kernel
theorem dX4_add_25 : decode cX4_add 25 = .ok (.getfield 46, 3) := by decide +kernel
theorem dX4_add_28 : decode cX4_add 28 = .ok (.iload_n 2, 1) := by decide +kernel
theorem dX4_add_29 : decode cX4_add 29 = .ok (.iastore, 1) := by decide +kernel
theorem dX4_add_30 : decode cX4_add 30 = .ok (.aload_n 0, 1) := by decide +kernel
theorem dX4_add_31 : decode cX4_add 31 = .ok (.getfield 21, 3) := by decide +kernel
theorem dX4_add_34 : decode cX4_add 34 = .ok (.aload_n 0, 1) := by decide +kernel
theorem dX4_add_35 : decode cX4_add 35 = .ok (.getfield 46, 3) := by decide +kernel
theorem dX4_add_38 : decode cX4_add 38 = .ok (.iload_n 3, 1) := by decide +kernel
theorem dX4_add_39 : decode cX4_add 39 = .ok (.iastore, 1) := by decide +kernel
theorem dX4_add_40 : decode cX4_add 40 = .ok (.aload_n 0, 1) := by decide +kernel
theorem dX4_add_41 : decode cX4_add 41 = .ok (.getfield 24, 3) := by decide +kernel
theorem dX4_add_44 : decode cX4_add 44 = .ok (.aload_n 0, 1) := by decide +kernel
theorem dX4_add_45 : decode cX4_add 45 = .ok (.getfield 46, 3) := by decide +kernel
theorem dX4_add_48 : decode cX4_add 48 = .ok (.iload 4, 2) := by decide +kernel
theorem dX4_add_50 : decode cX4_add 50 = .ok (.iastore, 1) := by decide +kernel
theorem dX4_add_51 : decode cX4_add 51 = .ok (.aload_n 0, 1) := by decide +kernel
theorem dX4_add_52 : decode cX4_add 52 = .ok (.getfield 27, 3) := by decide +kernel
theorem dX4_add_55 : decode cX4_add 55 = .ok (.aload_n 0, 1) := by decide +kernel
theorem dX4_add_56 : decode cX4_add 56 = .ok (.getfield 46, 3) := by decide +kernel
theorem dX4_add_59 : decode cX4_add 59 = .ok (.iconst 0, 1) := by decide +kernel
theorem dX4_add_60 : decode cX4_add 60 = .ok (.iastore, 1) := by decide +kernel
theorem dX4_add_61 : decode cX4_add 61 = .ok (.aload_n 0, 1) := by decide +kernel
theorem dX4_add_62 : decode cX4_add 62 = .ok (.dup, 1) := by decide +kernel
theorem dX4_add_63 : decode cX4_add 63 = .ok (.getfield 46, 3) := by decide +kernel
theorem dX4_add_66 : decode cX4_add 66 = .ok (.iconst 1, 1) := by decide +kernel
theorem dX4_add_67 : decode cX4_add 67 = .ok (.iadd, 1) := by decide +kernel
theorem dX4_add_68 : decode cX4_add 68 = .ok (.putfield 46, 3) := by decide +kernel
theorem dX4_add_71 : decode cX4_add 71 = .ok (.return_, 1) := by decide +kernel
theorem dX4_isOnBeat_0 : decode cX4_isOnBeat 0 = .ok (.aload_n 0, 1) := by decide +kernel
theorem dX4_isOnBeat_1 : decode cX4_isOnBeat 1 = .ok (.getfield 18, 3) := by decide +kernel
theorem dX4_isOnBeat_4 : decode cX4_isOnBeat 4 = .ok (.iload_n 1, 1) := by decide +kernel
theorem dX4_isOnBeat_5 : decode cX4_isOnBeat 5 = .ok (.iaload, 1) := by decide +kernel
theorem dX4_isOnBeat_6 : decode cX4_isOnBeat 6 = .ok (.istore_n 2, 1) := by decide +kernel
theorem dX4_isOnBeat_7 : decode cX4_isOnBeat 7 = .ok (.iload_n 2, 1) := by decide +kernel
theorem dX4_isOnBeat_8 : decode cX4_isOnBeat 8 = .ok (.ifCond .le 23, 3) := by decide +kernel
theorem dX4_isOnBeat_11 : decode cX4_isOnBeat 11 = .ok (.aload_n 0, 1) := by decide +kernel
theorem dX4_isOnBeat_12 : decode cX4_isOnBeat 12 = .ok (.getfield 49, 3) := by decide +kernel
theorem dX4_isOnBeat_15 : decode cX4_isOnBeat 15 = .ok (.aload_n 0, 1) := by decide +kernel
theorem dX4_isOnBeat_16 : decode cX4_isOnBeat 16 = .ok (.getfield 21, 3) := by decide +kernel
theorem dX4_isOnBeat_19 : decode cX4_isOnBeat 19 = .ok (.iload_n 1, 1) := by decide +kernel
theorem dX4_isOnBeat_20 : decode cX4_isOnBeat 20 = .ok (.iaload, 1) := by decide +kernel
theorem dX4_isOnBeat_21 : decode cX4_isOnBeat 21 = .ok (.iadd, 1) := by decide +kernel
theorem dX4_isOnBeat_22 : decode cX4_isOnBeat 22 = .ok (.iload_n 2, 1) := by decide +kernel
theorem dX4_isOnBeat_23 : decode cX4_isOnBeat 23 = .ok (.irem, 1) := by decide +kernel
theorem dX4_isOnBeat_24 : decode cX4_isOnBeat 24 = .ok (.ifCond .ne 7, 3) := by decide +kernel
theorem dX4_isOnBeat_27 : decode cX4_isOnBeat 27 = .ok (.iconst 1, 1) := by decide +kernel
theorem dX4_isOnBeat_28 : decode cX4_isOnBeat 28 = .ok (.goto 4, 3) := by decide +kernel
theorem dX4_isOnBeat_31 : decode cX4_isOnBeat 31 = .ok (.iconst 0, 1) := by decide +kernel
theorem dX4_isOnBeat_32 : decode cX4_isOnBeat 32 = .ok (.ireturn, 1) := by decide +kernel
set_option maxRecDepth 20000 in
theorem ggX4_isSounding_X4_isCooking : GoodIn wsX4_isSounding wsX4_isCooking := goodIn_r _ [10, 3, 5, 11, 12, 13, 9, 14, 4, 2, 15, 20, 21, 22, 23, 24, 25, 26, 27, 28, 29, 30, 31] (by decide +kernel) (by decide +kernel)
set_option maxRecDepth 20000 in
theorem gX4_isSounding_X4_isCooking : GoodIn wsX4_isSounding (wsV RX4 68 RX4 yX4_isCooking wsX4_isCooking) := goodIn_app (goodIn_of _ (by decide +kernel)) ggX4_isSounding_X4_isCooking
set_option maxRecDepth 20000 in
theorem ggX4_isSounding_X4_isMarching : GoodIn wsX4_isSounding wsX4_isMarching := goodIn_r _ [19, 2, 11, 12, 13, 9, 14, 4, 15, 20, 21, 22, 23, 24, 25, 26, 27, 28, 29, 30, 31] (by decide +kernel) (by decide +kernel)
set_option maxRecDepth 20000 in
theorem gX4_isSounding_X4_isMarching : GoodIn wsX4_isSounding (wsV RX4 72 RX4 yX4_isMarching wsX4_isMarching) := goodIn_app (goodIn_of _ (by decide +kernel)) ggX4_isSounding_X4_isMarching
set_option maxRecDepth 20000 in
theorem ggX4_isSounding_X4_isOnBeat : GoodIn wsX4_isSounding wsX4_isOnBeat := goodIn_r _ [14, 4, 2, 15, 20, 21, 22, 23, 24, 25, 26, 27, 28, 29, 30, 31] (by decide +kernel) (by decide +kernel)
set_option maxRecDepth 20000 in
theorem gX4_isSounding_X4_isOnBeat : GoodIn wsX4_isSounding (wsV RX4 75 RX4 yX4_isOnBeat wsX4_isOnBeat) := goodIn_app (goodIn_of _ (by decide +kernel)) ggX4_isSounding_X4_isOnBeat
theorem dX4_isSounding_0 : decode cX4_isSounding 0 = .ok (.aload_n 0, 1) := by decide +kernel
theorem dX4_isSounding_1 : decode cX4_isSounding 1 = .ok (.getfield 15, 3) := by decide +kernel
theorem dX4_isSounding_4 : decode cX4_isSounding 4 = .ok (.iload_n 1, 1) := by decide +kernel
theorem dX4_isSounding_5 : decode cX4_isSounding 5 = .ok (.iaload, 1) := by decide +kernel
theorem dX4_isSounding_6 : decode cX4_isSounding 6 = .ok (.tableswitch 118 1 5 #[34, 64, 40, 70, 99], 34) := by decide +kernel
theorem dX4_isSounding_40 : decode cX4_isSounding 40 = .ok (.aload_n 0, 1) := by decide +kernel
theorem dX4_isSounding_41 : decode cX4_isSounding 41 = .ok (.iload_n 1, 1) := by decide +kernel
theorem dX4_isSounding_42 : decode cX4_isSounding 42 = .ok (.invokevirtual 68, 3) := by decide +kernel
theorem dX4_isSounding_45 : decode cX4_isSounding 45 = .ok (.ireturn, 1) := by decide +kernel
theorem dX4_isSounding_46 : decode cX4_isSounding 46 = .ok (.aload_n 0, 1) := by decide +kernel
theorem dX4_isSounding_47 : decode cX4_isSounding 47 = .ok (.iload_n 1, 1) := by decide +kernel
theorem dX4_isSounding_48 : decode cX4_isSounding 48 = .ok (.invokevirtual 68, 3) := by decide +kernel
theorem dX4_isSounding_51 : decode cX4_isSounding 51 = .ok (.ifCond .ne 13, 3) := by decide +kernel
theorem dX4_isSounding_54 : decode cX4_isSounding 54 = .ok (.aload_n 0, 1) := by decide +kernel
theorem dX4_isSounding_55 : decode cX4_isSounding 55 = .ok (.getfield 49, 3) := by decide +kernel
theorem dX4_isSounding_58 : decode cX4_isSounding 58 = .ok (.bipush 7, 2) := by decide +kernel
theorem dX4_isSounding_60 : decode cX4_isSounding 60 = .ok (.irem, 1) := by decide +kernel
theorem dX4_isSounding_61 : decode cX4_isSounding 61 = .ok (.ifCond .ne 7, 3) := by decide +kernel
theorem dX4_isSounding_64 : decode cX4_isSounding 64 = .ok (.iconst 1, 1) := by decide +kernel
theorem dX4_isSounding_65 : decode cX4_isSounding 65 = .ok (.goto 4, 3) := by decide +kernel
theorem dX4_isSounding_68 : decode cX4_isSounding 68 = .ok (.iconst 0, 1) := by decide +kernel
theorem dX4_isSounding_69 : decode cX4_isSounding 69 = .ok (.ireturn, 1) := by decide +kernel
theorem dX4_isSounding_70 : decode cX4_isSounding 70 = .ok (.aload_n 0, 1) := by decide +kernel
theorem dX4_isSounding_71 : decode cX4_isSounding 71 = .ok (.iload_n 1, 1) := by decide +kernel
theorem dX4_isSounding_72 : decode cX4_isSounding 72 = .ok (.invokevirtual 72, 3) := by decide +kernel
theorem dX4_isSounding_75 : decode cX4_isSounding 75 = .ok (.ireturn, 1) := by decide +kernel
theorem dX4_isSounding_76 : decode cX4_isSounding 76 = .ok (.aload_n 0, 1) := by decide +kernel
theorem dX4_isSounding_77 : decode cX4_isSounding 77 = .ok (.iload_n 1, 1) := by decide +kernel
theorem dX4_isSounding_78 : decode cX4_isSounding 78 = .ok (.invokevirtual 72, 3) := by decide +kernel
theorem dX4_isSounding_81 : decode cX4_isSounding 81 = .ok (.ifCond .ne 18, 3) := by decide +kernel
theorem dX4_isSounding_84 : decode cX4_isSounding 84 = .ok (.aload_n 0, 1) := by decide +kernel
theorem dX4_isSounding_85 : decode cX4_isSounding 85 = .ok (.getfield 55, 3) := by decide +kernel
theorem dX4_isSounding_88 : decode cX4_isSounding 88 = .ok (.iconst 2, 1) := by decide +kernel
theorem dX4_isSounding_89 : decode cX4_isSounding 89 = .ok (.aload_n 0, 1) := by decide +kernel
theorem dX4_isSounding_90 : decode cX4_isSounding 90 = .ok (.getfield 18, 3) := by decide +kernel
theorem dX4_isSounding_93 : decode cX4_isSounding 93 = .ok (.iload_n 1, 1) := by decide +kernel
theorem dX4_isSounding_94 : decode cX4_isSounding 94 = .ok (.iaload, 1) := by decide +kernel
theorem dX4_isSounding_95 : decode cX4_isSounding 95 = .ok (.imul, 1) := by decide +kernel
theorem dX4_isSounding_96 : decode cX4_isSounding 96 = .ok (.if_icmp .ne 7, 3) := by decide +kernel
theorem dX4_isSounding_99 : decode cX4_isSounding 99 = .ok (.iconst 1, 1) := by decide +kernel
theorem dX4_isSounding_100 : decode cX4_isSounding 100 = .ok (.goto 4, 3) := by decide +kernel
theorem dX4_isSounding_103 : decode cX4_isSounding 103 = .ok (.iconst 0, 1) := by decide +kernel
theorem dX4_isSounding_104 : decode cX4_isSounding 104 = .ok (.ireturn, 1) := by decide +kernel
theorem dX4_isSounding_105 : decode cX4_isSounding 105 = .ok (.aload_n 0, 1) := by decide +kernel
theorem dX4_isSounding_106 : decode cX4_isSounding 106 = .ok (.getfield 55, 3) := by decide +kernel
theorem dX4_isSounding_109 : decode cX4_isSounding 109 = .ok (.aload_n 0, 1) := by decide +kernel
theorem dX4_isSounding_110 : decode cX4_isSounding 110 = .ok (.getfield 9, 3) := by decide +kernel
theorem dX4_isSounding_113 : decode cX4_isSounding 113 = .ok (.iconst 2, 1) := by decide +kernel
theorem dX4_isSounding_114 : decode cX4_isSounding 114 = .ok (.iaload, 1) := by decide +kernel
theorem dX4_isSounding_115 : decode cX4_isSounding 115 = .ok (.if_icmp .lt 7, 3) := by decide +kernel
theorem dX4_isSounding_118 : decode cX4_isSounding 118 = .ok (.iconst 1, 1) := by decide +kernel
theorem dX4_isSounding_119 : decode cX4_isSounding 119 = .ok (.goto 4, 3) := by decide +kernel
theorem dX4_isSounding_122 : decode cX4_isSounding 122 = .ok (.iconst 0, 1) := by decide +kernel
theorem dX4_isSounding_123 : decode cX4_isSounding 123 = .ok (.ireturn, 1) := by decide +kernel
theorem dX4_isSounding_124 : decode cX4_isSounding 124 = .ok (.aload_n 0, 1) := by decide +kernel
theorem dX4_isSounding_125 : decode cX4_isSounding 125 = .ok (.iload_n 1, 1) := by decide +kernel
theorem dX4_isSounding_126 : decode cX4_isSounding 126 = .ok (.invokevirtual 75, 3) := by decide +kernel
theorem dX4_isSounding_129 : decode cX4_isSounding 129 = .ok (.ireturn, 1) := by decide +kernel
set_option maxRecDepth 20000 in
theorem ggX4_isCooking_X4_isOnBeat : GoodIn wsX4_isCooking wsX4_isOnBeat := goodIn_r _ [7, 8, 9, 10, 11, 12, 13, 14, 15, 16, 17, 18, 19, 20, 21, 22] (by decide +kernel) (by decide +kernel)
set_option maxRecDepth 20000 in
theorem gX4_isCooking_X4_isOnBeat : GoodIn wsX4_isCooking (wsV RX4 75 RX4 yX4_isOnBeat wsX4_isOnBeat) := goodIn_app (goodIn_of _ (by decide +kernel)) ggX4_isCooking_X4_isOnBeat
theorem dX4_isCooking_0 : decode cX4_isCooking 0 = .ok (.aload_n 0, 1) := by decide +kernel
theorem dX4_isCooking_1 : decode cX4_isCooking 1 = .ok (.getfield 55, 3) := by decide +kernel
theorem dX4_isCooking_4 : decode cX4_isCooking 4 = .ok (.aload_n 0, 1) := by decide +kernel
theorem dX4_isCooking_5 : decode cX4_isCooking 5 = .ok (.getfield 9, 3) := by decide +kernel
theorem dX4_isCooking_8 : decode cX4_isCooking 8 = .ok (.iconst 1, 1) := by decide +kernel
theorem dX4_isCooking_9 : decode cX4_isCooking 9 = .ok (.iaload, 1) := by decide +kernel
theorem dX4_isCooking_10 : decode cX4_isCooking 10 = .ok (.if_icmp .lt 15, 3) := by decide +kernel
theorem dX4_isCooking_13 : decode cX4_isCooking 13 = .ok (.aload_n 0, 1) := by decide +kernel
theorem dX4_isCooking_14 : decode cX4_isCooking 14 = .ok (.iload_n 1, 1) := by decide +kernel
theorem dX4_isCooking_15 : decode cX4_isCooking 15 = .ok (.invokevirtual 75, 3) := by decide +kernel
theorem dX4_isCooking_18 : decode cX4_isCooking 18 = .ok (.ifCond .eq 7, 3) := by decide +kernel
theorem dX4_isCooking_21 : decode cX4_isCooking 21 = .ok (.iconst 1, 1) := by decide +kernel
theorem dX4_isCooking_22 : decode cX4_isCooking 22 = .ok (.goto 4, 3) := by decide +kernel
theorem dX4_isCooking_25 : decode cX4_isCooking 25 = .ok (.iconst 0, 1) := by decide +kernel
theorem dX4_isCooking_26 : decode cX4_isCooking 26 = .ok (.ireturn, 1) := by decide +kernel
set_option maxRecDepth 20000 in
theorem ggX4_isMarching_X4_isOnBeat : GoodIn wsX4_isMarching wsX4_isOnBeat := goodIn_r _ [6, 7, 1, 8, 9, 10, 11, 12, 13, 14, 15, 16, 17, 18, 19, 20] (by decide +kernel) (by decide +kernel)
set_option maxRecDepth 20000 in
theorem gX4_isMarching_X4_isOnBeat : GoodIn wsX4_isMarching (wsV RX4 75 RX4 yX4_isOnBeat wsX4_isOnBeat) := goodIn_app (goodIn_of _ (by decide +kernel)) ggX4_isMarching_X4_isOnBeat
theorem dX4_isMarching_0 : decode cX4_isMarching 0 = .ok (.aload_n 0, 1) := by decide +kernel
theorem dX4_isMarching_1 : decode cX4_isMarching 1 = .ok (.getfield 49, 3) := by decide +kernel
theorem dX4_isMarching_4 : decode cX4_isMarching 4 = .ok (.iconst 2, 1) := by decide +kernel
theorem dX4_isMarching_5 : decode cX4_isMarching 5 = .ok (.irem, 1) := by decide +kernel
theorem dX4_isMarching_6 : decode cX4_isMarching 6 = .ok (.ifCond .ne 15, 3) := by decide +kernel
theorem dX4_isMarching_9 : decode cX4_isMarching 9 = .ok (.aload_n 0, 1) := by decide +kernel
theorem dX4_isMarching_10 : decode cX4_isMarching 10 = .ok (.iload_n 1, 1) := by decide +kernel
theorem dX4_isMarching_11 : decode cX4_isMarching 11 = .ok (.invokevirtual 75, 3) := by decide +kernel
theorem dX4_isMarching_14 : decode cX4_isMarching 14 = .ok (.ifCond .eq 7, 3) := by decide +kernel
theorem dX4_isMarching_17 : decode cX4_isMarching 17 = .ok (.iconst 1, 1) := by decide +kernel
theorem dX4_isMarching_18 : decode cX4_isMarching 18 = .ok (.goto 4, 3) := by decide +kernel
theorem dX4_isMarching_21 : decode cX4_isMarching 21 = .ok (.iconst 0, 1) := by decide +kernel
theorem dX4_isMarching_22 : decode cX4_isMarching 22 = .ok (.ireturn, 1) := by decide +kernel
theorem dX4_reachOf_0 : decode cX4_reachOf 0 = .ok (.aload_n 0, 1) := by decide +kernel
theorem dX4_reachOf_1 : decode cX4_reachOf 1 = .ok (.getfield 15, 3) := by decide +kernel
theorem dX4_reachOf_4 : decode cX4_reachOf 4 = .ok (.iload_n 1, 1) := by decide +kernel
theorem dX4_reachOf_5 : decode cX4_reachOf 5 = .ok (.iaload, 1) := by decide +kernel
theorem dX4_reachOf_6 : decode cX4_reachOf 6 = .ok (.tableswitch 70 1 5 #[34, 54, 43, 56, 67], 34) := by decide +kernel
theorem dX4_reachOf_40 : decode cX4_reachOf 40 = .ok (.iconst 2, 1) := by decide +kernel
theorem dX4_reachOf_41 : decode cX4_reachOf 41 = .ok (.aload_n 0, 1) := by decide +kernel
theorem dX4_reachOf_42 : decode cX4_reachOf 42 = .ok (.getfield 9, 3) := by decide +kernel
theorem dX4_reachOf_45 : decode cX4_reachOf 45 = .ok (.iconst 1, 1) := by decide +kernel
theorem dX4_reachOf_46 : decode cX4_reachOf 46 = .ok (.iaload, 1) := by decide +kernel
theorem dX4_reachOf_47 : decode cX4_reachOf 47 = .ok (.iadd, 1) := by decide +kernel
theorem dX4_reachOf_48 : decode cX4_reachOf 48 = .ok (.ireturn, 1) := by decide +kernel
theorem dX4_reachOf_49 : decode cX4_reachOf 49 = .ok (.iconst 2, 1) := by decide +kernel
theorem dX4_reachOf_50 : decode cX4_reachOf 50 = .ok (.aload_n 0, 1) := by decide +kernel
theorem dX4_reachOf_51 : decode cX4_reachOf 51 = .ok (.getfield 9, 3) := by decide +kernel
theorem dX4_reachOf_54 : decode cX4_reachOf 54 = .ok (.iconst 1, 1) := by decide +kernel
theorem dX4_reachOf_55 : decode cX4_reachOf 55 = .ok (.iaload, 1) := by decide +kernel
theorem dX4_reachOf_56 : decode cX4_reachOf 56 = .ok (.iadd, 1) := by decide +kernel
theorem dX4_reachOf_57 : decode cX4_reachOf 57 = .ok (.iconst 2, 1) := by decide +kernel
theorem dX4_reachOf_58 : decode cX4_reachOf 58 = .ok (.imul, 1) := by decide +kernel
theorem dX4_reachOf_59 : decode cX4_reachOf 59 = .ok (.ireturn, 1) := by decide +kernel
theorem dX4_reachOf_60 : decode cX4_reachOf 60 = .ok (.iconst 1, 1) := by decide +kernel
theorem dX4_reachOf_61 : decode cX4_reachOf 61 = .ok (.ireturn, 1) := by decide +kernel
theorem dX4_reachOf_62 : decode cX4_reachOf 62 = .ok (.iconst 1, 1) := by decide +kernel
theorem dX4_reachOf_63 : decode cX4_reachOf 63 = .ok (.aload_n 0, 1) := by decide +kernel
theorem dX4_reachOf_64 : decode cX4_reachOf 64 = .ok (.getfield 21, 3) := by decide +kernel
theorem dX4_reachOf_67 : decode cX4_reachOf 67 = .ok (.iload_n 1, 1) := by decide +kernel
theorem dX4_reachOf_68 : decode cX4_reachOf 68 = .ok (.iaload, 1) := by decide +kernel
theorem dX4_reachOf_69 : decode cX4_reachOf 69 = .ok (.iconst 3, 1) := by decide +kernel
theorem dX4_reachOf_70 : decode cX4_reachOf 70 = .ok (.idiv, 1) := by decide +kernel
theorem dX4_reachOf_71 : decode cX4_reachOf 71 = .ok (.iadd, 1) := by decide +kernel
theorem dX4_reachOf_72 : decode cX4_reachOf 72 = .ok (.ireturn, 1) := by decide +kernel
theorem dX4_reachOf_73 : decode cX4_reachOf 73 = .ok (.bipush 6, 2) := by decide +kernel
theorem dX4_reachOf_75 : decode cX4_reachOf 75 = .ok (.ireturn, 1) := by decide +kernel
theorem dX4_reachOf_76 : decode cX4_reachOf 76 = .ok (.iconst 2, 1) := by decide +kernel
theorem dX4_reachOf_77 : decode cX4_reachOf 77 = .ok (.ireturn, 1) := by decide +kernel
set_option maxRecDepth 20000 in
theorem ggX4_soundingSet_X4_isSounding : GoodIn wsX4_soundingSet wsX4_isSounding := goodIn_r _ [6, 7, 8, 9, 10, 11, 12, 13, 14, 5, 15, 16, 17, 18, 19, 20, 21, 22, 23, 24, 25, 26, 27, 28, 29, 30, 31, 32, 33, 34, 35, 36] (by decide +kernel) (by decide +kernel)
set_option maxRecDepth 20000 in
theorem gX4_soundingSet_X4_isSounding : GoodIn wsX4_soundingSet (wsV RX4 78 RX4 yX4_isSounding wsX4_isSounding) := goodIn_app (goodIn_of _ (by decide +kernel)) ggX4_soundingSet_X4_isSounding
theorem dX4_soundingSet_0 : decode cX4_soundingSet 0 = .ok (.iconst 0, 1) := by decide +kernel
theorem dX4_soundingSet_1 : decode cX4_soundingSet 1 = .ok (.istore_n 1, 1) := by decide +kernel
theorem dX4_soundingSet_2 : decode cX4_soundingSet 2 = .ok (.iconst 0, 1) := by decide +kernel
theorem dX4_soundingSet_3 : decode cX4_soundingSet 3 = .ok (.istore_n 2, 1) := by decide +kernel
theorem dX4_soundingSet_4 : decode cX4_soundingSet 4 = .ok (.iload_n 2, 1) := by decide +kernel
theorem dX4_soundingSet_5 : decode cX4_soundingSet 5 = .ok (.aload_n 0, 1) := by decide +kernel
theorem dX4_soundingSet_6 : decode cX4_soundingSet 6 = .ok (.getfield 46, 3) := by decide +kernel
theorem dX4_soundingSet_9 : decode cX4_soundingSet 9 = .ok (.if_icmp .ge 23, 3) := by decide +kernel
theorem dX4_soundingSet_12 : decode cX4_soundingSet 12 = .ok (.aload_n 0, 1) := by decide +kernel
theorem dX4_soundingSet_13 : decode cX4_soundingSet 13 = .ok (.iload_n 2, 1) := by decide +kernel
theorem dX4_soundingSet_14 : decode cX4_soundingSet 14 = .ok (.invokevirtual 78, 3) := by decide +kernel
theorem dX4_soundingSet_17 : decode cX4_soundingSet 17 = .ok (.ifCond .eq 9, 3) := by decide +kernel
theorem dX4_soundingSet_20 : decode cX4_soundingSet 20 = .ok (.iload_n 1, 1) := by decide +kernel
theorem dX4_soundingSet_21 : decode cX4_soundingSet 21 = .ok (.iconst 1, 1) := by decide +kernel
theorem dX4_soundingSet_22 : decode cX4_soundingSet 22 = .ok (.iload_n 2, 1) := by decide +kernel
theorem dX4_soundingSet_23 : decode cX4_soundingSet 23 = .ok (.ishl, 1) := by decide +kernel
theorem dX4_soundingSet_24 : decode cX4_soundingSet 24 = .ok (.ior, 1) := by decide +kernel
theorem dX4_soundingSet_25 : decode cX4_soundingSet 25 = .ok (.istore_n 1, 1) := by decide +kernel
theorem dX4_soundingSet_26 : decode cX4_soundingSet 26 = .ok (.iinc 2 1, 3) := by decide +kernel
theorem dX4_soundingSet_29 : decode cX4_soundingSet 29 = .ok (.goto (-25), 3) := by decide +kernel
theorem dX4_soundingSet_32 : decode cX4_soundingSet 32 = .ok (.iload_n 1, 1) := by decide +kernel
theorem dX4_soundingSet_33 : decode cX4_soundingSet 33 = .ok (.ireturn, 1) := by decide +kernel
set_option maxRecDepth 20000 in
theorem ggX4_heardOf_X4_reachOf : GoodIn wsX4_heardOf wsX4_reachOf := goodIn_r _ [14, 15, 16, 17, 18, 19, 20, 21, 22, 23, 24, 25, 26, 27, 28, 29] (by decide +kernel) (by decide +kernel)
set_option maxRecDepth 20000 in
theorem gX4_heardOf_X4_reachOf : GoodIn wsX4_heardOf (wsV RX4 91 RX4 yX4_reachOf wsX4_reachOf) := goodIn_app (goodIn_of _ (by decide +kernel)) ggX4_heardOf_X4_reachOf
theorem dX4_heardOf_0 : decode cX4_heardOf 0 = .ok (.iconst 0, 1) := by decide +kernel
theorem dX4_heardOf_1 : decode cX4_heardOf 1 = .ok (.istore_n 3, 1) := by decide +kernel
theorem dX4_heardOf_2 : decode cX4_heardOf 2 = .ok (.iconst 0, 1) := by decide +kernel
theorem dX4_heardOf_3 : decode cX4_heardOf 3 = .ok (.istore 4, 2) := by decide +kernel
theorem dX4_heardOf_5 : decode cX4_heardOf 5 = .ok (.iload 4, 2) := by decide +kernel
theorem dX4_heardOf_7 : decode cX4_heardOf 7 = .ok (.aload_n 0, 1) := by decide +kernel
theorem dX4_heardOf_8 : decode cX4_heardOf 8 = .ok (.getfield 46, 3) := by decide +kernel
theorem dX4_heardOf_11 : decode cX4_heardOf 11 = .ok (.if_icmp .ge 63, 3) := by decide +kernel
theorem dX4_heardOf_14 : decode cX4_heardOf 14 = .ok (.aload_n 0, 1) := by decide +kernel
theorem dX4_heardOf_15 : decode cX4_heardOf 15 = .ok (.getfield 24, 3) := by decide +kernel
theorem dX4_heardOf_18 : decode cX4_heardOf 18 = .ok (.iload 4, 2) := by decide +kernel
theorem dX4_heardOf_20 : decode cX4_heardOf 20 = .ok (.iaload, 1) := by decide +kernel
theorem dX4_heardOf_21 : decode cX4_heardOf 21 = .ok (.iload_n 2, 1) := by decide +kernel
theorem dX4_heardOf_22 : decode cX4_heardOf 22 = .ok (.isub, 1) := by decide +kernel
theorem dX4_heardOf_23 : decode cX4_heardOf 23 = .ok (.invokestatic 81, 3) := by decide +kernel
theorem dX4_heardOf_26 : decode cX4_heardOf 26 = .ok (.istore 5, 2) := by decide +kernel
theorem dX4_heardOf_28 : decode cX4_heardOf 28 = .ok (.iload 5, 2) := by decide +kernel
theorem dX4_heardOf_30 : decode cX4_heardOf 30 = .ok (.bipush 12, 2) := by decide +kernel
theorem dX4_heardOf_32 : decode cX4_heardOf 32 = .ok (.iload 5, 2) := by decide +kernel
theorem dX4_heardOf_34 : decode cX4_heardOf 34 = .ok (.isub, 1) := by decide +kernel
theorem dX4_heardOf_35 : decode cX4_heardOf 35 = .ok (.invokestatic 87, 3) := by decide +kernel
theorem dX4_heardOf_38 : decode cX4_heardOf 38 = .ok (.istore 6, 2) := by decide +kernel
theorem dX4_heardOf_40 : decode cX4_heardOf 40 = .ok (.iload_n 1, 1) := by decide +kernel
theorem dX4_heardOf_41 : decode cX4_heardOf 41 = .ok (.iload 4, 2) := by decide +kernel
theorem dX4_heardOf_43 : decode cX4_heardOf 43 = .ok (.ishr, 1) := by decide +kernel
theorem dX4_heardOf_44 : decode cX4_heardOf 44 = .ok (.iconst 1, 1) := by decide +kernel
theorem dX4_heardOf_45 : decode cX4_heardOf 45 = .ok (.iand, 1) := by decide +kernel
theorem dX4_heardOf_46 : decode cX4_heardOf 46 = .ok (.iconst 1, 1) := by decide +kernel
theorem dX4_heardOf_47 : decode cX4_heardOf 47 = .ok (.if_icmp .ne 21, 3) := by decide +kernel
theorem dX4_heardOf_50 : decode cX4_heardOf 50 = .ok (.iload 6, 2) := by decide +kernel
theorem dX4_heardOf_52 : decode cX4_heardOf 52 = .ok (.aload_n 0, 1) := by decide +kernel
theorem dX4_heardOf_53 : decode cX4_heardOf 53 = .ok (.iload 4, 2) := by decide +kernel
theorem dX4_heardOf_55 : decode cX4_heardOf 55 = .ok (.invokevirtual 91, 3) := by decide +kernel
theorem dX4_heardOf_58 : decode cX4_heardOf 58 = .ok (.if_icmp .gt 10, 3) := by decide +kernel
theorem dX4_heardOf_61 : decode cX4_heardOf 61 = .ok (.iload_n 3, 1) := by decide +kernel
theorem dX4_heardOf_62 : decode cX4_heardOf 62 = .ok (.iconst 1, 1) := by decide +kernel
theorem dX4_heardOf_63 : decode cX4_heardOf 63 = .ok (.iload 4, 2) := by decide +kernel
theorem dX4_heardOf_65 : decode cX4_heardOf 65 = .ok (.ishl, 1) := by decide +kernel
theorem dX4_heardOf_66 : decode cX4_heardOf 66 = .ok (.ior, 1) := by decide +kernel
theorem dX4_heardOf_67 : decode cX4_heardOf 67 = .ok (.istore_n 3, 1) := by decide +kernel
theorem dX4_heardOf_68 : decode cX4_heardOf 68 = .ok (.iinc 4 1, 3) := by decide +kernel
theorem dX4_heardOf_71 : decode cX4_heardOf 71 = .ok (.goto (-66), 3) := by decide +kernel
theorem dX4_heardOf_74 : decode cX4_heardOf 74 = .ok (.iload_n 3, 1) := by decide +kernel
theorem dX4_heardOf_75 : decode cX4_heardOf 75 = .ok (.ireturn, 1) := by decide +kernel
theorem dX4_setAt_0 : decode cX4_setAt 0 = .ok (.iconst 0, 1) := by decide +kernel
theorem dX4_setAt_1 : decode cX4_setAt 1 = .ok (.istore_n 2, 1) := by decide +kernel
theorem dX4_setAt_2 : decode cX4_setAt 2 = .ok (.iconst 0, 1) := by decide +kernel
theorem dX4_setAt_3 : decode cX4_setAt 3 = .ok (.istore_n 3, 1) := by decide +kernel
theorem dX4_setAt_4 : decode cX4_setAt 4 = .ok (.iload_n 3, 1) := by decide +kernel
theorem dX4_setAt_5 : decode cX4_setAt 5 = .ok (.aload_n 0, 1) := by decide +kernel
theorem dX4_setAt_6 : decode cX4_setAt 6 = .ok (.getfield 46, 3) := by decide +kernel
theorem dX4_setAt_9 : decode cX4_setAt 9 = .ok (.if_icmp .ge 25, 3) := by decide +kernel
theorem dX4_setAt_12 : decode cX4_setAt 12 = .ok (.aload_n 0, 1) := by decide +kernel
theorem dX4_setAt_13 : decode cX4_setAt 13 = .ok (.getfield 24, 3) := by decide +kernel
theorem dX4_setAt_16 : decode cX4_setAt 16 = .ok (.iload_n 3, 1) := by decide +kernel
theorem dX4_setAt_17 : decode cX4_setAt 17 = .ok (.iaload, 1) := by decide +kernel
theorem dX4_setAt_18 : decode cX4_setAt 18 = .ok (.iload_n 1, 1) := by decide +kernel
theorem dX4_setAt_19 : decode cX4_setAt 19 = .ok (.if_icmp .ne 9, 3) := by decide +kernel
theorem dX4_setAt_22 : decode cX4_setAt 22 = .ok (.iload_n 2, 1) := by decide +kernel
theorem dX4_setAt_23 : decode cX4_setAt 23 = .ok (.iconst 1, 1) := by decide +kernel
theorem dX4_setAt_24 : decode cX4_setAt 24 = .ok (.iload_n 3, 1) := by decide +kernel
theorem dX4_setAt_25 : decode cX4_setAt 25 = .ok (.ishl, 1) := by decide +kernel
theorem dX4_setAt_26 : decode cX4_setAt 26 = .ok (.ior, 1) := by decide +kernel
theorem dX4_setAt_27 : decode cX4_setAt 27 = .ok (.istore_n 2, 1) := by decide +kernel
theorem dX4_setAt_28 : decode cX4_setAt 28 = .ok (.iinc 3 1, 3) := by decide +kernel
theorem dX4_setAt_31 : decode cX4_setAt 31 = .ok (.goto (-27), 3) := by decide +kernel
theorem dX4_setAt_34 : decode cX4_setAt 34 = .ok (.iload_n 2, 1) := by decide +kernel
theorem dX4_setAt_35 : decode cX4_setAt 35 = .ok (.ireturn, 1) := by decide +kernel
set_option maxRecDepth 20000 in
theorem ggX4_pass_X4_soundingSet : GoodIn wsX4_pass wsX4_soundingSet := goodIn_r _ [5, 6, 7, 8, 9, 4, 10, 11, 12, 13, 14, 15, 16, 17, 18, 19, 20, 21, 22, 23, 24, 25, 26, 27, 28, 66, 67, 68, 69, 70, 71, 72, 73, 74, 75, 76, 77] (by decide +kernel) (by decide +kernel)
set_option maxRecDepth 20000 in
theorem gX4_pass_X4_soundingSet : GoodIn wsX4_pass (wsV RX4 94 RX4 yX4_soundingSet wsX4_soundingSet) := goodIn_app (goodIn_of _ (by decide +kernel)) ggX4_pass_X4_soundingSet
set_option maxRecDepth 20000 in
theorem ggX4_pass_X4_hear : GoodIn wsX4_pass wsX4_hear := goodIn_r _ [32, 6, 33, 34, 35, 36, 37, 38, 39, 40, 41, 4, 42, 43, 44, 45, 46, 47, 48, 49, 11, 15, 24, 50, 51, 52, 53, 54, 55, 56, 66, 67, 68, 69, 70, 71, 72, 73, 74, 75, 76, 77] (by decide +kernel) (by decide +kernel)
set_option maxRecDepth 20000 in
theorem gX4_pass_X4_hear : GoodIn wsX4_pass (wsV RX4 98 RX4 yX4_hear wsX4_hear) := goodIn_app (goodIn_of _ (by decide +kernel)) ggX4_pass_X4_hear
set_option maxRecDepth 20000 in
theorem ggX4_pass_X4_endSecond : GoodIn wsX4_pass wsX4_endSecond := goodIn_r _ [60, 13, 35, 36, 37, 38, 61, 62, 63, 64, 15, 65, 12, 66, 67, 68, 69, 70, 71, 72, 73, 74, 75, 76, 77] (by decide +kernel) (by decide +kernel)
set_option maxRecDepth 20000 in
theorem gX4_pass_X4_endSecond : GoodIn wsX4_pass (wsV RX4 102 RX4 yX4_endSecond wsX4_endSecond) := goodIn_app (goodIn_of _ (by decide +kernel)) ggX4_pass_X4_endSecond
theorem dX4_pass_0 : decode cX4_pass 0 = .ok (.aload_n 0, 1) := by decide +kernel
theorem dX4_pass_1 : decode cX4_pass 1 = .ok (.invokevirtual 94, 3) := by decide +kernel
theorem dX4_pass_4 : decode cX4_pass 4 = .ok (.istore_n 1, 1) := by decide +kernel
theorem dX4_pass_5 : decode cX4_pass 5 = .ok (.aload_n 0, 1) := by decide +kernel
theorem dX4_pass_6 : decode cX4_pass 6 = .ok (.iload_n 1, 1) := by decide +kernel
theorem dX4_pass_7 : decode cX4_pass 7 = .ok (.invokevirtual 98, 3) := by decide +kernel
theorem dX4_pass_10 : decode cX4_pass 10 = .ok (.aload_n 0, 1) := by decide +kernel
theorem dX4_pass_11 : decode cX4_pass 11 = .ok (.iload_n 1, 1) := by decide +kernel
theorem dX4_pass_12 : decode cX4_pass 12 = .ok (.invokevirtual 102, 3) := by decide +kernel
theorem dX4_pass_15 : decode cX4_pass 15 = .ok (.iload_n 1, 1) := by decide +kernel
theorem dX4_pass_16 : decode cX4_pass 16 = .ok (.ireturn, 1) := by decide +kernel
set_option maxRecDepth 20000 in
theorem ggX4_passByDraws_X4_draw : GoodIn wsX4_passByDraws wsX4_draw := goodIn_r _ [7, 8, 9, 72, 73, 74, 75, 76, 77, 78, 79, 80, 81, 82, 83] (by decide +kernel) (by decide +kernel)
set_option maxRecDepth 20000 in
theorem gX4_passByDraws_X4_draw : GoodIn wsX4_passByDraws (wsV RX4 105 RX4 yX4_draw wsX4_draw) := goodIn_app (goodIn_of _ (by decide +kernel)) ggX4_passByDraws_X4_draw
set_option maxRecDepth 20000 in
theorem ggX4_passByDraws_X4_soundingSet : GoodIn wsX4_passByDraws wsX4_soundingSet := goodIn_r _ [13, 1, 14, 15, 16, 6, 17, 18, 19, 20, 21, 2, 22, 23, 24, 25, 26, 27, 28, 29, 30, 31, 32, 33, 34, 72, 73, 74, 75, 76, 77, 78, 79, 80, 81, 82, 83] (by decide +kernel) (by decide +kernel)
set_option maxRecDepth 20000 in
theorem gX4_passByDraws_X4_soundingSet : GoodIn wsX4_passByDraws (wsV RX4 94 RX4 yX4_soundingSet wsX4_soundingSet) := goodIn_app (goodIn_of _ (by decide +kernel)) ggX4_passByDraws_X4_soundingSet
set_option maxRecDepth 20000 in
theorem ggX4_passByDraws_X4_hear : GoodIn wsX4_passByDraws wsX4_hear := goodIn_r _ [38, 1, 39, 40, 41, 42, 43, 44, 45, 46, 47, 6, 48, 49, 50, 51, 52, 53, 54, 55, 18, 2, 30, 56, 57, 58, 59, 60, 61, 62, 72, 73, 74, 75, 76, 77, 78, 79, 80, 81, 82, 83] (by decide +kernel) (by decide +kernel)
set_option maxRecDepth 20000 in
theorem gX4_passByDraws_X4_hear : GoodIn wsX4_passByDraws (wsV RX4 98 RX4 yX4_hear wsX4_hear) := goodIn_app (goodIn_of _ (by decide +kernel)) ggX4_passByDraws_X4_hear
set_option maxRecDepth 20000 in
theorem ggX4_passByDraws_X4_endSecond : GoodIn wsX4_passByDraws wsX4_endSecond := goodIn_r _ [66, 20, 41, 42, 43, 44, 67, 68, 69, 70, 2, 71, 19, 72, 73, 74, 75, 76, 77, 78, 79, 80, 81, 82, 83] (by decide +kernel) (by decide +kernel)
set_option maxRecDepth 20000 in
theorem gX4_passByDraws_X4_endSecond : GoodIn wsX4_passByDraws (wsV RX4 102 RX4 yX4_endSecond wsX4_endSecond) := goodIn_app (goodIn_of _ (by decide +kernel)) ggX4_passByDraws_X4_endSecond
theorem dX4_passByDraws_0 : decode cX4_passByDraws 0 = .ok (.iconst 0, 1) := by decide +kernel
theorem dX4_passByDraws_1 : decode cX4_passByDraws 1 = .ok (.istore_n 1, 1) := by decide +kernel
theorem dX4_passByDraws_2 : decode cX4_passByDraws 2 = .ok (.aload_n 0, 1) := by decide +kernel
theorem dX4_passByDraws_3 : decode cX4_passByDraws 3 = .ok (.getfield 46, 3) := by decide +kernel
theorem dX4_passByDraws_6 : decode cX4_passByDraws 6 = .ok (.ifCond .le 33, 3) := by decide +kernel
theorem dX4_passByDraws_9 : decode cX4_passByDraws 9 = .ok (.aload_n 0, 1) := by decide +kernel
theorem dX4_passByDraws_10 : decode cX4_passByDraws 10 = .ok (.invokevirtual 105, 3) := by decide +kernel
theorem dX4_passByDraws_13 : decode cX4_passByDraws 13 = .ok (.aload_n 0, 1) := by decide +kernel
theorem dX4_passByDraws_14 : decode cX4_passByDraws 14 = .ok (.getfield 46, 3) := by decide +kernel
theorem dX4_passByDraws_17 : decode cX4_passByDraws 17 = .ok (.irem, 1) := by decide +kernel
theorem dX4_passByDraws_18 : decode cX4_passByDraws 18 = .ok (.istore_n 2, 1) := by decide +kernel
theorem dX4_passByDraws_19 : decode cX4_passByDraws 19 = .ok (.aload_n 0, 1) := by decide +kernel
theorem dX4_passByDraws_20 : decode cX4_passByDraws 20 = .ok (.invokevirtual 105, 3) := by decide +kernel
theorem dX4_passByDraws_23 : decode cX4_passByDraws 23 = .ok (.bipush 100, 2) := by decide +kernel
theorem dX4_passByDraws_25 : decode cX4_passByDraws 25 = .ok (.irem, 1) := by decide +kernel
theorem dX4_passByDraws_26 : decode cX4_passByDraws 26 = .ok (.aload_n 0, 1) := by decide +kernel
theorem dX4_passByDraws_27 : decode cX4_passByDraws 27 = .ok (.getfield 9, 3) := by decide +kernel
theorem dX4_passByDraws_30 : decode cX4_passByDraws 30 = .ok (.iconst 3, 1) := by decide +kernel
theorem dX4_passByDraws_31 : decode cX4_passByDraws 31 = .ok (.iaload, 1) := by decide +kernel
theorem dX4_passByDraws_32 : decode cX4_passByDraws 32 = .ok (.if_icmp .ge 7, 3) := by decide +kernel
theorem dX4_passByDraws_35 : decode cX4_passByDraws 35 = .ok (.iconst 1, 1) := by decide +kernel
theorem dX4_passByDraws_36 : decode cX4_passByDraws 36 = .ok (.iload_n 2, 1) := by decide +kernel
theorem dX4_passByDraws_37 : decode cX4_passByDraws 37 = .ok (.ishl, 1) := by decide +kernel
theorem dX4_passByDraws_38 : decode cX4_passByDraws 38 = .ok (.istore_n 1, 1) := by decide +kernel
theorem dX4_passByDraws_39 : decode cX4_passByDraws 39 = .ok (.aload_n 0, 1) := by decide +kernel
theorem dX4_passByDraws_40 : decode cX4_passByDraws 40 = .ok (.invokevirtual 94, 3) := by decide +kernel
theorem dX4_passByDraws_43 : decode cX4_passByDraws 43 = .ok (.iload_n 1, 1) := by decide +kernel
theorem dX4_passByDraws_44 : decode cX4_passByDraws 44 = .ok (.ior, 1) := by decide +kernel
theorem dX4_passByDraws_45 : decode cX4_passByDraws 45 = .ok (.istore_n 2, 1) := by decide +kernel
theorem dX4_passByDraws_46 : decode cX4_passByDraws 46 = .ok (.aload_n 0, 1) := by decide +kernel
theorem dX4_passByDraws_47 : decode cX4_passByDraws 47 = .ok (.iload_n 2, 1) := by decide +kernel
theorem dX4_passByDraws_48 : decode cX4_passByDraws 48 = .ok (.invokevirtual 98, 3) := by decide +kernel
theorem dX4_passByDraws_51 : decode cX4_passByDraws 51 = .ok (.aload_n 0, 1) := by decide +kernel
theorem dX4_passByDraws_52 : decode cX4_passByDraws 52 = .ok (.iload_n 2, 1) := by decide +kernel
theorem dX4_passByDraws_53 : decode cX4_passByDraws 53 = .ok (.invokevirtual 102, 3) := by decide +kernel
theorem dX4_passByDraws_56 : decode cX4_passByDraws 56 = .ok (.return_, 1) := by decide +kernel
theorem dX4_draw_0 : decode cX4_draw 0 = .ok (.aload_n 0, 1) := by decide +kernel
theorem dX4_draw_1 : decode cX4_draw 1 = .ok (.aload_n 0, 1) := by decide +kernel
theorem dX4_draw_2 : decode cX4_draw 2 = .ok (.getfield 30, 3) := by decide +kernel
theorem dX4_draw_5 : decode cX4_draw 5 = .ok (.ldc 108, 2) := by decide +kernel
theorem dX4_draw_7 : decode cX4_draw 7 = .ok (.imul, 1) := by decide +kernel
theorem dX4_draw_8 : decode cX4_draw 8 = .ok (.sipush 12345, 3) := by decide +kernel
theorem dX4_draw_11 : decode cX4_draw 11 = .ok (.iadd, 1) := by decide +kernel
theorem dX4_draw_12 : decode cX4_draw 12 = .ok (.putfield 30, 3) := by decide +kernel
theorem dX4_draw_15 : decode cX4_draw 15 = .ok (.aload_n 0, 1) := by decide +kernel
theorem dX4_draw_16 : decode cX4_draw 16 = .ok (.getfield 30, 3) := by decide +kernel
theorem dX4_draw_19 : decode cX4_draw 19 = .ok (.bipush 16, 2) := by decide +kernel
theorem dX4_draw_21 : decode cX4_draw 21 = .ok (.iushr, 1) := by decide +kernel
theorem dX4_draw_22 : decode cX4_draw 22 = .ok (.ireturn, 1) := by decide +kernel
set_option maxRecDepth 20000 in
theorem ggX4_hear_X4_heardOf : GoodIn wsX4_hear wsX4_heardOf := goodIn_r _ [12, 1, 2, 13, 14, 6, 15, 4, 5, 7, 16, 17, 18, 11, 19, 20, 21, 22, 30, 31, 32, 33, 34, 35, 36, 37, 38, 39, 40, 41] (by decide +kernel) (by decide +kernel)
set_option maxRecDepth 20000 in
theorem gX4_hear_X4_heardOf : GoodIn wsX4_hear (wsV RX4 109 RX4 yX4_heardOf wsX4_heardOf) := goodIn_app (goodIn_of _ (by decide +kernel)) ggX4_hear_X4_heardOf
set_option maxRecDepth 20000 in
theorem ggX4_hear_J6_bitCount_0f7a4 : GoodIn wsX4_hear wsJ6_bitCount_0f7a4 := goodIn_r _ [26, 27, 28, 29] (by decide +kernel) (by decide +kernel)
set_option maxRecDepth 20000 in
theorem gX4_hear_J6_bitCount_0f7a4 : GoodIn wsX4_hear (va_wsS RX4 112 yJ6_bitCount_0f7a4 wsJ6_bitCount_0f7a4) := goodIn_app (goodIn_of _ (by decide +kernel)) ggX4_hear_J6_bitCount_0f7a4
theorem dX4_hear_0 : decode cX4_hear 0 = .ok (.iconst 0, 1) := by decide +kernel
theorem dX4_hear_1 : decode cX4_hear 1 = .ok (.istore_n 2, 1) := by decide +kernel
theorem dX4_hear_2 : decode cX4_hear 2 = .ok (.iload_n 2, 1) := by decide +kernel
theorem dX4_hear_3 : decode cX4_hear 3 = .ok (.aload_n 0, 1) := by decide +kernel
theorem dX4_hear_4 : decode cX4_hear 4 = .ok (.getfield 46, 3) := by decide +kernel
theorem dX4_hear_7 : decode cX4_hear 7 = .ok (.if_icmp .ge 54, 3) := by decide +kernel
theorem dX4_hear_10 : decode cX4_hear 10 = .ok (.iload_n 1, 1) := by decide +kernel
theorem dX4_hear_11 : decode cX4_hear 11 = .ok (.ifCond .eq 50, 3) := by decide +kernel
theorem dX4_hear_14 : decode cX4_hear 14 = .ok (.aload_n 0, 1) := by decide +kernel
theorem dX4_hear_15 : decode cX4_hear 15 = .ok (.iload_n 1, 1) := by decide +kernel
theorem dX4_hear_16 : decode cX4_hear 16 = .ok (.aload_n 0, 1) := by decide +kernel
theorem dX4_hear_17 : decode cX4_hear 17 = .ok (.getfield 24, 3) := by decide +kernel
theorem dX4_hear_20 : decode cX4_hear 20 = .ok (.iload_n 2, 1) := by decide +kernel
theorem dX4_hear_21 : decode cX4_hear 21 = .ok (.iaload, 1) := by decide +kernel
theorem dX4_hear_22 : decode cX4_hear 22 = .ok (.invokevirtual 109, 3) := by decide +kernel
theorem dX4_hear_25 : decode cX4_hear 25 = .ok (.iconst 1, 1) := by decide +kernel
theorem dX4_hear_26 : decode cX4_hear 26 = .ok (.iload_n 2, 1) := by decide +kernel
theorem dX4_hear_27 : decode cX4_hear 27 = .ok (.ishl, 1) := by decide +kernel
theorem dX4_hear_28 : decode cX4_hear 28 = .ok (.iconst (-1), 1) := by decide +kernel
theorem dX4_hear_29 : decode cX4_hear 29 = .ok (.ixor, 1) := by decide +kernel
theorem dX4_hear_30 : decode cX4_hear 30 = .ok (.iand, 1) := by decide +kernel
theorem dX4_hear_31 : decode cX4_hear 31 = .ok (.istore_n 3, 1) := by decide +kernel
theorem dX4_hear_32 : decode cX4_hear 32 = .ok (.aload_n 0, 1) := by decide +kernel
theorem dX4_hear_33 : decode cX4_hear 33 = .ok (.getfield 27, 3) := by decide +kernel
theorem dX4_hear_36 : decode cX4_hear 36 = .ok (.iload_n 2, 1) := by decide +kernel
theorem dX4_hear_37 : decode cX4_hear 37 = .ok (.sipush 9999, 3) := by decide +kernel
theorem dX4_hear_40 : decode cX4_hear 40 = .ok (.aload_n 0, 1) := by decide +kernel
theorem dX4_hear_41 : decode cX4_hear 41 = .ok (.getfield 27, 3) := by decide +kernel
theorem dX4_hear_44 : decode cX4_hear 44 = .ok (.iload_n 2, 1) := by decide +kernel
theorem dX4_hear_45 : decode cX4_hear 45 = .ok (.iaload, 1) := by decide +kernel
theorem dX4_hear_46 : decode cX4_hear 46 = .ok (.iload_n 3, 1) := by decide +kernel
theorem dX4_hear_47 : decode cX4_hear 47 = .ok (.invokestatic 112, 3) := by decide +kernel
theorem dX4_hear_50 : decode cX4_hear 50 = .ok (.iadd, 1) := by decide +kernel
theorem dX4_hear_51 : decode cX4_hear 51 = .ok (.invokestatic 87, 3) := by decide +kernel
theorem dX4_hear_54 : decode cX4_hear 54 = .ok (.iastore, 1) := by decide +kernel
theorem dX4_hear_55 : decode cX4_hear 55 = .ok (.iinc 2 1, 3) := by decide +kernel
theorem dX4_hear_58 : decode cX4_hear 58 = .ok (.goto (-56), 3) := by decide +kernel
theorem dX4_hear_61 : decode cX4_hear 61 = .ok (.return_, 1) := by decide +kernel
theorem dX4_endSecond_0 : decode cX4_endSecond 0 = .ok (.aload_n 0, 1) := by decide +kernel
theorem dX4_endSecond_1 : decode cX4_endSecond 1 = .ok (.iload_n 1, 1) := by decide +kernel
theorem dX4_endSecond_2 : decode cX4_endSecond 2 = .ok (.ifCond .ne 18, 3) := by decide +kernel
theorem dX4_endSecond_5 : decode cX4_endSecond 5 = .ok (.sipush 9999, 3) := by decide +kernel
theorem dX4_endSecond_8 : decode cX4_endSecond 8 = .ok (.aload_n 0, 1) := by decide +kernel
theorem dX4_endSecond_9 : decode cX4_endSecond 9 = .ok (.getfield 55, 3) := by decide +kernel
theorem dX4_endSecond_12 : decode cX4_endSecond 12 = .ok (.iconst 1, 1) := by decide +kernel
theorem dX4_endSecond_13 : decode cX4_endSecond 13 = .ok (.iadd, 1) := by decide +kernel
theorem dX4_endSecond_14 : decode cX4_endSecond 14 = .ok (.invokestatic 87, 3) := by decide +kernel
theorem dX4_endSecond_17 : decode cX4_endSecond 17 = .ok (.goto 4, 3) := by decide +kernel
theorem dX4_endSecond_20 : decode cX4_endSecond 20 = .ok (.iconst 0, 1) := by decide +kernel
theorem dX4_endSecond_21 : decode cX4_endSecond 21 = .ok (.putfield 55, 3) := by decide +kernel
theorem dX4_endSecond_24 : decode cX4_endSecond 24 = .ok (.aload_n 0, 1) := by decide +kernel
theorem dX4_endSecond_25 : decode cX4_endSecond 25 = .ok (.aload_n 0, 1) := by decide +kernel
theorem dX4_endSecond_26 : decode cX4_endSecond 26 = .ok (.getfield 58, 3) := by decide +kernel
theorem dX4_endSecond_29 : decode cX4_endSecond 29 = .ok (.aload_n 0, 1) := by decide +kernel
theorem dX4_endSecond_30 : decode cX4_endSecond 30 = .ok (.getfield 55, 3) := by decide +kernel
theorem dX4_endSecond_33 : decode cX4_endSecond 33 = .ok (.invokestatic 117, 3) := by decide +kernel
theorem dX4_endSecond_36 : decode cX4_endSecond 36 = .ok (.putfield 58, 3) := by decide +kernel
theorem dX4_endSecond_39 : decode cX4_endSecond 39 = .ok (.aload_n 0, 1) := by decide +kernel
theorem dX4_endSecond_40 : decode cX4_endSecond 40 = .ok (.getfield 55, 3) := by decide +kernel
theorem dX4_endSecond_43 : decode cX4_endSecond 43 = .ok (.aload_n 0, 1) := by decide +kernel
theorem dX4_endSecond_44 : decode cX4_endSecond 44 = .ok (.getfield 9, 3) := by decide +kernel
theorem dX4_endSecond_47 : decode cX4_endSecond 47 = .ok (.iconst 0, 1) := by decide +kernel
theorem dX4_endSecond_48 : decode cX4_endSecond 48 = .ok (.iaload, 1) := by decide +kernel
theorem dX4_endSecond_49 : decode cX4_endSecond 49 = .ok (.if_icmp .lt 8, 3) := by decide +kernel
theorem dX4_endSecond_52 : decode cX4_endSecond 52 = .ok (.aload_n 0, 1) := by decide +kernel
theorem dX4_endSecond_53 : decode cX4_endSecond 53 = .ok (.iconst 1, 1) := by decide +kernel
theorem dX4_endSecond_54 : decode cX4_endSecond 54 = .ok (.putfield 61, 3) := by decide +kernel
theorem dX4_endSecond_57 : decode cX4_endSecond 57 = .ok (.aload_n 0, 1) := by decide +kernel
theorem dX4_endSecond_58 : decode cX4_endSecond 58 = .ok (.dup, 1) := by decide +kernel
theorem dX4_endSecond_59 : decode cX4_endSecond 59 = .ok (.getfield 49, 3) := by decide +kernel
theorem dX4_endSecond_62 : decode cX4_endSecond 62 = .ok (.iconst 1, 1) := by decide +kernel
theorem dX4_endSecond_63 : decode cX4_endSecond 63 = .ok (.iadd, 1) := by decide +kernel
theorem dX4_endSecond_64 : decode cX4_endSecond 64 = .ok (.putfield 49, 3) := by decide +kernel
theorem dX4_endSecond_67 : decode cX4_endSecond 67 = .ok (.return_, 1) := by decide +kernel
set_option maxRecDepth 20000 in
theorem ggX4_longestWithin_X4_soundingSet : GoodIn wsX4_longestWithin wsX4_soundingSet := goodIn_r _ [10, 11, 12, 13, 14, 9, 15, 16, 17, 1, 18, 19, 20, 21, 22, 23, 24, 25, 26, 27, 28, 29, 30, 31, 32, 42, 43, 44, 45, 46, 47, 48, 49, 50, 51, 52, 53] (by decide +kernel) (by decide +kernel)
set_option maxRecDepth 20000 in
theorem gX4_longestWithin_X4_soundingSet : GoodIn wsX4_longestWithin (wsV RX4 94 RX4 yX4_soundingSet wsX4_soundingSet) := goodIn_app (goodIn_of _ (by decide +kernel)) ggX4_longestWithin_X4_soundingSet
set_option maxRecDepth 20000 in
theorem ggX4_longestWithin_X4_endSecond : GoodIn wsX4_longestWithin wsX4_endSecond := goodIn_r _ [36, 1, 37, 38, 4, 39, 40, 2, 3, 5, 19, 41, 17, 42, 43, 44, 45, 46, 47, 48, 49, 50, 51, 52, 53] (by decide +kernel) (by decide +kernel)
set_option maxRecDepth 20000 in
theorem gX4_longestWithin_X4_endSecond : GoodIn wsX4_longestWithin (wsV RX4 102 RX4 yX4_endSecond wsX4_endSecond) := goodIn_app (goodIn_of _ (by decide +kernel)) ggX4_longestWithin_X4_endSecond
theorem dX4_longestWithin_0 : decode cX4_longestWithin 0 = .ok (.iconst 0, 1) := by decide +kernel
theorem dX4_longestWithin_1 : decode cX4_longestWithin 1 = .ok (.istore_n 2, 1) := by decide +kernel
theorem dX4_longestWithin_2 : decode cX4_longestWithin 2 = .ok (.iconst 0, 1) := by decide +kernel
theorem dX4_longestWithin_3 : decode cX4_longestWithin 3 = .ok (.istore_n 3, 1) := by decide +kernel
theorem dX4_longestWithin_4 : decode cX4_longestWithin 4 = .ok (.iload_n 3, 1) := by decide +kernel
theorem dX4_longestWithin_5 : decode cX4_longestWithin 5 = .ok (.iload_n 1, 1) := by decide +kernel
theorem dX4_longestWithin_6 : decode cX4_longestWithin 6 = .ok (.if_icmp .ge 26, 3) := by decide +kernel
theorem dX4_longestWithin_9 : decode cX4_longestWithin 9 = .ok (.aload_n 0, 1) := by decide +kernel
theorem dX4_longestWithin_10 : decode cX4_longestWithin 10 = .ok (.aload_n 0, 1) := by decide +kernel
theorem dX4_longestWithin_11 : decode cX4_longestWithin 11 = .ok (.invokevirtual 94, 3) := by decide +kernel
theorem dX4_longestWithin_14 : decode cX4_longestWithin 14 = .ok (.invokevirtual 102, 3) := by decide +kernel
theorem dX4_longestWithin_17 : decode cX4_longestWithin 17 = .ok (.iload_n 2, 1) := by decide +kernel
theorem dX4_longestWithin_18 : decode cX4_longestWithin 18 = .ok (.aload_n 0, 1) := by decide +kernel
theorem dX4_longestWithin_19 : decode cX4_longestWithin 19 = .ok (.getfield 55, 3) := by decide +kernel
theorem dX4_longestWithin_22 : decode cX4_longestWithin 22 = .ok (.invokestatic 117, 3) := by decide +kernel
theorem dX4_longestWithin_25 : decode cX4_longestWithin 25 = .ok (.istore_n 2, 1) := by decide +kernel
theorem dX4_longestWithin_26 : decode cX4_longestWithin 26 = .ok (.iinc 3 1, 3) := by decide +kernel
theorem dX4_longestWithin_29 : decode cX4_longestWithin 29 = .ok (.goto (-25), 3) := by decide +kernel
theorem dX4_longestWithin_32 : decode cX4_longestWithin 32 = .ok (.iload_n 2, 1) := by decide +kernel
theorem dX4_longestWithin_33 : decode cX4_longestWithin 33 = .ok (.ireturn, 1) := by decide +kernel
theorem dX4_noiseOfAll_0 : decode cX4_noiseOfAll 0 = .ok (.iconst 0, 1) := by decide +kernel
theorem dX4_noiseOfAll_1 : decode cX4_noiseOfAll 1 = .ok (.istore_n 1, 1) := by decide +kernel
theorem dX4_noiseOfAll_2 : decode cX4_noiseOfAll 2 = .ok (.iconst 0, 1) := by decide +kernel
theorem dX4_noiseOfAll_3 : decode cX4_noiseOfAll 3 = .ok (.istore_n 2, 1) := by decide +kernel
theorem dX4_noiseOfAll_4 : decode cX4_noiseOfAll 4 = .ok (.iload_n 2, 1) := by decide +kernel
theorem dX4_noiseOfAll_5 : decode cX4_noiseOfAll 5 = .ok (.aload_n 0, 1) := by decide +kernel
theorem dX4_noiseOfAll_6 : decode cX4_noiseOfAll 6 = .ok (.getfield 46, 3) := by decide +kernel
theorem dX4_noiseOfAll_9 : decode cX4_noiseOfAll 9 = .ok (.if_icmp .ge 18, 3) := by decide +kernel
theorem dX4_noiseOfAll_12 : decode cX4_noiseOfAll 12 = .ok (.iload_n 1, 1) := by decide +kernel
theorem dX4_noiseOfAll_13 : decode cX4_noiseOfAll 13 = .ok (.aload_n 0, 1) := by decide +kernel
theorem dX4_noiseOfAll_14 : decode cX4_noiseOfAll 14 = .ok (.getfield 27, 3) := by decide +kernel
theorem dX4_noiseOfAll_17 : decode cX4_noiseOfAll 17 = .ok (.iload_n 2, 1) := by decide +kernel
theorem dX4_noiseOfAll_18 : decode cX4_noiseOfAll 18 = .ok (.iaload, 1) := by decide +kernel
theorem dX4_noiseOfAll_19 : decode cX4_noiseOfAll 19 = .ok (.iadd, 1) := by decide +kernel
theorem dX4_noiseOfAll_20 : decode cX4_noiseOfAll 20 = .ok (.istore_n 1, 1) := by decide +kernel
theorem dX4_noiseOfAll_21 : decode cX4_noiseOfAll 21 = .ok (.iinc 2 1, 3) := by decide +kernel
theorem dX4_noiseOfAll_24 : decode cX4_noiseOfAll 24 = .ok (.goto (-20), 3) := by decide +kernel
theorem dX4_noiseOfAll_27 : decode cX4_noiseOfAll 27 = .ok (.iload_n 1, 1) := by decide +kernel
theorem dX4_noiseOfAll_28 : decode cX4_noiseOfAll 28 = .ok (.ireturn, 1) := by decide +kernel
theorem dX4_thoseWithNoise_0 : decode cX4_thoseWithNoise 0 = .ok (.iconst 0, 1) := by decide +kernel
theorem dX4_thoseWithNoise_1 : decode cX4_thoseWithNoise 1 = .ok (.istore_n 1, 1) := by decide +kernel
theorem dX4_thoseWithNoise_2 : decode cX4_thoseWithNoise 2 = .ok (.iconst 0, 1) := by decide +kernel
theorem dX4_thoseWithNoise_3 : decode cX4_thoseWithNoise 3 = .ok (.istore_n 2, 1) := by decide +kernel
theorem dX4_thoseWithNoise_4 : decode cX4_thoseWithNoise 4 = .ok (.iload_n 2, 1) := by decide +kernel
theorem dX4_thoseWithNoise_5 : decode cX4_thoseWithNoise 5 = .ok (.aload_n 0, 1) := by decide +kernel
theorem dX4_thoseWithNoise_6 : decode cX4_thoseWithNoise 6 = .ok (.getfield 46, 3) := by decide +kernel
theorem dX4_thoseWithNoise_9 : decode cX4_thoseWithNoise 9 = .ok (.if_icmp .ge 21, 3) := by decide +kernel
theorem dX4_thoseWithNoise_12 : decode cX4_thoseWithNoise 12 = .ok (.aload_n 0, 1) := by decide +kernel
theorem dX4_thoseWithNoise_13 : decode cX4_thoseWithNoise 13 = .ok (.getfield 27, 3) := by decide +kernel
theorem dX4_thoseWithNoise_16 : decode cX4_thoseWithNoise 16 = .ok (.iload_n 2, 1) := by decide +kernel
theorem dX4_thoseWithNoise_17 : decode cX4_thoseWithNoise 17 = .ok (.iaload, 1) := by decide +kernel
theorem dX4_thoseWithNoise_18 : decode cX4_thoseWithNoise 18 = .ok (.ifCond .le 6, 3) := by decide +kernel
theorem dX4_thoseWithNoise_21 : decode cX4_thoseWithNoise 21 = .ok (.iinc 1 1, 3) := by decide +kernel
theorem dX4_thoseWithNoise_24 : decode cX4_thoseWithNoise 24 = .ok (.iinc 2 1, 3) := by decide +kernel
theorem dX4_thoseWithNoise_27 : decode cX4_thoseWithNoise 27 = .ok (.goto (-23), 3) := by decide +kernel
theorem dX4_thoseWithNoise_30 : decode cX4_thoseWithNoise 30 = .ok (.iload_n 1, 1) := by decide +kernel
theorem dX4_thoseWithNoise_31 : decode cX4_thoseWithNoise 31 = .ok (.ireturn, 1) := by decide +kernel
set_option maxRecDepth 20000 in
theorem ggX4_cornersTaken_X4_setAt : GoodIn wsX4_cornersTaken wsX4_setAt := goodIn_r _ [5, 6, 7, 8, 9, 10, 11, 12, 13, 14, 15, 16, 17, 18, 19] (by decide +kernel) (by decide +kernel)
set_option maxRecDepth 20000 in
theorem gX4_cornersTaken_X4_setAt : GoodIn wsX4_cornersTaken (wsV RX4 120 RX4 yX4_setAt wsX4_setAt) := goodIn_app (goodIn_of _ (by decide +kernel)) ggX4_cornersTaken_X4_setAt
theorem dX4_cornersTaken_0 : decode cX4_cornersTaken 0 = .ok (.iconst 0, 1) := by decide +kernel
theorem dX4_cornersTaken_1 : decode cX4_cornersTaken 1 = .ok (.istore_n 1, 1) := by decide +kernel
theorem dX4_cornersTaken_2 : decode cX4_cornersTaken 2 = .ok (.iconst 0, 1) := by decide +kernel
theorem dX4_cornersTaken_3 : decode cX4_cornersTaken 3 = .ok (.istore_n 2, 1) := by decide +kernel
theorem dX4_cornersTaken_4 : decode cX4_cornersTaken 4 = .ok (.iload_n 2, 1) := by decide +kernel
theorem dX4_cornersTaken_5 : decode cX4_cornersTaken 5 = .ok (.bipush 12, 2) := by decide +kernel
theorem dX4_cornersTaken_7 : decode cX4_cornersTaken 7 = .ok (.if_icmp .ge 20, 3) := by decide +kernel
theorem dX4_cornersTaken_10 : decode cX4_cornersTaken 10 = .ok (.aload_n 0, 1) := by decide +kernel
theorem dX4_cornersTaken_11 : decode cX4_cornersTaken 11 = .ok (.iload_n 2, 1) := by decide +kernel
theorem dX4_cornersTaken_12 : decode cX4_cornersTaken 12 = .ok (.invokevirtual 120, 3) := by decide +kernel
theorem dX4_cornersTaken_15 : decode cX4_cornersTaken 15 = .ok (.ifCond .eq 6, 3) := by decide +kernel
theorem dX4_cornersTaken_18 : decode cX4_cornersTaken 18 = .ok (.iinc 1 1, 3) := by decide +kernel
theorem dX4_cornersTaken_21 : decode cX4_cornersTaken 21 = .ok (.iinc 2 1, 3) := by decide +kernel
theorem dX4_cornersTaken_24 : decode cX4_cornersTaken 24 = .ok (.goto (-20), 3) := by decide +kernel
theorem dX4_cornersTaken_27 : decode cX4_cornersTaken 27 = .ok (.iload_n 1, 1) := by decide +kernel
theorem dX4_cornersTaken_28 : decode cX4_cornersTaken 28 = .ok (.ireturn, 1) := by decide +kernel
set_option maxRecDepth 20000 in
theorem ggX5_init_X4_init : GoodIn wsX5_init wsX4_init := goodIn_r _ [30, 31, 2, 3, 14, 32, 33, 34, 35, 36, 37, 38, 39, 40, 41, 6, 42, 43, 44, 45, 46, 47, 48, 49, 50, 51, 52, 53, 54, 55, 74, 75, 76, 77, 78, 79, 80, 81, 82, 83, 84, 85] (by decide +kernel) (by decide +kernel)
set_option maxRecDepth 20000 in
theorem gX5_init_X4_init : GoodIn wsX5_init (wsX4_init) := ggX5_init_X4_init
set_option maxRecDepth 20000 in
theorem ggX5_init_X3_init : GoodIn wsX5_init wsX3_init := goodIn_r _ [57, 58, 2, 3, 14, 59, 96, 97, 98, 99, 100, 101] (by decide +kernel) (by decide +kernel)
set_option maxRecDepth 20000 in
theorem gX5_init_X3_init_n24 : GoodIn wsX5_init (wsX3_init) := ggX5_init_X3_init
set_option maxRecDepth 20000 in
theorem ggX5_init_X0_init : GoodIn wsX5_init wsX0_init := goodIn_r _ [61, 62, 2, 3, 14, 63, 102, 103, 104, 105, 106, 107] (by decide +kernel) (by decide +kernel)
set_option maxRecDepth 20000 in
theorem gX5_init_X0_init_n47 : GoodIn wsX5_init (wsX0_init) := ggX5_init_X0_init
set_option maxRecDepth 20000 in
theorem ggX5_init_X1_init : GoodIn wsX5_init wsX1_init := goodIn_r _ [65, 66, 2, 3, 67, 68, 69, 108, 109, 110] (by decide +kernel) (by decide +kernel)
set_option maxRecDepth 20000 in
theorem gX5_init_X1_init_n52 : GoodIn wsX5_init (wsX1_init) := ggX5_init_X1_init
set_option maxRecDepth 20000 in
theorem ggX5_init_X2_init : GoodIn wsX5_init wsX2_init := goodIn_r _ [71, 72, 2, 3, 73, 111, 112, 113, 114] (by decide +kernel) (by decide +kernel)
set_option maxRecDepth 20000 in
theorem gX5_init_X2_init_n53 : GoodIn wsX5_init (wsX2_init) := ggX5_init_X2_init
theorem dX5_init_0 : decode cX5_init 0 = .ok (.aload_n 0, 1) := by decide +kernel
theorem dX5_init_1 : decode cX5_init 1 = .ok (.invokespecial 1, 3) := by decide +kernel
theorem dX5_init_4 : decode cX5_init 4 = .ok (.aload_n 0, 1) := by decide +kernel
theorem dX5_init_5 : decode cX5_init 5 = .ok (.new 7, 3) := by decide +kernel
theorem dX5_init_8 : decode cX5_init 8 = .ok (.dup, 1) := by decide +kernel
theorem dX5_init_9 : decode cX5_init 9 = .ok (.invokespecial 9, 3) := by decide +kernel
theorem dX5_init_12 : decode cX5_init 12 = .ok (.putfield 10, 3) := by decide +kernel
theorem dX5_init_15 : decode cX5_init 15 = .ok (.aload_n 0, 1) := by decide +kernel
theorem dX5_init_16 : decode cX5_init 16 = .ok (.new 7, 3) := by decide +kernel
theorem dX5_init_19 : decode cX5_init 19 = .ok (.dup, 1) := by decide +kernel
theorem dX5_init_20 : decode cX5_init 20 = .ok (.invokespecial 9, 3) := by decide +kernel
theorem dX5_init_23 : decode cX5_init 23 = .ok (.putfield 16, 3) := by decide +kernel
theorem dX5_init_26 : decode cX5_init 26 = .ok (.aload_n 0, 1) := by decide +kernel
theorem dX5_init_27 : decode cX5_init 27 = .ok (.new 7, 3) := by decide +kernel
theorem dX5_init_30 : decode cX5_init 30 = .ok (.dup, 1) := by decide +kernel
theorem dX5_init_31 : decode cX5_init 31 = .ok (.invokespecial 9, 3) := by decide +kernel
theorem dX5_init_34 : decode cX5_init 34 = .ok (.putfield 19, 3) := by decide +kernel
theorem dX5_init_37 : decode cX5_init 37 = .ok (.aload_n 0, 1) := by decide +kernel
theorem dX5_init_38 : decode cX5_init 38 = .ok (.new 22, 3) := by decide +kernel
theorem dX5_init_41 : decode cX5_init 41 = .ok (.dup, 1) := by decide +kernel
theorem dX5_init_42 : decode cX5_init 42 = .ok (.invokespecial 24, 3) := by decide +kernel
theorem dX5_init_45 : decode cX5_init 45 = .ok (.putfield 25, 3) := by decide +kernel
theorem dX5_init_48 : decode cX5_init 48 = .ok (.aload_n 0, 1) := by decide +kernel
theorem dX5_init_49 : decode cX5_init 49 = .ok (.bipush 30, 2) := by decide +kernel
theorem dX5_init_51 : decode cX5_init 51 = .ok (.newarray .int, 2) := by decide +kernel
theorem dX5_init_53 : decode cX5_init 53 = .ok (.putfield 29, 3) := by decide +kernel
theorem dX5_init_56 : decode cX5_init 56 = .ok (.aload_n 0, 1) := by decide +kernel
theorem dX5_init_57 : decode cX5_init 57 = .ok (.iconst 4, 1) := by decide +kernel
theorem dX5_init_58 : decode cX5_init 58 = .ok (.anewarray 33, 3) := by decide +kernel
theorem dX5_init_61 : decode cX5_init 61 = .ok (.putfield 35, 3) := by decide +kernel
theorem dX5_init_64 : decode cX5_init 64 = .ok (.aload_n 0, 1) := by decide +kernel
theorem dX5_init_65 : decode cX5_init 65 = .ok (.iconst 4, 1) := by decide +kernel
theorem dX5_init_66 : decode cX5_init 66 = .ok (.anewarray 39, 3) := by decide +kernel
theorem dX5_init_69 : decode cX5_init 69 = .ok (.putfield 41, 3) := by decide +kernel
theorem dX5_init_72 : decode cX5_init 72 = .ok (.aload_n 0, 1) := by decide +kernel
theorem dX5_init_73 : decode cX5_init 73 = .ok (.new 45, 3) := by decide +kernel
theorem dX5_init_76 : decode cX5_init 76 = .ok (.dup, 1) := by decide +kernel
theorem dX5_init_77 : decode cX5_init 77 = .ok (.invokespecial 47, 3) := by decide +kernel
theorem dX5_init_80 : decode cX5_init 80 = .ok (.putfield 48, 3) := by decide +kernel
theorem dX5_init_83 : decode cX5_init 83 = .ok (.iconst 0, 1) := by decide +kernel
theorem dX5_init_84 : decode cX5_init 84 = .ok (.istore_n 1, 1) := by decide +kernel
theorem dX5_init_85 : decode cX5_init 85 = .ok (.iload_n 1, 1) := by decide +kernel
theorem dX5_init_86 : decode cX5_init 86 = .ok (.iconst 4, 1) := by decide +kernel
theorem dX5_init_87 : decode cX5_init 87 = .ok (.if_icmp .ge 22, 3) := by decide +kernel
theorem dX5_init_90 : decode cX5_init 90 = .ok (.aload_n 0, 1) := by decide +kernel
theorem dX5_init_91 : decode cX5_init 91 = .ok (.getfield 35, 3) := by decide +kernel
theorem dX5_init_94 : decode cX5_init 94 = .ok (.iload_n 1, 1) := by decide +kernel
theorem dX5_init_95 : decode cX5_init 95 = .ok (.new 33, 3) := by decide +kernel
theorem dX5_init_98 : decode cX5_init 98 = .ok (.dup, 1) := by decide +kernel
theorem dX5_init_99 : decode cX5_init 99 = .ok (.invokespecial 52, 3) := by decide +kernel
theorem dX5_init_102 : decode cX5_init 102 = .ok (.aastore, 1) := by decide +kernel
theorem dX5_init_103 : decode cX5_init 103 = .ok (.iinc 1 1, 3) := by decide +kernel
theorem dX5_init_106 : decode cX5_init 106 = .ok (.goto (-21), 3) := by decide +kernel
theorem dX5_init_109 : decode cX5_init 109 = .ok (.iconst 0, 1) := by decide +kernel
theorem dX5_init_110 : decode cX5_init 110 = .ok (.istore_n 1, 1) := by decide +kernel
theorem dX5_init_111 : decode cX5_init 111 = .ok (.iload_n 1, 1) := by decide +kernel
theorem dX5_init_112 : decode cX5_init 112 = .ok (.iconst 4, 1) := by decide +kernel
theorem dX5_init_113 : decode cX5_init 113 = .ok (.if_icmp .ge 22, 3) := by decide +kernel
theorem dX5_init_116 : decode cX5_init 116 = .ok (.aload_n 0, 1) := by decide +kernel
theorem dX5_init_117 : decode cX5_init 117 = .ok (.getfield 41, 3) := by decide +kernel
theorem dX5_init_120 : decode cX5_init 120 = .ok (.iload_n 1, 1) := by decide +kernel
theorem dX5_init_121 : decode cX5_init 121 = .ok (.new 39, 3) := by decide +kernel
theorem dX5_init_124 : decode cX5_init 124 = .ok (.dup, 1) := by decide +kernel
theorem dX5_init_125 : decode cX5_init 125 = .ok (.invokespecial 53, 3) := by decide +kernel
theorem dX5_init_128 : decode cX5_init 128 = .ok (.aastore, 1) := by decide +kernel
theorem dX5_init_129 : decode cX5_init 129 = .ok (.iinc 1 1, 3) := by decide +kernel
theorem dX5_init_132 : decode cX5_init 132 = .ok (.goto (-21), 3) := by decide +kernel
theorem dX5_init_135 : decode cX5_init 135 = .ok (.return_, 1) := by decide +kernel
set_option maxRecDepth 20000 in
theorem ggX5_feed_X3_append : GoodIn wsX5_feed wsX3_append := goodIn_r _ [7, 8, 9, 20, 21, 22, 23, 24, 25] (by decide +kernel) (by decide +kernel)
set_option maxRecDepth 20000 in
theorem gX5_feed_X3_append : GoodIn wsX5_feed (wsV RX5 58 RX3 yX3_append wsX3_append) := goodIn_app (goodIn_of _ (by decide +kernel)) ggX5_feed_X3_append
theorem dX5_feed_0 : decode cX5_feed 0 = .ok (.iload_n 3, 1) := by decide +kernel
theorem dX5_feed_1 : decode cX5_feed 1 = .ok (.iconst 1, 1) := by decide +kernel
theorem dX5_feed_2 : decode cX5_feed 2 = .ok (.if_icmp .lt 9, 3) := by decide +kernel
theorem dX5_feed_5 : decode cX5_feed 5 = .ok (.iload_n 3, 1) := by decide +kernel
theorem dX5_feed_6 : decode cX5_feed 6 = .ok (.bipush 8, 2) := by decide +kernel
theorem dX5_feed_8 : decode cX5_feed 8 = .ok (.if_icmp .le 5, 3) := by decide +kernel
theorem dX5_feed_11 : decode cX5_feed 11 = .ok (.iconst (-1), 1) := by decide +kernel
theorem dX5_feed_12 : decode cX5_feed 12 = .ok (.ireturn, 1) := by decide +kernel
theorem dX5_feed_13 : decode cX5_feed 13 = .ok (.aload_n 0, 1) := by decide +kernel
theorem dX5_feed_14 : decode cX5_feed 14 = .ok (.getfield 25, 3) := by decide +kernel
theorem dX5_feed_17 : decode cX5_feed 17 = .ok (.getfield 54, 3) := by decide +kernel
theorem dX5_feed_20 : decode cX5_feed 20 = .ok (.iload_n 3, 1) := by decide +kernel
theorem dX5_feed_21 : decode cX5_feed 21 = .ok (.iadd, 1) := by decide +kernel
theorem dX5_feed_22 : decode cX5_feed 22 = .ok (.sipush 200, 3) := by decide +kernel
theorem dX5_feed_25 : decode cX5_feed 25 = .ok (.if_icmp .le 6, 3) := by decide +kernel
theorem dX5_feed_28 : decode cX5_feed 28 = .ok (.bipush (-2), 2) := by decide +kernel
theorem dX5_feed_30 : decode cX5_feed 30 = .ok (.ireturn, 1) := by decide +kernel
theorem dX5_feed_31 : decode cX5_feed 31 = .ok (.iconst 0, 1) := by decide +kernel
theorem dX5_feed_32 : decode cX5_feed 32 = .ok (.istore 4, 2) := by decide +kernel
theorem dX5_feed_34 : decode cX5_feed 34 = .ok (.iload 4, 2) := by decide +kernel
theorem dX5_feed_36 : decode cX5_feed 36 = .ok (.iload_n 3, 1) := by decide +kernel
theorem dX5_feed_37 : decode cX5_feed 37 = .ok (.if_icmp .ge 28, 3) := by decide +kernel
theorem dX5_feed_40 : decode cX5_feed 40 = .ok (.aload_n 0, 1) := by decide +kernel
theorem dX5_feed_41 : decode cX5_feed 41 = .ok (.getfield 25, 3) := by decide +kernel
theorem dX5_feed_44 : decode cX5_feed 44 = .ok (.lload_n 1, 1) := by decide +kernel
theorem dX5_feed_45 : decode cX5_feed 45 = .ok (.bipush 8, 2) := by decide +kernel
theorem dX5_feed_47 : decode cX5_feed 47 = .ok (.iload 4, 2) := by decide +kernel
theorem dX5_feed_49 : decode cX5_feed 49 = .ok (.imul, 1) := by decide +kernel
theorem dX5_feed_50 : decode cX5_feed 50 = .ok (.lushr, 1) := by decide +kernel
theorem dX5_feed_51 : decode cX5_feed 51 = .ok (.l2i, 1) := by decide +kernel
theorem dX5_feed_52 : decode cX5_feed 52 = .ok (.sipush 255, 3) := by decide +kernel
theorem dX5_feed_55 : decode cX5_feed 55 = .ok (.iand, 1) := by decide +kernel
theorem dX5_feed_56 : decode cX5_feed 56 = .ok (.invokevirtual 58, 3) := by decide +kernel
theorem dX5_feed_59 : decode cX5_feed 59 = .ok (.iinc 4 1, 3) := by decide +kernel
theorem dX5_feed_62 : decode cX5_feed 62 = .ok (.goto (-28), 3) := by decide +kernel
theorem dX5_feed_65 : decode cX5_feed 65 = .ok (.aload_n 0, 1) := by decide +kernel
theorem dX5_feed_66 : decode cX5_feed 66 = .ok (.getfield 25, 3) := by decide +kernel
theorem dX5_feed_69 : decode cX5_feed 69 = .ok (.getfield 54, 3) := by decide +kernel
theorem dX5_feed_72 : decode cX5_feed 72 = .ok (.ireturn, 1) := by decide +kernel
set_option maxRecDepth 20000 in
theorem ggX5_town_X4_copyFrom : GoodIn wsX5_town wsX4_copyFrom := goodIn_r _ [11, 12, 13, 14, 15, 16, 17, 18, 19, 20, 21, 22, 23, 24, 25, 26, 27, 169, 170, 171, 172, 173, 174, 175, 176, 177, 178, 179, 180] (by decide +kernel) (by decide +kernel)
set_option maxRecDepth 20000 in
theorem gX5_town_X4_copyFrom : GoodIn wsX5_town (wsV RX5 62 RX4 yX4_copyFrom wsX4_copyFrom) := goodIn_app (goodIn_of _ (by decide +kernel)) ggX5_town_X4_copyFrom
set_option maxRecDepth 20000 in
theorem ggX5_town_X4_clear : GoodIn wsX5_town wsX4_clear := goodIn_r _ [31, 12, 13, 14, 15, 16, 22, 23, 32, 33, 34, 10, 35, 24, 25, 26, 21, 169, 170, 171, 172, 173, 174, 175, 176, 177, 178, 179, 180] (by decide +kernel) (by decide +kernel)
set_option maxRecDepth 20000 in
theorem gX5_town_X4_clear : GoodIn wsX5_town (wsV RX5 66 RX4 yX4_clear wsX4_clear) := goodIn_app (goodIn_of _ (by decide +kernel)) ggX5_town_X4_clear
set_option maxRecDepth 20000 in
theorem ggX5_town_X3_readInto : GoodIn wsX5_town wsX3_readInto := goodIn_r _ [40, 41, 42, 43, 44, 45, 46, 39, 47, 48, 49, 50, 51, 52, 53, 54, 55, 56, 57, 58, 59, 60, 61, 62, 63, 64, 65, 66, 67, 68, 69, 70, 71, 72, 73, 74, 75, 76, 77, 78, 79, 80, 81, 82, 83, 84, 85, 86, 87, 88, 89, 90, 91, 92, 93, 94, 95, 96, 97, 98, 99, 100, 101, 102, 103, 104, 105, 106, 107, 108, 109, 110, 111, 112, 113, 114, 115, 116, 117, 118, 119, 120, 121, 122, 123, 124, 125, 126, 127, 128, 129, 130, 131, 132, 133, 134, 135, 136, 137, 138, 139, 140, 141, 142, 143, 144, 145, 146, 147, 148, 149, 150, 151, 10, 152, 22, 17, 18, 19, 20, 21, 163, 164, 165, 166, 167, 168, 169, 170, 171, 172, 173, 174, 175, 176, 177, 178, 179, 180] (by decide +kernel) (by decide +kernel)
set_option maxRecDepth 20000 in
theorem gX5_town_X3_readInto : GoodIn wsX5_town (wsV RX5 69 RX3 yX3_readInto wsX3_readInto) := goodIn_app (goodIn_of _ (by decide +kernel)) ggX5_town_X3_readInto
theorem dX5_town_0 : decode cX5_town 0 = .ok (.aload_n 0, 1) := by decide +kernel
theorem dX5_town_1 : decode cX5_town 1 = .ok (.getfield 16, 3) := by decide +kernel
theorem dX5_town_4 : decode cX5_town 4 = .ok (.aload_n 0, 1) := by decide +kernel
theorem dX5_town_5 : decode cX5_town 5 = .ok (.getfield 10, 3) := by decide +kernel
theorem dX5_town_8 : decode cX5_town 8 = .ok (.invokevirtual 62, 3) := by decide +kernel
theorem dX5_town_11 : decode cX5_town 11 = .ok (.aload_n 0, 1) := by decide +kernel
theorem dX5_town_12 : decode cX5_town 12 = .ok (.getfield 16, 3) := by decide +kernel
theorem dX5_town_15 : decode cX5_town 15 = .ok (.invokevirtual 66, 3) := by decide +kernel
theorem dX5_town_18 : decode cX5_town 18 = .ok (.aload_n 0, 1) := by decide +kernel
theorem dX5_town_19 : decode cX5_town 19 = .ok (.getfield 25, 3) := by decide +kernel
theorem dX5_town_22 : decode cX5_town 22 = .ok (.aload_n 0, 1) := by decide +kernel
theorem dX5_town_23 : decode cX5_town 23 = .ok (.getfield 16, 3) := by decide +kernel
theorem dX5_town_26 : decode cX5_town 26 = .ok (.invokevirtual 69, 3) := by decide +kernel
theorem dX5_town_29 : decode cX5_town 29 = .ok (.istore_n 1, 1) := by decide +kernel
theorem dX5_town_30 : decode cX5_town 30 = .ok (.aload_n 0, 1) := by decide +kernel
theorem dX5_town_31 : decode cX5_town 31 = .ok (.getfield 25, 3) := by decide +kernel
theorem dX5_town_34 : decode cX5_town 34 = .ok (.iconst 0, 1) := by decide +kernel
theorem dX5_town_35 : decode cX5_town 35 = .ok (.putfield 54, 3) := by decide +kernel
theorem dX5_town_38 : decode cX5_town 38 = .ok (.iload_n 1, 1) := by decide +kernel
theorem dX5_town_39 : decode cX5_town 39 = .ok (.ifCond .lt 8, 3) := by decide +kernel
theorem dX5_town_42 : decode cX5_town 42 = .ok (.bipush (-100), 2) := by decide +kernel
theorem dX5_town_44 : decode cX5_town 44 = .ok (.iload_n 1, 1) := by decide +kernel
theorem dX5_town_45 : decode cX5_town 45 = .ok (.isub, 1) := by decide +kernel
theorem dX5_town_46 : decode cX5_town 46 = .ok (.ireturn, 1) := by decide +kernel
theorem dX5_town_47 : decode cX5_town 47 = .ok (.aload_n 0, 1) := by decide +kernel
theorem dX5_town_48 : decode cX5_town 48 = .ok (.getfield 10, 3) := by decide +kernel
theorem dX5_town_51 : decode cX5_town 51 = .ok (.aload_n 0, 1) := by decide +kernel
theorem dX5_town_52 : decode cX5_town 52 = .ok (.getfield 16, 3) := by decide +kernel
theorem dX5_town_55 : decode cX5_town 55 = .ok (.invokevirtual 62, 3) := by decide +kernel
theorem dX5_town_58 : decode cX5_town 58 = .ok (.aload_n 0, 1) := by decide +kernel
theorem dX5_town_59 : decode cX5_town 59 = .ok (.iconst 0, 1) := by decide +kernel
theorem dX5_town_60 : decode cX5_town 60 = .ok (.putfield 73, 3) := by decide +kernel
theorem dX5_town_63 : decode cX5_town 63 = .ok (.aload_n 0, 1) := by decide +kernel
theorem dX5_town_64 : decode cX5_town 64 = .ok (.getfield 10, 3) := by decide +kernel
theorem dX5_town_67 : decode cX5_town 67 = .ok (.getfield 76, 3) := by decide +kernel
theorem dX5_town_70 : decode cX5_town 70 = .ok (.ireturn, 1) := by decide +kernel
set_option maxRecDepth 20000 in
theorem ggX5_set_X5_isIn : GoodIn wsX5_set wsX5_isIn := goodIn_r _ [8] (by decide +kernel) (by decide +kernel)
set_option maxRecDepth 20000 in
theorem gX5_set_X5_isIn : GoodIn wsX5_set (va_wsS RX5 79 yX5_isIn wsX5_isIn) := goodIn_app (goodIn_of _ (by decide +kernel)) ggX5_set_X5_isIn
theorem dX5_set_0 : decode cX5_set 0 = .ok (.iload_n 1, 1) := by decide +kernel
theorem dX5_set_1 : decode cX5_set 1 = .ok (.iconst 0, 1) := by decide +kernel
theorem dX5_set_2 : decode cX5_set 2 = .ok (.iconst 3, 1) := by decide +kernel
theorem dX5_set_3 : decode cX5_set 3 = .ok (.invokestatic 79, 3) := by decide +kernel
theorem dX5_set_6 : decode cX5_set 6 = .ok (.ifCond .eq 20, 3) := by decide +kernel
theorem dX5_set_9 : decode cX5_set 9 = .ok (.iload_n 2, 1) := by decide +kernel
theorem dX5_set_10 : decode cX5_set 10 = .ok (.getstatic 83, 3) := by decide +kernel
theorem dX5_set_13 : decode cX5_set 13 = .ok (.iload_n 1, 1) := by decide +kernel
theorem dX5_set_14 : decode cX5_set 14 = .ok (.iaload, 1) := by decide +kernel
theorem dX5_set_15 : decode cX5_set 15 = .ok (.getstatic 86, 3) := by decide +kernel
theorem dX5_set_18 : decode cX5_set 18 = .ok (.iload_n 1, 1) := by decide +kernel
theorem dX5_set_19 : decode cX5_set 19 = .ok (.iaload, 1) := by decide +kernel
theorem dX5_set_20 : decode cX5_set 20 = .ok (.invokestatic 79, 3) := by decide +kernel
theorem dX5_set_23 : decode cX5_set 23 = .ok (.ifCond .ne 5, 3) := by decide +kernel
theorem dX5_set_26 : decode cX5_set 26 = .ok (.iconst (-1), 1) := by decide +kernel
theorem dX5_set_27 : decode cX5_set 27 = .ok (.ireturn, 1) := by decide +kernel
theorem dX5_set_28 : decode cX5_set 28 = .ok (.aload_n 0, 1) := by decide +kernel
theorem dX5_set_29 : decode cX5_set 29 = .ok (.getfield 10, 3) := by decide +kernel
theorem dX5_set_32 : decode cX5_set 32 = .ok (.getfield 89, 3) := by decide +kernel
theorem dX5_set_35 : decode cX5_set 35 = .ok (.iload_n 1, 1) := by decide +kernel
theorem dX5_set_36 : decode cX5_set 36 = .ok (.iaload, 1) := by decide +kernel
theorem dX5_set_37 : decode cX5_set 37 = .ok (.istore_n 3, 1) := by decide +kernel
theorem dX5_set_38 : decode cX5_set 38 = .ok (.aload_n 0, 1) := by decide +kernel
theorem dX5_set_39 : decode cX5_set 39 = .ok (.getfield 10, 3) := by decide +kernel
theorem dX5_set_42 : decode cX5_set 42 = .ok (.getfield 89, 3) := by decide +kernel
theorem dX5_set_45 : decode cX5_set 45 = .ok (.iload_n 1, 1) := by decide +kernel
theorem dX5_set_46 : decode cX5_set 46 = .ok (.iload_n 2, 1) := by decide +kernel
theorem dX5_set_47 : decode cX5_set 47 = .ok (.iastore, 1) := by decide +kernel
theorem dX5_set_48 : decode cX5_set 48 = .ok (.iload_n 3, 1) := by decide +kernel
theorem dX5_set_49 : decode cX5_set 49 = .ok (.ireturn, 1) := by decide +kernel
set_option maxRecDepth 20000 in
theorem ggX5_lawOf_X5_isIn : GoodIn wsX5_lawOf wsX5_isIn := goodIn_r _ [6] (by decide +kernel) (by decide +kernel)
set_option maxRecDepth 20000 in
theorem gX5_lawOf_X5_isIn : GoodIn wsX5_lawOf (va_wsS RX5 79 yX5_isIn wsX5_isIn) := goodIn_app (goodIn_of _ (by decide +kernel)) ggX5_lawOf_X5_isIn
theorem dX5_lawOf_0 : decode cX5_lawOf 0 = .ok (.iload_n 1, 1) := by decide +kernel
theorem dX5_lawOf_1 : decode cX5_lawOf 1 = .ok (.iconst 0, 1) := by decide +kernel
theorem dX5_lawOf_2 : decode cX5_lawOf 2 = .ok (.iconst 3, 1) := by decide +kernel
theorem dX5_lawOf_3 : decode cX5_lawOf 3 = .ok (.invokestatic 79, 3) := by decide +kernel
theorem dX5_lawOf_6 : decode cX5_lawOf 6 = .ok (.ifCond .eq 15, 3) := by decide +kernel
theorem dX5_lawOf_9 : decode cX5_lawOf 9 = .ok (.aload_n 0, 1) := by decide +kernel
theorem dX5_lawOf_10 : decode cX5_lawOf 10 = .ok (.getfield 10, 3) := by decide +kernel
theorem dX5_lawOf_13 : decode cX5_lawOf 13 = .ok (.getfield 89, 3) := by decide +kernel
theorem dX5_lawOf_16 : decode cX5_lawOf 16 = .ok (.iload_n 1, 1) := by decide +kernel
theorem dX5_lawOf_17 : decode cX5_lawOf 17 = .ok (.iaload, 1) := by decide +kernel
theorem dX5_lawOf_18 : decode cX5_lawOf 18 = .ok (.goto 4, 3) := by decide +kernel
theorem dX5_lawOf_21 : decode cX5_lawOf 21 = .ok (.iconst (-1), 1) := by decide +kernel
theorem dX5_lawOf_22 : decode cX5_lawOf 22 = .ok (.ireturn, 1) := by decide +kernel
set_option maxRecDepth 20000 in
theorem ggX5_person_X5_isKind : GoodIn wsX5_person wsX5_isKind := goodIn_r _ [6, 7, 8, 5, 9] (by decide +kernel) (by decide +kernel)
set_option maxRecDepth 20000 in
theorem gX5_person_X5_isKind : GoodIn wsX5_person (va_wsS RX5 92 yX5_isKind wsX5_isKind) := goodIn_app (goodIn_of _ (by decide +kernel)) ggX5_person_X5_isKind
set_option maxRecDepth 20000 in
theorem ggX5_person_X5_isIn : GoodIn wsX5_person wsX5_isIn := goodIn_r _ [9] (by decide +kernel) (by decide +kernel)
set_option maxRecDepth 20000 in
theorem gX5_person_X5_isIn : GoodIn wsX5_person (va_wsS RX5 79 yX5_isIn wsX5_isIn) := goodIn_app (goodIn_of _ (by decide +kernel)) ggX5_person_X5_isIn
set_option maxRecDepth 20000 in
theorem ggX5_person_X5_isCorner : GoodIn wsX5_person wsX5_isCorner := goodIn_r _ [12, 7, 8, 5, 9] (by decide +kernel) (by decide +kernel)
set_option maxRecDepth 20000 in
theorem gX5_person_X5_isCorner : GoodIn wsX5_person (va_wsS RX5 96 yX5_isCorner wsX5_isCorner) := goodIn_app (goodIn_of _ (by decide +kernel)) ggX5_person_X5_isCorner
set_option maxRecDepth 20000 in
theorem ggX5_person_X4_add : GoodIn wsX5_person wsX4_add := goodIn_r _ [17, 18, 19, 20, 21, 22, 23, 34, 35, 36, 37, 38, 39, 40, 41, 42, 43, 44, 45] (by decide +kernel) (by decide +kernel)
set_option maxRecDepth 20000 in
theorem gX5_person_X4_add : GoodIn wsX5_person (wsV RX5 99 RX4 yX4_add wsX4_add) := goodIn_app (goodIn_of _ (by decide +kernel)) ggX5_person_X4_add
theorem dX5_person_0 : decode cX5_person 0 = .ok (.iload_n 1, 1) := by decide +kernel
theorem dX5_person_1 : decode cX5_person 1 = .ok (.invokestatic 92, 3) := by decide +kernel
theorem dX5_person_4 : decode cX5_person 4 = .ok (.ifCond .eq 31, 3) := by decide +kernel
theorem dX5_person_7 : decode cX5_person 7 = .ok (.iload_n 2, 1) := by decide +kernel
theorem dX5_person_8 : decode cX5_person 8 = .ok (.iconst 1, 1) := by decide +kernel
theorem dX5_person_9 : decode cX5_person 9 = .ok (.bipush 9, 2) := by decide +kernel
theorem dX5_person_11 : decode cX5_person 11 = .ok (.invokestatic 79, 3) := by decide +kernel
theorem dX5_person_14 : decode cX5_person 14 = .ok (.ifCond .eq 21, 3) := by decide +kernel
theorem dX5_person_17 : decode cX5_person 17 = .ok (.iload_n 3, 1) := by decide +kernel
theorem dX5_person_18 : decode cX5_person 18 = .ok (.iconst 0, 1) := by decide +kernel
theorem dX5_person_19 : decode cX5_person 19 = .ok (.bipush 8, 2) := by decide +kernel
theorem dX5_person_21 : decode cX5_person 21 = .ok (.invokestatic 79, 3) := by decide +kernel
theorem dX5_person_24 : decode cX5_person 24 = .ok (.ifCond .eq 11, 3) := by decide +kernel
theorem dX5_person_27 : decode cX5_person 27 = .ok (.iload 4, 2) := by decide +kernel
theorem dX5_person_29 : decode cX5_person 29 = .ok (.invokestatic 96, 3) := by decide +kernel
theorem dX5_person_32 : decode cX5_person 32 = .ok (.ifCond .ne 5, 3) := by decide +kernel
theorem dX5_person_35 : decode cX5_person 35 = .ok (.iconst (-1), 1) := by decide +kernel
theorem dX5_person_36 : decode cX5_person 36 = .ok (.ireturn, 1) := by decide +kernel
theorem dX5_person_37 : decode cX5_person 37 = .ok (.aload_n 0, 1) := by decide +kernel
theorem dX5_person_38 : decode cX5_person 38 = .ok (.getfield 10, 3) := by decide +kernel
theorem dX5_person_41 : decode cX5_person 41 = .ok (.getfield 76, 3) := by decide +kernel
theorem dX5_person_44 : decode cX5_person 44 = .ok (.bipush 8, 2) := by decide +kernel
theorem dX5_person_46 : decode cX5_person 46 = .ok (.if_icmp .lt 6, 3) := by decide +kernel
theorem dX5_person_49 : decode cX5_person 49 = .ok (.bipush (-2), 2) := by decide +kernel
theorem dX5_person_51 : decode cX5_person 51 = .ok (.ireturn, 1) := by decide +kernel
theorem dX5_person_52 : decode cX5_person 52 = .ok (.aload_n 0, 1) := by decide +kernel
theorem dX5_person_53 : decode cX5_person 53 = .ok (.getfield 10, 3) := by decide +kernel
theorem dX5_person_56 : decode cX5_person 56 = .ok (.iload_n 1, 1) := by decide +kernel
theorem dX5_person_57 : decode cX5_person 57 = .ok (.iload_n 2, 1) := by decide +kernel
theorem dX5_person_58 : decode cX5_person 58 = .ok (.iload_n 3, 1) := by decide +kernel
theorem dX5_person_59 : decode cX5_person 59 = .ok (.iload 4, 2) := by decide +kernel
theorem dX5_person_61 : decode cX5_person 61 = .ok (.invokevirtual 99, 3) := by decide +kernel
theorem dX5_person_64 : decode cX5_person 64 = .ok (.aload_n 0, 1) := by decide +kernel
theorem dX5_person_65 : decode cX5_person 65 = .ok (.getfield 10, 3) := by decide +kernel
theorem dX5_person_68 : decode cX5_person 68 = .ok (.getfield 76, 3) := by decide +kernel
theorem dX5_person_71 : decode cX5_person 71 = .ok (.iconst 1, 1) := by decide +kernel
theorem dX5_person_72 : decode cX5_person 72 = .ok (.isub, 1) := by decide +kernel
theorem dX5_person_73 : decode cX5_person 73 = .ok (.ireturn, 1) := by decide +kernel
set_option maxRecDepth 20000 in
theorem ggX5_of_X4_has : GoodIn wsX5_of wsX4_has := goodIn_r _ [11, 12, 13, 14, 15, 52, 53, 54, 55, 56, 57, 58, 59, 60, 61, 62, 63] (by decide +kernel) (by decide +kernel)
set_option maxRecDepth 20000 in
theorem gX5_of_X4_has : GoodIn wsX5_of (wsV RX5 103 RX4 yX4_has wsX4_has) := goodIn_app (goodIn_of _ (by decide +kernel)) ggX5_of_X4_has
set_option maxRecDepth 20000 in
theorem ggX5_of_X4_isSounding : GoodIn wsX5_of wsX4_isSounding := goodIn_r _ [19, 20, 21, 22, 23, 24, 25, 26, 27, 10, 28, 29, 30, 31, 32, 33, 34, 35, 36, 37, 52, 53, 54, 55, 56, 57, 58, 59, 60, 61, 62, 63] (by decide +kernel) (by decide +kernel)
set_option maxRecDepth 20000 in
theorem gX5_of_X4_isSounding : GoodIn wsX5_of (wsV RX5 121 RX4 yX4_isSounding wsX4_isSounding) := goodIn_app (goodIn_of _ (by decide +kernel)) ggX5_of_X4_isSounding
set_option maxRecDepth 20000 in
theorem ggX5_of_X4_reachOf : GoodIn wsX5_of wsX4_reachOf := goodIn_r _ [41, 20, 24, 33, 52, 53, 54, 55, 56, 57, 58, 59, 60, 61, 62, 63] (by decide +kernel) (by decide +kernel)
set_option maxRecDepth 20000 in
theorem gX5_of_X4_reachOf : GoodIn wsX5_of (wsV RX5 124 RX4 yX4_reachOf wsX4_reachOf) := goodIn_app (goodIn_of _ (by decide +kernel)) ggX5_of_X4_reachOf
theorem dX5_of_0 : decode cX5_of 0 = .ok (.aload_n 0, 1) := by decide +kernel
theorem dX5_of_1 : decode cX5_of 1 = .ok (.getfield 10, 3) := by decide +kernel
theorem dX5_of_4 : decode cX5_of 4 = .ok (.iload_n 1, 1) := by decide +kernel
theorem dX5_of_5 : decode cX5_of 5 = .ok (.invokevirtual 103, 3) := by decide +kernel
theorem dX5_of_8 : decode cX5_of 8 = .ok (.ifCond .ne 5, 3) := by decide +kernel
theorem dX5_of_11 : decode cX5_of 11 = .ok (.iconst (-1), 1) := by decide +kernel
theorem dX5_of_12 : decode cX5_of 12 = .ok (.ireturn, 1) := by decide +kernel
theorem dX5_of_13 : decode cX5_of 13 = .ok (.iload_n 2, 1) := by decide +kernel
theorem dX5_of_14 : decode cX5_of 14 = .ok (.tableswitch 118 0 6 #[42, 52, 62, 72, 82, 92, 109], 42) := by decide +kernel
theorem dX5_of_56 : decode cX5_of 56 = .ok (.aload_n 0, 1) := by decide +kernel
theorem dX5_of_57 : decode cX5_of 57 = .ok (.getfield 10, 3) := by decide +kernel
theorem dX5_of_60 : decode cX5_of 60 = .ok (.getfield 106, 3) := by decide +kernel
theorem dX5_of_63 : decode cX5_of 63 = .ok (.iload_n 1, 1) := by decide +kernel
theorem dX5_of_64 : decode cX5_of 64 = .ok (.iaload, 1) := by decide +kernel
theorem dX5_of_65 : decode cX5_of 65 = .ok (.ireturn, 1) := by decide +kernel
theorem dX5_of_66 : decode cX5_of 66 = .ok (.aload_n 0, 1) := by decide +kernel
theorem dX5_of_67 : decode cX5_of 67 = .ok (.getfield 10, 3) := by decide +kernel
theorem dX5_of_70 : decode cX5_of 70 = .ok (.getfield 109, 3) := by decide +kernel
theorem dX5_of_73 : decode cX5_of 73 = .ok (.iload_n 1, 1) := by decide +kernel
theorem dX5_of_74 : decode cX5_of 74 = .ok (.iaload, 1) := by decide +kernel
theorem dX5_of_75 : decode cX5_of 75 = .ok (.ireturn, 1) := by decide +kernel
theorem dX5_of_76 : decode cX5_of 76 = .ok (.aload_n 0, 1) := by decide +kernel
theorem dX5_of_77 : decode cX5_of 77 = .ok (.getfield 10, 3) := by decide +kernel
theorem dX5_of_80 : decode cX5_of 80 = .ok (.getfield 112, 3) := by decide +kernel
theorem dX5_of_83 : decode cX5_of 83 = .ok (.iload_n 1, 1) := by decide +kernel
theorem dX5_of_84 : decode cX5_of 84 = .ok (.iaload, 1) := by decide +kernel
theorem dX5_of_85 : decode cX5_of 85 = .ok (.ireturn, 1) := by decide +kernel
theorem dX5_of_86 : decode cX5_of 86 = .ok (.aload_n 0, 1) := by decide +kernel
theorem dX5_of_87 : decode cX5_of 87 = .ok (.getfield 10, 3) := by decide +kernel
theorem dX5_of_90 : decode cX5_of 90 = .ok (.getfield 115, 3) := by decide +kernel
theorem dX5_of_93 : decode cX5_of 93 = .ok (.iload_n 1, 1) := by decide +kernel
theorem dX5_of_94 : decode cX5_of 94 = .ok (.iaload, 1) := by decide +kernel
theorem dX5_of_95 : decode cX5_of 95 = .ok (.ireturn, 1) := by decide +kernel
theorem dX5_of_96 : decode cX5_of 96 = .ok (.aload_n 0, 1) := by decide +kernel
theorem dX5_of_97 : decode cX5_of 97 = .ok (.getfield 10, 3) := by decide +kernel
theorem dX5_of_100 : decode cX5_of 100 = .ok (.getfield 118, 3) := by decide +kernel
theorem dX5_of_103 : decode cX5_of 103 = .ok (.iload_n 1, 1) := by decide +kernel
theorem dX5_of_104 : decode cX5_of 104 = .ok (.iaload, 1) := by decide +kernel
theorem dX5_of_105 : decode cX5_of 105 = .ok (.ireturn, 1) := by decide +kernel
theorem dX5_of_106 : decode cX5_of 106 = .ok (.aload_n 0, 1) := by decide +kernel
theorem dX5_of_107 : decode cX5_of 107 = .ok (.getfield 10, 3) := by decide +kernel
theorem dX5_of_110 : decode cX5_of 110 = .ok (.iload_n 1, 1) := by decide +kernel
theorem dX5_of_111 : decode cX5_of 111 = .ok (.invokevirtual 121, 3) := by decide +kernel
theorem dX5_of_114 : decode cX5_of 114 = .ok (.ifCond .eq 7, 3) := by decide +kernel
theorem dX5_of_117 : decode cX5_of 117 = .ok (.iconst 1, 1) := by decide +kernel
theorem dX5_of_118 : decode cX5_of 118 = .ok (.goto 4, 3) := by decide +kernel
theorem dX5_of_121 : decode cX5_of 121 = .ok (.iconst 0, 1) := by decide +kernel
theorem dX5_of_122 : decode cX5_of 122 = .ok (.ireturn, 1) := by decide +kernel
theorem dX5_of_123 : decode cX5_of 123 = .ok (.aload_n 0, 1) := by decide +kernel
theorem dX5_of_124 : decode cX5_of 124 = .ok (.getfield 10, 3) := by decide +kernel
theorem dX5_of_127 : decode cX5_of 127 = .ok (.iload_n 1, 1) := by decide +kernel
theorem dX5_of_128 : decode cX5_of 128 = .ok (.invokevirtual 124, 3) := by decide +kernel
theorem dX5_of_131 : decode cX5_of 131 = .ok (.ireturn, 1) := by decide +kernel
theorem dX5_of_132 : decode cX5_of 132 = .ok (.iconst (-1), 1) := by decide +kernel
theorem dX5_of_133 : decode cX5_of 133 = .ok (.ireturn, 1) := by decide +kernel
set_option maxRecDepth 20000 in
theorem ggX5_mind_X4_has : GoodIn wsX5_mind wsX4_has := goodIn_r _ [7, 8, 9, 10, 11, 26, 27, 28, 29, 30, 31, 32, 33, 34, 35, 36, 37] (by decide +kernel) (by decide +kernel)
set_option maxRecDepth 20000 in
theorem gX5_mind_X4_has : GoodIn wsX5_mind (wsV RX5 103 RX4 yX4_has wsX4_has) := goodIn_app (goodIn_of _ (by decide +kernel)) ggX5_mind_X4_has
set_option maxRecDepth 20000 in
theorem ggX5_mind_X5_isKind : GoodIn wsX5_mind wsX5_isKind := goodIn_r _ [14, 15, 9, 10, 11] (by decide +kernel) (by decide +kernel)
set_option maxRecDepth 20000 in
theorem gX5_mind_X5_isKind : GoodIn wsX5_mind (va_wsS RX5 92 yX5_isKind wsX5_isKind) := goodIn_app (goodIn_of _ (by decide +kernel)) ggX5_mind_X5_isKind
theorem dX5_mind_0 : decode cX5_mind 0 = .ok (.aload_n 0, 1) := by decide +kernel
theorem dX5_mind_1 : decode cX5_mind 1 = .ok (.getfield 10, 3) := by decide +kernel
theorem dX5_mind_4 : decode cX5_mind 4 = .ok (.iload_n 1, 1) := by decide +kernel
theorem dX5_mind_5 : decode cX5_mind 5 = .ok (.invokevirtual 103, 3) := by decide +kernel
theorem dX5_mind_8 : decode cX5_mind 8 = .ok (.ifCond .eq 10, 3) := by decide +kernel
theorem dX5_mind_11 : decode cX5_mind 11 = .ok (.iload_n 2, 1) := by decide +kernel
theorem dX5_mind_12 : decode cX5_mind 12 = .ok (.invokestatic 92, 3) := by decide +kernel
theorem dX5_mind_15 : decode cX5_mind 15 = .ok (.ifCond .ne 5, 3) := by decide +kernel
theorem dX5_mind_18 : decode cX5_mind 18 = .ok (.iconst (-1), 1) := by decide +kernel
theorem dX5_mind_19 : decode cX5_mind 19 = .ok (.ireturn, 1) := by decide +kernel
theorem dX5_mind_20 : decode cX5_mind 20 = .ok (.aload_n 0, 1) := by decide +kernel
theorem dX5_mind_21 : decode cX5_mind 21 = .ok (.getfield 10, 3) := by decide +kernel
theorem dX5_mind_24 : decode cX5_mind 24 = .ok (.getfield 106, 3) := by decide +kernel
theorem dX5_mind_27 : decode cX5_mind 27 = .ok (.iload_n 1, 1) := by decide +kernel
theorem dX5_mind_28 : decode cX5_mind 28 = .ok (.iaload, 1) := by decide +kernel
theorem dX5_mind_29 : decode cX5_mind 29 = .ok (.istore_n 3, 1) := by decide +kernel
theorem dX5_mind_30 : decode cX5_mind 30 = .ok (.aload_n 0, 1) := by decide +kernel
theorem dX5_mind_31 : decode cX5_mind 31 = .ok (.getfield 10, 3) := by decide +kernel
theorem dX5_mind_34 : decode cX5_mind 34 = .ok (.getfield 106, 3) := by decide +kernel
theorem dX5_mind_37 : decode cX5_mind 37 = .ok (.iload_n 1, 1) := by decide +kernel
theorem dX5_mind_38 : decode cX5_mind 38 = .ok (.iload_n 2, 1) := by decide +kernel
theorem dX5_mind_39 : decode cX5_mind 39 = .ok (.iastore, 1) := by decide +kernel
theorem dX5_mind_40 : decode cX5_mind 40 = .ok (.iload_n 3, 1) := by decide +kernel
theorem dX5_mind_41 : decode cX5_mind 41 = .ok (.ireturn, 1) := by decide +kernel
set_option maxRecDepth 20000 in
theorem ggX5_change_X4_has : GoodIn wsX5_change wsX4_has := goodIn_r _ [8, 9, 10, 11, 12, 24, 25, 26, 27, 28, 29, 30, 31, 32, 33, 34, 35] (by decide +kernel) (by decide +kernel)
set_option maxRecDepth 20000 in
theorem gX5_change_X4_has : GoodIn wsX5_change (wsV RX5 103 RX4 yX4_has wsX4_has) := goodIn_app (goodIn_of _ (by decide +kernel)) ggX5_change_X4_has
set_option maxRecDepth 20000 in
theorem ggX5_change_X5_isIn : GoodIn wsX5_change wsX5_isIn := goodIn_r _ [12] (by decide +kernel) (by decide +kernel)
set_option maxRecDepth 20000 in
theorem gX5_change_X5_isIn : GoodIn wsX5_change (va_wsS RX5 79 yX5_isIn wsX5_isIn) := goodIn_app (goodIn_of _ (by decide +kernel)) ggX5_change_X5_isIn
theorem dX5_change_0 : decode cX5_change 0 = .ok (.aload_n 0, 1) := by decide +kernel
theorem dX5_change_1 : decode cX5_change 1 = .ok (.getfield 10, 3) := by decide +kernel
theorem dX5_change_4 : decode cX5_change 4 = .ok (.iload_n 1, 1) := by decide +kernel
theorem dX5_change_5 : decode cX5_change 5 = .ok (.invokevirtual 103, 3) := by decide +kernel
theorem dX5_change_8 : decode cX5_change 8 = .ok (.ifCond .ne 5, 3) := by decide +kernel
theorem dX5_change_11 : decode cX5_change 11 = .ok (.iconst (-1), 1) := by decide +kernel
theorem dX5_change_12 : decode cX5_change 12 = .ok (.ireturn, 1) := by decide +kernel
theorem dX5_change_13 : decode cX5_change 13 = .ok (.iload_n 2, 1) := by decide +kernel
theorem dX5_change_14 : decode cX5_change 14 = .ok (.iconst 1, 1) := by decide +kernel
theorem dX5_change_15 : decode cX5_change 15 = .ok (.if_icmp .ne 37, 3) := by decide +kernel
theorem dX5_change_18 : decode cX5_change 18 = .ok (.iload_n 3, 1) := by decide +kernel
theorem dX5_change_19 : decode cX5_change 19 = .ok (.iconst 1, 1) := by decide +kernel
theorem dX5_change_20 : decode cX5_change 20 = .ok (.bipush 9, 2) := by decide +kernel
theorem dX5_change_22 : decode cX5_change 22 = .ok (.invokestatic 79, 3) := by decide +kernel
theorem dX5_change_25 : decode cX5_change 25 = .ok (.ifCond .eq 27, 3) := by decide +kernel
theorem dX5_change_28 : decode cX5_change 28 = .ok (.aload_n 0, 1) := by decide +kernel
theorem dX5_change_29 : decode cX5_change 29 = .ok (.getfield 10, 3) := by decide +kernel
theorem dX5_change_32 : decode cX5_change 32 = .ok (.getfield 109, 3) := by decide +kernel
theorem dX5_change_35 : decode cX5_change 35 = .ok (.iload_n 1, 1) := by decide +kernel
theorem dX5_change_36 : decode cX5_change 36 = .ok (.iaload, 1) := by decide +kernel
theorem dX5_change_37 : decode cX5_change 37 = .ok (.istore 4, 2) := by decide +kernel
theorem dX5_change_39 : decode cX5_change 39 = .ok (.aload_n 0, 1) := by decide +kernel
theorem dX5_change_40 : decode cX5_change 40 = .ok (.getfield 10, 3) := by decide +kernel
theorem dX5_change_43 : decode cX5_change 43 = .ok (.getfield 109, 3) := by decide +kernel
theorem dX5_change_46 : decode cX5_change 46 = .ok (.iload_n 1, 1) := by decide +kernel
theorem dX5_change_47 : decode cX5_change 47 = .ok (.iload_n 3, 1) := by decide +kernel
theorem dX5_change_48 : decode cX5_change 48 = .ok (.iastore, 1) := by decide +kernel
theorem dX5_change_49 : decode cX5_change 49 = .ok (.iload 4, 2) := by decide +kernel
theorem dX5_change_51 : decode cX5_change 51 = .ok (.ireturn, 1) := by decide +kernel
theorem dX5_change_52 : decode cX5_change 52 = .ok (.iload_n 2, 1) := by decide +kernel
theorem dX5_change_53 : decode cX5_change 53 = .ok (.iconst 2, 1) := by decide +kernel
theorem dX5_change_54 : decode cX5_change 54 = .ok (.if_icmp .ne 37, 3) := by decide +kernel
theorem dX5_change_57 : decode cX5_change 57 = .ok (.iload_n 3, 1) := by decide +kernel
theorem dX5_change_58 : decode cX5_change 58 = .ok (.iconst 0, 1) := by decide +kernel
theorem dX5_change_59 : decode cX5_change 59 = .ok (.bipush 8, 2) := by decide +kernel
theorem dX5_change_61 : decode cX5_change 61 = .ok (.invokestatic 79, 3) := by decide +kernel
theorem dX5_change_64 : decode cX5_change 64 = .ok (.ifCond .eq 27, 3) := by decide +kernel
theorem dX5_change_67 : decode cX5_change 67 = .ok (.aload_n 0, 1) := by decide +kernel
theorem dX5_change_68 : decode cX5_change 68 = .ok (.getfield 10, 3) := by decide +kernel
theorem dX5_change_71 : decode cX5_change 71 = .ok (.getfield 112, 3) := by decide +kernel
theorem dX5_change_74 : decode cX5_change 74 = .ok (.iload_n 1, 1) := by decide +kernel
theorem dX5_change_75 : decode cX5_change 75 = .ok (.iaload, 1) := by decide +kernel
theorem dX5_change_76 : decode cX5_change 76 = .ok (.istore 4, 2) := by decide +kernel
theorem dX5_change_78 : decode cX5_change 78 = .ok (.aload_n 0, 1) := by decide +kernel
theorem dX5_change_79 : decode cX5_change 79 = .ok (.getfield 10, 3) := by decide +kernel
theorem dX5_change_82 : decode cX5_change 82 = .ok (.getfield 112, 3) := by decide +kernel
theorem dX5_change_85 : decode cX5_change 85 = .ok (.iload_n 1, 1) := by decide +kernel
theorem dX5_change_86 : decode cX5_change 86 = .ok (.iload_n 3, 1) := by decide +kernel
theorem dX5_change_87 : decode cX5_change 87 = .ok (.iastore, 1) := by decide +kernel
theorem dX5_change_88 : decode cX5_change 88 = .ok (.iload 4, 2) := by decide +kernel
theorem dX5_change_90 : decode cX5_change 90 = .ok (.ireturn, 1) := by decide +kernel
theorem dX5_change_91 : decode cX5_change 91 = .ok (.iconst (-1), 1) := by decide +kernel
theorem dX5_change_92 : decode cX5_change 92 = .ok (.ireturn, 1) := by decide +kernel
set_option maxRecDepth 20000 in
theorem ggX5_bring_X4_has : GoodIn wsX5_bring wsX4_has := goodIn_r _ [7, 8, 9, 10, 11, 26, 27, 28, 29, 30, 31, 32, 33, 34, 35, 36, 37] (by decide +kernel) (by decide +kernel)
set_option maxRecDepth 20000 in
theorem gX5_bring_X4_has : GoodIn wsX5_bring (wsV RX5 103 RX4 yX4_has wsX4_has) := goodIn_app (goodIn_of _ (by decide +kernel)) ggX5_bring_X4_has
set_option maxRecDepth 20000 in
theorem ggX5_bring_X5_isCorner : GoodIn wsX5_bring wsX5_isCorner := goodIn_r _ [14, 15, 9, 10, 11] (by decide +kernel) (by decide +kernel)
set_option maxRecDepth 20000 in
theorem gX5_bring_X5_isCorner : GoodIn wsX5_bring (va_wsS RX5 96 yX5_isCorner wsX5_isCorner) := goodIn_app (goodIn_of _ (by decide +kernel)) ggX5_bring_X5_isCorner
theorem dX5_bring_0 : decode cX5_bring 0 = .ok (.aload_n 0, 1) := by decide +kernel
theorem dX5_bring_1 : decode cX5_bring 1 = .ok (.getfield 10, 3) := by decide +kernel
theorem dX5_bring_4 : decode cX5_bring 4 = .ok (.iload_n 1, 1) := by decide +kernel
theorem dX5_bring_5 : decode cX5_bring 5 = .ok (.invokevirtual 103, 3) := by decide +kernel
theorem dX5_bring_8 : decode cX5_bring 8 = .ok (.ifCond .eq 10, 3) := by decide +kernel
theorem dX5_bring_11 : decode cX5_bring 11 = .ok (.iload_n 2, 1) := by decide +kernel
theorem dX5_bring_12 : decode cX5_bring 12 = .ok (.invokestatic 96, 3) := by decide +kernel
theorem dX5_bring_15 : decode cX5_bring 15 = .ok (.ifCond .ne 5, 3) := by decide +kernel
theorem dX5_bring_18 : decode cX5_bring 18 = .ok (.iconst (-1), 1) := by decide +kernel
theorem dX5_bring_19 : decode cX5_bring 19 = .ok (.ireturn, 1) := by decide +kernel
theorem dX5_bring_20 : decode cX5_bring 20 = .ok (.aload_n 0, 1) := by decide +kernel
theorem dX5_bring_21 : decode cX5_bring 21 = .ok (.getfield 10, 3) := by decide +kernel
theorem dX5_bring_24 : decode cX5_bring 24 = .ok (.getfield 115, 3) := by decide +kernel
theorem dX5_bring_27 : decode cX5_bring 27 = .ok (.iload_n 1, 1) := by decide +kernel
theorem dX5_bring_28 : decode cX5_bring 28 = .ok (.iaload, 1) := by decide +kernel
theorem dX5_bring_29 : decode cX5_bring 29 = .ok (.istore_n 3, 1) := by decide +kernel
theorem dX5_bring_30 : decode cX5_bring 30 = .ok (.aload_n 0, 1) := by decide +kernel
theorem dX5_bring_31 : decode cX5_bring 31 = .ok (.getfield 10, 3) := by decide +kernel
theorem dX5_bring_34 : decode cX5_bring 34 = .ok (.getfield 115, 3) := by decide +kernel
theorem dX5_bring_37 : decode cX5_bring 37 = .ok (.iload_n 1, 1) := by decide +kernel
theorem dX5_bring_38 : decode cX5_bring 38 = .ok (.iload_n 2, 1) := by decide +kernel
theorem dX5_bring_39 : decode cX5_bring 39 = .ok (.iastore, 1) := by decide +kernel
theorem dX5_bring_40 : decode cX5_bring 40 = .ok (.iload_n 3, 1) := by decide +kernel
theorem dX5_bring_41 : decode cX5_bring 41 = .ok (.ireturn, 1) := by decide +kernel
set_option maxRecDepth 20000 in
theorem ggX5_corner_X5_isCorner : GoodIn wsX5_corner wsX5_isCorner := goodIn_r _ [5, 6, 7, 4, 8] (by decide +kernel) (by decide +kernel)
set_option maxRecDepth 20000 in
theorem gX5_corner_X5_isCorner : GoodIn wsX5_corner (va_wsS RX5 96 yX5_isCorner wsX5_isCorner) := goodIn_app (goodIn_of _ (by decide +kernel)) ggX5_corner_X5_isCorner
set_option maxRecDepth 20000 in
theorem ggX5_corner_X4_setAt : GoodIn wsX5_corner wsX4_setAt := goodIn_r _ [13, 14, 15, 67, 68, 69, 70, 71, 72, 73, 74, 75, 76, 77, 78] (by decide +kernel) (by decide +kernel)
set_option maxRecDepth 20000 in
theorem gX5_corner_X4_setAt : GoodIn wsX5_corner (wsV RX5 128 RX4 yX4_setAt wsX4_setAt) := goodIn_app (goodIn_of _ (by decide +kernel)) ggX5_corner_X4_setAt
set_option maxRecDepth 20000 in
theorem ggX5_corner_X4_soundingSet : GoodIn wsX5_corner wsX4_soundingSet := goodIn_r _ [19, 14, 20, 21, 22, 12, 23, 24, 25, 26, 27, 28, 29, 30, 31, 32, 33, 34, 35, 36, 37, 38, 39, 40, 41, 67, 68, 69, 70, 71, 72, 73, 74, 75, 76, 77, 78] (by decide +kernel) (by decide +kernel)
set_option maxRecDepth 20000 in
theorem gX5_corner_X4_soundingSet : GoodIn wsX5_corner (wsV RX5 131 RX4 yX4_soundingSet wsX4_soundingSet) := goodIn_app (goodIn_of _ (by decide +kernel)) ggX5_corner_X4_soundingSet
set_option maxRecDepth 20000 in
theorem ggX5_corner_X4_heardOf : GoodIn wsX5_corner wsX4_heardOf := goodIn_r _ [45, 14, 15, 46, 47, 48, 49, 50, 51, 52, 53, 54, 55, 12, 56, 24, 28, 37, 67, 68, 69, 70, 71, 72, 73, 74, 75, 76, 77, 78] (by decide +kernel) (by decide +kernel)
set_option maxRecDepth 20000 in
theorem gX5_corner_X4_heardOf : GoodIn wsX5_corner (wsV RX5 135 RX4 yX4_heardOf wsX4_heardOf) := goodIn_app (goodIn_of _ (by decide +kernel)) ggX5_corner_X4_heardOf
theorem dX5_corner_0 : decode cX5_corner 0 = .ok (.iload_n 1, 1) := by decide +kernel
theorem dX5_corner_1 : decode cX5_corner 1 = .ok (.invokestatic 96, 3) := by decide +kernel
theorem dX5_corner_4 : decode cX5_corner 4 = .ok (.ifCond .ne 5, 3) := by decide +kernel
theorem dX5_corner_7 : decode cX5_corner 7 = .ok (.iconst (-1), 1) := by decide +kernel
theorem dX5_corner_8 : decode cX5_corner 8 = .ok (.ireturn, 1) := by decide +kernel
theorem dX5_corner_9 : decode cX5_corner 9 = .ok (.iload_n 2, 1) := by decide +kernel
theorem dX5_corner_10 : decode cX5_corner 10 = .ok (.lookupswitch 51 #[(0, 26), (1, 35)], 26) := by decide +kernel
theorem dX5_corner_36 : decode cX5_corner 36 = .ok (.aload_n 0, 1) := by decide +kernel
theorem dX5_corner_37 : decode cX5_corner 37 = .ok (.getfield 10, 3) := by decide +kernel
theorem dX5_corner_40 : decode cX5_corner 40 = .ok (.iload_n 1, 1) := by decide +kernel
theorem dX5_corner_41 : decode cX5_corner 41 = .ok (.invokevirtual 128, 3) := by decide +kernel
theorem dX5_corner_44 : decode cX5_corner 44 = .ok (.ireturn, 1) := by decide +kernel
theorem dX5_corner_45 : decode cX5_corner 45 = .ok (.aload_n 0, 1) := by decide +kernel
theorem dX5_corner_46 : decode cX5_corner 46 = .ok (.getfield 10, 3) := by decide +kernel
theorem dX5_corner_49 : decode cX5_corner 49 = .ok (.aload_n 0, 1) := by decide +kernel
theorem dX5_corner_50 : decode cX5_corner 50 = .ok (.getfield 10, 3) := by decide +kernel
theorem dX5_corner_53 : decode cX5_corner 53 = .ok (.invokevirtual 131, 3) := by decide +kernel
theorem dX5_corner_56 : decode cX5_corner 56 = .ok (.iload_n 1, 1) := by decide +kernel
theorem dX5_corner_57 : decode cX5_corner 57 = .ok (.invokevirtual 135, 3) := by decide +kernel
theorem dX5_corner_60 : decode cX5_corner 60 = .ok (.ireturn, 1) := by decide +kernel
theorem dX5_corner_61 : decode cX5_corner 61 = .ok (.iconst (-1), 1) := by decide +kernel
theorem dX5_corner_62 : decode cX5_corner 62 = .ok (.ireturn, 1) := by decide +kernel
set_option maxRecDepth 20000 in
theorem ggX5_seconds_X5_isIn : GoodIn wsX5_seconds wsX5_isIn := goodIn_r _ [6] (by decide +kernel) (by decide +kernel)
set_option maxRecDepth 20000 in
theorem gX5_seconds_X5_isIn : GoodIn wsX5_seconds (va_wsS RX5 79 yX5_isIn wsX5_isIn) := goodIn_app (goodIn_of _ (by decide +kernel)) ggX5_seconds_X5_isIn
set_option maxRecDepth 20000 in
theorem ggX5_seconds_X4_pass : GoodIn wsX5_seconds wsX4_pass := goodIn_r _ [11, 12, 13, 14, 10, 15, 16, 17, 18, 19, 20, 21, 22, 23, 24, 25, 26, 27, 28, 29, 30, 31, 32, 33, 34, 35, 36, 37, 38, 39, 40, 41, 42, 43, 44, 45, 46, 47, 48, 49, 50, 51, 52, 53, 54, 55, 56, 57, 58, 59, 60, 61, 62, 63, 64, 65, 66, 67, 68, 69, 70, 71, 72, 73, 74, 75, 86, 87, 88, 89, 90, 91, 92, 93, 94, 95, 96, 97] (by decide +kernel) (by decide +kernel)
set_option maxRecDepth 20000 in
theorem gX5_seconds_X4_pass : GoodIn wsX5_seconds (wsV RX5 139 RX4 yX4_pass wsX4_pass) := goodIn_app (goodIn_of _ (by decide +kernel)) ggX5_seconds_X4_pass
theorem dX5_seconds_0 : decode cX5_seconds 0 = .ok (.iload_n 1, 1) := by decide +kernel
theorem dX5_seconds_1 : decode cX5_seconds 1 = .ok (.iconst 1, 1) := by decide +kernel
theorem dX5_seconds_2 : decode cX5_seconds 2 = .ok (.bipush 60, 2) := by decide +kernel
theorem dX5_seconds_4 : decode cX5_seconds 4 = .ok (.invokestatic 79, 3) := by decide +kernel
theorem dX5_seconds_7 : decode cX5_seconds 7 = .ok (.ifCond .ne 5, 3) := by decide +kernel
theorem dX5_seconds_10 : decode cX5_seconds 10 = .ok (.iconst (-1), 1) := by decide +kernel
theorem dX5_seconds_11 : decode cX5_seconds 11 = .ok (.ireturn, 1) := by decide +kernel
theorem dX5_seconds_12 : decode cX5_seconds 12 = .ok (.iconst 0, 1) := by decide +kernel
theorem dX5_seconds_13 : decode cX5_seconds 13 = .ok (.istore_n 2, 1) := by decide +kernel
theorem dX5_seconds_14 : decode cX5_seconds 14 = .ok (.iload_n 2, 1) := by decide +kernel
theorem dX5_seconds_15 : decode cX5_seconds 15 = .ok (.iload_n 1, 1) := by decide +kernel
theorem dX5_seconds_16 : decode cX5_seconds 16 = .ok (.if_icmp .ge 17, 3) := by decide +kernel
theorem dX5_seconds_19 : decode cX5_seconds 19 = .ok (.aload_n 0, 1) := by decide +kernel
theorem dX5_seconds_20 : decode cX5_seconds 20 = .ok (.getfield 10, 3) := by decide +kernel
theorem dX5_seconds_23 : decode cX5_seconds 23 = .ok (.invokevirtual 139, 3) := by decide +kernel
theorem dX5_seconds_26 : decode cX5_seconds 26 = .ok (.pop, 1) := by decide +kernel
theorem dX5_seconds_27 : decode cX5_seconds 27 = .ok (.iinc 2 1, 3) := by decide +kernel
theorem dX5_seconds_30 : decode cX5_seconds 30 = .ok (.goto (-16), 3) := by decide +kernel
theorem dX5_seconds_33 : decode cX5_seconds 33 = .ok (.aload_n 0, 1) := by decide +kernel
theorem dX5_seconds_34 : decode cX5_seconds 34 = .ok (.getfield 10, 3) := by decide +kernel
theorem dX5_seconds_37 : decode cX5_seconds 37 = .ok (.getfield 142, 3) := by decide +kernel
theorem dX5_seconds_40 : decode cX5_seconds 40 = .ok (.ireturn, 1) := by decide +kernel
theorem dX5_seed_0 : decode cX5_seed 0 = .ok (.aload_n 0, 1) := by decide +kernel
theorem dX5_seed_1 : decode cX5_seed 1 = .ok (.getfield 10, 3) := by decide +kernel
theorem dX5_seed_4 : decode cX5_seed 4 = .ok (.getfield 145, 3) := by decide +kernel
theorem dX5_seed_7 : decode cX5_seed 7 = .ok (.istore_n 2, 1) := by decide +kernel
theorem dX5_seed_8 : decode cX5_seed 8 = .ok (.aload_n 0, 1) := by decide +kernel
theorem dX5_seed_9 : decode cX5_seed 9 = .ok (.getfield 10, 3) := by decide +kernel
theorem dX5_seed_12 : decode cX5_seed 12 = .ok (.iload_n 1, 1) := by decide +kernel
theorem dX5_seed_13 : decode cX5_seed 13 = .ok (.putfield 145, 3) := by decide +kernel
theorem dX5_seed_16 : decode cX5_seed 16 = .ok (.iload_n 2, 1) := by decide +kernel
theorem dX5_seed_17 : decode cX5_seed 17 = .ok (.ireturn, 1) := by decide +kernel
set_option maxRecDepth 20000 in
theorem ggX5_second_X4_passByDraws : GoodIn wsX5_second wsX4_passByDraws := goodIn_r _ [7, 8, 9, 10, 11, 12, 6, 13, 14, 15, 16, 17, 18, 19, 20, 21, 22, 23, 24, 25, 26, 27, 28, 29, 30, 31, 32, 33, 34, 35, 36, 37, 38, 39, 40, 41, 42, 43, 44, 45, 46, 47, 48, 49, 50, 51, 52, 53, 54, 55, 56, 57, 58, 59, 60, 61, 62, 63, 64, 65, 66, 67, 68, 69, 70, 71, 72, 73, 74, 75, 76, 77, 88, 89, 90, 91, 92, 93, 94, 95, 96, 97, 98, 99] (by decide +kernel) (by decide +kernel)
set_option maxRecDepth 20000 in
theorem gX5_second_X4_passByDraws : GoodIn wsX5_second (wsV RX5 148 RX4 yX4_passByDraws wsX4_passByDraws) := goodIn_app (goodIn_of _ (by decide +kernel)) ggX5_second_X4_passByDraws
theorem dX5_second_0 : decode cX5_second 0 = .ok (.aload_n 0, 1) := by decide +kernel
theorem dX5_second_1 : decode cX5_second 1 = .ok (.getfield 10, 3) := by decide +kernel
theorem dX5_second_4 : decode cX5_second 4 = .ok (.invokevirtual 148, 3) := by decide +kernel
theorem dX5_second_7 : decode cX5_second 7 = .ok (.aload_n 0, 1) := by decide +kernel
theorem dX5_second_8 : decode cX5_second 8 = .ok (.getfield 10, 3) := by decide +kernel
theorem dX5_second_11 : decode cX5_second 11 = .ok (.getfield 142, 3) := by decide +kernel
theorem dX5_second_14 : decode cX5_second 14 = .ok (.ireturn, 1) := by decide +kernel
set_option maxRecDepth 20000 in
theorem ggX5_spoilt_X5_isIn : GoodIn wsX5_spoilt wsX5_isIn := goodIn_r _ [8] (by decide +kernel) (by decide +kernel)
set_option maxRecDepth 20000 in
theorem gX5_spoilt_X5_isIn : GoodIn wsX5_spoilt (va_wsS RX5 79 yX5_isIn wsX5_isIn) := goodIn_app (goodIn_of _ (by decide +kernel)) ggX5_spoilt_X5_isIn
set_option maxRecDepth 20000 in
theorem ggX5_spoilt_X5_runBehind : GoodIn wsX5_spoilt wsX5_runBehind := goodIn_r _ [12, 3, 1, 4, 13, 14, 15, 16, 17, 18, 19, 20, 21, 22, 23, 24, 25, 26, 27, 28, 29, 30, 31, 32, 33, 34, 35, 36, 37, 38, 39, 40, 41, 42, 43, 44, 45, 46, 47, 48, 49, 50, 51, 52, 53, 54, 55, 56, 57, 58, 59, 60, 61, 62, 63, 64, 65, 66, 67, 68, 69, 70, 71, 72, 73, 74, 75, 76, 77, 78, 79, 80, 81, 82, 83, 84, 85, 86, 87, 88, 89, 90, 100, 101, 102, 103, 104, 105, 106, 107, 108, 109, 110, 111, 112, 113, 114, 115, 116, 117, 118, 119, 120, 121] (by decide +kernel) (by decide +kernel)
set_option maxRecDepth 20000 in
theorem gX5_spoilt_X5_runBehind : GoodIn wsX5_spoilt (wsV RX5 151 RX5 yX5_runBehind wsX5_runBehind) := goodIn_app (goodIn_of _ (by decide +kernel)) ggX5_spoilt_X5_runBehind
set_option maxRecDepth 20000 in
theorem ggX5_spoilt_X4_copyFrom : GoodIn wsX5_spoilt wsX4_copyFrom := goodIn_r _ [17, 18, 19, 20, 21, 22, 23, 24, 25, 26, 27, 28, 29, 30, 31, 32, 33, 110, 111, 112, 113, 114, 115, 116, 117, 118, 119, 120, 121] (by decide +kernel) (by decide +kernel)
set_option maxRecDepth 20000 in
theorem gX5_spoilt_X4_copyFrom : GoodIn wsX5_spoilt (wsV RX5 62 RX4 yX4_copyFrom wsX4_copyFrom) := goodIn_app (goodIn_of _ (by decide +kernel)) ggX5_spoilt_X4_copyFrom
set_option maxRecDepth 20000 in
theorem ggX5_spoilt_X4_passByDraws : GoodIn wsX5_spoilt wsX4_passByDraws := goodIn_r _ [94, 28, 18, 95, 96, 97, 16, 98, 33, 99, 38, 39, 40, 41, 42, 43, 44, 45, 23, 29, 30, 24, 46, 47, 48, 49, 50, 51, 52, 53, 25, 54, 55, 56, 57, 58, 59, 60, 61, 26, 27, 62, 63, 64, 65, 66, 67, 68, 69, 70, 71, 72, 73, 74, 75, 76, 77, 78, 79, 80, 81, 82, 83, 84, 85, 86, 87, 31, 88, 89, 90, 32, 110, 111, 112, 113, 114, 115, 116, 117, 118, 119, 120, 121] (by decide +kernel) (by decide +kernel)
set_option maxRecDepth 20000 in
theorem gX5_spoilt_X4_passByDraws : GoodIn wsX5_spoilt (wsV RX5 148 RX4 yX4_passByDraws wsX4_passByDraws) := goodIn_app (goodIn_of _ (by decide +kernel)) ggX5_spoilt_X4_passByDraws
theorem dX5_spoilt_0 : decode cX5_spoilt 0 = .ok (.iload_n 1, 1) := by decide +kernel
theorem dX5_spoilt_1 : decode cX5_spoilt 1 = .ok (.iconst 1, 1) := by decide +kernel
theorem dX5_spoilt_2 : decode cX5_spoilt 2 = .ok (.bipush 30, 2) := by decide +kernel
theorem dX5_spoilt_4 : decode cX5_spoilt 4 = .ok (.invokestatic 79, 3) := by decide +kernel
theorem dX5_spoilt_7 : decode cX5_spoilt 7 = .ok (.ifCond .ne 5, 3) := by decide +kernel
theorem dX5_spoilt_10 : decode cX5_spoilt 10 = .ok (.iconst (-1), 1) := by decide +kernel
theorem dX5_spoilt_11 : decode cX5_spoilt 11 = .ok (.ireturn, 1) := by decide +kernel
theorem dX5_spoilt_12 : decode cX5_spoilt 12 = .ok (.aload_n 0, 1) := by decide +kernel
theorem dX5_spoilt_13 : decode cX5_spoilt 13 = .ok (.iconst 1, 1) := by decide +kernel
theorem dX5_spoilt_14 : decode cX5_spoilt 14 = .ok (.invokevirtual 151, 3) := by decide +kernel
theorem dX5_spoilt_17 : decode cX5_spoilt 17 = .ok (.istore_n 2, 1) := by decide +kernel
theorem dX5_spoilt_18 : decode cX5_spoilt 18 = .ok (.iconst 0, 1) := by decide +kernel
theorem dX5_spoilt_19 : decode cX5_spoilt 19 = .ok (.istore_n 3, 1) := by decide +kernel
theorem dX5_spoilt_20 : decode cX5_spoilt 20 = .ok (.aload_n 0, 1) := by decide +kernel
theorem dX5_spoilt_21 : decode cX5_spoilt 21 = .ok (.getfield 10, 3) := by decide +kernel
theorem dX5_spoilt_24 : decode cX5_spoilt 24 = .ok (.getfield 145, 3) := by decide +kernel
theorem dX5_spoilt_27 : decode cX5_spoilt 27 = .ok (.istore 4, 2) := by decide +kernel
theorem dX5_spoilt_29 : decode cX5_spoilt 29 = .ok (.iconst 0, 1) := by decide +kernel
theorem dX5_spoilt_30 : decode cX5_spoilt 30 = .ok (.istore 5, 2) := by decide +kernel
theorem dX5_spoilt_32 : decode cX5_spoilt 32 = .ok (.iload 5, 2) := by decide +kernel
theorem dX5_spoilt_34 : decode cX5_spoilt 34 = .ok (.iload_n 1, 1) := by decide +kernel
theorem dX5_spoilt_35 : decode cX5_spoilt 35 = .ok (.if_icmp .ge 59, 3) := by decide +kernel
theorem dX5_spoilt_38 : decode cX5_spoilt 38 = .ok (.aload_n 0, 1) := by decide +kernel
theorem dX5_spoilt_39 : decode cX5_spoilt 39 = .ok (.getfield 16, 3) := by decide +kernel
theorem dX5_spoilt_42 : decode cX5_spoilt 42 = .ok (.aload_n 0, 1) := by decide +kernel
theorem dX5_spoilt_43 : decode cX5_spoilt 43 = .ok (.getfield 10, 3) := by decide +kernel
theorem dX5_spoilt_46 : decode cX5_spoilt 46 = .ok (.invokevirtual 62, 3) := by decide +kernel
theorem dX5_spoilt_49 : decode cX5_spoilt 49 = .ok (.aload_n 0, 1) := by decide +kernel
theorem dX5_spoilt_50 : decode cX5_spoilt 50 = .ok (.getfield 16, 3) := by decide +kernel
theorem dX5_spoilt_53 : decode cX5_spoilt 53 = .ok (.iload 4, 2) := by decide +kernel
theorem dX5_spoilt_55 : decode cX5_spoilt 55 = .ok (.putfield 145, 3) := by decide +kernel
theorem dX5_spoilt_58 : decode cX5_spoilt 58 = .ok (.aload_n 0, 1) := by decide +kernel
theorem dX5_spoilt_59 : decode cX5_spoilt 59 = .ok (.getfield 16, 3) := by decide +kernel
theorem dX5_spoilt_62 : decode cX5_spoilt 62 = .ok (.invokevirtual 148, 3) := by decide +kernel
theorem dX5_spoilt_65 : decode cX5_spoilt 65 = .ok (.aload_n 0, 1) := by decide +kernel
theorem dX5_spoilt_66 : decode cX5_spoilt 66 = .ok (.getfield 16, 3) := by decide +kernel
theorem dX5_spoilt_69 : decode cX5_spoilt 69 = .ok (.getfield 145, 3) := by decide +kernel
theorem dX5_spoilt_72 : decode cX5_spoilt 72 = .ok (.istore 4, 2) := by decide +kernel
theorem dX5_spoilt_74 : decode cX5_spoilt 74 = .ok (.aload_n 0, 1) := by decide +kernel
theorem dX5_spoilt_75 : decode cX5_spoilt 75 = .ok (.getfield 16, 3) := by decide +kernel
theorem dX5_spoilt_78 : decode cX5_spoilt 78 = .ok (.getfield 142, 3) := by decide +kernel
theorem dX5_spoilt_81 : decode cX5_spoilt 81 = .ok (.iload_n 2, 1) := by decide +kernel
theorem dX5_spoilt_82 : decode cX5_spoilt 82 = .ok (.if_icmp .ge 6, 3) := by decide +kernel
theorem dX5_spoilt_85 : decode cX5_spoilt 85 = .ok (.iinc 3 1, 3) := by decide +kernel
theorem dX5_spoilt_88 : decode cX5_spoilt 88 = .ok (.iinc 5 1, 3) := by decide +kernel
theorem dX5_spoilt_91 : decode cX5_spoilt 91 = .ok (.goto (-59), 3) := by decide +kernel
theorem dX5_spoilt_94 : decode cX5_spoilt 94 = .ok (.iload_n 3, 1) := by decide +kernel
theorem dX5_spoilt_95 : decode cX5_spoilt 95 = .ok (.ireturn, 1) := by decide +kernel
set_option maxRecDepth 20000 in
theorem ggX5_state_X4_noiseOfAll : GoodIn wsX5_state wsX4_noiseOfAll := goodIn_r _ [10, 11, 12, 49, 50, 51, 52, 53, 54, 55, 56, 57, 58, 59, 60] (by decide +kernel) (by decide +kernel)
set_option maxRecDepth 20000 in
theorem gX5_state_X4_noiseOfAll : GoodIn wsX5_state (wsV RX5 163 RX4 yX4_noiseOfAll wsX4_noiseOfAll) := goodIn_app (goodIn_of _ (by decide +kernel)) ggX5_state_X4_noiseOfAll
set_option maxRecDepth 20000 in
theorem ggX5_state_X4_soundingSet : GoodIn wsX5_state wsX4_soundingSet := goodIn_r _ [16, 11, 17, 18, 19, 9, 20, 21, 22, 23, 24, 25, 26, 27, 28, 29, 30, 31, 32, 33, 34, 35, 36, 37, 38, 49, 50, 51, 52, 53, 54, 55, 56, 57, 58, 59, 60] (by decide +kernel) (by decide +kernel)
set_option maxRecDepth 20000 in
theorem gX5_state_X4_soundingSet : GoodIn wsX5_state (wsV RX5 131 RX4 yX4_soundingSet wsX4_soundingSet) := goodIn_app (goodIn_of _ (by decide +kernel)) ggX5_state_X4_soundingSet
theorem dX5_state_0 : decode cX5_state 0 = .ok (.iload_n 1, 1) := by decide +kernel
theorem dX5_state_1 : decode cX5_state 1 = .ok (.tableswitch 87 0 5 #[39, 47, 55, 63, 71, 79], 39) := by decide +kernel
theorem dX5_state_40 : decode cX5_state 40 = .ok (.aload_n 0, 1) := by decide +kernel
theorem dX5_state_41 : decode cX5_state 41 = .ok (.getfield 10, 3) := by decide +kernel
theorem dX5_state_44 : decode cX5_state 44 = .ok (.getfield 154, 3) := by decide +kernel
theorem dX5_state_47 : decode cX5_state 47 = .ok (.ireturn, 1) := by decide +kernel
theorem dX5_state_48 : decode cX5_state 48 = .ok (.aload_n 0, 1) := by decide +kernel
theorem dX5_state_49 : decode cX5_state 49 = .ok (.getfield 10, 3) := by decide +kernel
theorem dX5_state_52 : decode cX5_state 52 = .ok (.getfield 142, 3) := by decide +kernel
theorem dX5_state_55 : decode cX5_state 55 = .ok (.ireturn, 1) := by decide +kernel
theorem dX5_state_56 : decode cX5_state 56 = .ok (.aload_n 0, 1) := by decide +kernel
theorem dX5_state_57 : decode cX5_state 57 = .ok (.getfield 10, 3) := by decide +kernel
theorem dX5_state_60 : decode cX5_state 60 = .ok (.getfield 157, 3) := by decide +kernel
theorem dX5_state_63 : decode cX5_state 63 = .ok (.ireturn, 1) := by decide +kernel
theorem dX5_state_64 : decode cX5_state 64 = .ok (.aload_n 0, 1) := by decide +kernel
theorem dX5_state_65 : decode cX5_state 65 = .ok (.getfield 10, 3) := by decide +kernel
theorem dX5_state_68 : decode cX5_state 68 = .ok (.getfield 160, 3) := by decide +kernel
theorem dX5_state_71 : decode cX5_state 71 = .ok (.ireturn, 1) := by decide +kernel
theorem dX5_state_72 : decode cX5_state 72 = .ok (.aload_n 0, 1) := by decide +kernel
theorem dX5_state_73 : decode cX5_state 73 = .ok (.getfield 10, 3) := by decide +kernel
theorem dX5_state_76 : decode cX5_state 76 = .ok (.invokevirtual 163, 3) := by decide +kernel
theorem dX5_state_79 : decode cX5_state 79 = .ok (.ireturn, 1) := by decide +kernel
theorem dX5_state_80 : decode cX5_state 80 = .ok (.aload_n 0, 1) := by decide +kernel
theorem dX5_state_81 : decode cX5_state 81 = .ok (.getfield 10, 3) := by decide +kernel
theorem dX5_state_84 : decode cX5_state 84 = .ok (.invokevirtual 131, 3) := by decide +kernel
theorem dX5_state_87 : decode cX5_state 87 = .ok (.ireturn, 1) := by decide +kernel
theorem dX5_state_88 : decode cX5_state 88 = .ok (.iconst (-1), 1) := by decide +kernel
theorem dX5_state_89 : decode cX5_state 89 = .ok (.ireturn, 1) := by decide +kernel
set_option maxRecDepth 20000 in
theorem ggX5_anew_X4_forget : GoodIn wsX5_anew wsX4_forget := goodIn_r _ [7, 8, 9, 10, 11, 22, 23, 24, 25, 26, 27, 28, 29, 30, 31, 32, 33] (by decide +kernel) (by decide +kernel)
set_option maxRecDepth 20000 in
theorem gX5_anew_X4_forget : GoodIn wsX5_anew (wsV RX5 166 RX4 yX4_forget wsX4_forget) := goodIn_app (goodIn_of _ (by decide +kernel)) ggX5_anew_X4_forget
theorem dX5_anew_0 : decode cX5_anew 0 = .ok (.aload_n 0, 1) := by decide +kernel
theorem dX5_anew_1 : decode cX5_anew 1 = .ok (.getfield 10, 3) := by decide +kernel
theorem dX5_anew_4 : decode cX5_anew 4 = .ok (.getfield 142, 3) := by decide +kernel
theorem dX5_anew_7 : decode cX5_anew 7 = .ok (.istore_n 1, 1) := by decide +kernel
theorem dX5_anew_8 : decode cX5_anew 8 = .ok (.aload_n 0, 1) := by decide +kernel
theorem dX5_anew_9 : decode cX5_anew 9 = .ok (.getfield 10, 3) := by decide +kernel
theorem dX5_anew_12 : decode cX5_anew 12 = .ok (.invokevirtual 166, 3) := by decide +kernel
theorem dX5_anew_15 : decode cX5_anew 15 = .ok (.iload_n 1, 1) := by decide +kernel
theorem dX5_anew_16 : decode cX5_anew 16 = .ok (.ireturn, 1) := by decide +kernel
set_option maxRecDepth 20000 in
theorem ggX5_lasts_X5_isIn : GoodIn wsX5_lasts wsX5_isIn := goodIn_r _ [4] (by decide +kernel) (by decide +kernel)
set_option maxRecDepth 20000 in
theorem gX5_lasts_X5_isIn : GoodIn wsX5_lasts (va_wsS RX5 79 yX5_isIn wsX5_isIn) := goodIn_app (goodIn_of _ (by decide +kernel)) ggX5_lasts_X5_isIn
set_option maxRecDepth 20000 in
theorem ggX5_lasts_X5_runBehind : GoodIn wsX5_lasts wsX5_runBehind := goodIn_r _ [8, 9, 10, 11, 12, 13, 14, 15, 16, 17, 18, 19, 20, 21, 22, 23, 24, 25, 26, 27, 28, 29, 30, 31, 32, 33, 34, 35, 36, 37, 38, 39, 40, 41, 42, 43, 44, 45, 46, 47, 48, 49, 50, 51, 52, 53, 54, 55, 56, 57, 58, 59, 60, 61, 62, 63, 64, 65, 66, 67, 68, 69, 70, 71, 72, 73, 74, 75, 76, 77, 78, 79, 80, 81, 82, 83, 84, 85, 86, 87, 88, 89, 90, 91, 92, 93, 94, 95, 96, 97, 98, 99, 100, 101, 102, 103, 104, 105, 106, 107, 108, 109, 110, 111] (by decide +kernel) (by decide +kernel)
set_option maxRecDepth 20000 in
theorem gX5_lasts_X5_runBehind : GoodIn wsX5_lasts (wsV RX5 151 RX5 yX5_runBehind wsX5_runBehind) := goodIn_app (goodIn_of _ (by decide +kernel)) ggX5_lasts_X5_runBehind
theorem dX5_lasts_0 : decode cX5_lasts 0 = .ok (.iload_n 1, 1) := by decide +kernel
theorem dX5_lasts_1 : decode cX5_lasts 1 = .ok (.iconst 0, 1) := by decide +kernel
theorem dX5_lasts_2 : decode cX5_lasts 2 = .ok (.bipush 60, 2) := by decide +kernel
theorem dX5_lasts_4 : decode cX5_lasts 4 = .ok (.invokestatic 79, 3) := by decide +kernel
theorem dX5_lasts_7 : decode cX5_lasts 7 = .ok (.ifCond .eq 11, 3) := by decide +kernel
theorem dX5_lasts_10 : decode cX5_lasts 10 = .ok (.aload_n 0, 1) := by decide +kernel
theorem dX5_lasts_11 : decode cX5_lasts 11 = .ok (.iload_n 1, 1) := by decide +kernel
theorem dX5_lasts_12 : decode cX5_lasts 12 = .ok (.invokevirtual 151, 3) := by decide +kernel
theorem dX5_lasts_15 : decode cX5_lasts 15 = .ok (.goto 4, 3) := by decide +kernel
theorem dX5_lasts_18 : decode cX5_lasts 18 = .ok (.iconst (-1), 1) := by decide +kernel
theorem dX5_lasts_19 : decode cX5_lasts 19 = .ok (.ireturn, 1) := by decide +kernel
set_option maxRecDepth 20000 in
theorem ggX5_length_X5_isIn : GoodIn wsX5_length wsX5_isIn := goodIn_r _ [6] (by decide +kernel) (by decide +kernel)
set_option maxRecDepth 20000 in
theorem gX5_length_X5_isIn : GoodIn wsX5_length (va_wsS RX5 79 yX5_isIn wsX5_isIn) := goodIn_app (goodIn_of _ (by decide +kernel)) ggX5_length_X5_isIn
set_option maxRecDepth 20000 in
theorem ggX5_length_X4_copyFrom : GoodIn wsX5_length wsX4_copyFrom := goodIn_r _ [11, 12, 13, 14, 15, 16, 17, 18, 19, 20, 21, 22, 23, 24, 25, 26, 27, 73, 74, 75, 76, 77, 78, 79, 80, 81, 82, 83, 84] (by decide +kernel) (by decide +kernel)
set_option maxRecDepth 20000 in
theorem gX5_length_X4_copyFrom : GoodIn wsX5_length (wsV RX5 62 RX4 yX4_copyFrom wsX4_copyFrom) := goodIn_app (goodIn_of _ (by decide +kernel)) ggX5_length_X4_copyFrom
set_option maxRecDepth 20000 in
theorem ggX5_length_X4_longestWithin : GoodIn wsX5_length wsX4_longestWithin := goodIn_r _ [31, 24, 32, 33, 34, 35, 36, 37, 38, 10, 39, 22, 40, 41, 42, 43, 17, 23, 18, 12, 44, 45, 46, 47, 48, 49, 50, 51, 19, 52, 53, 54, 55, 56, 57, 58, 59, 60, 61, 62, 25, 26, 73, 74, 75, 76, 77, 78, 79, 80, 81, 82, 83, 84] (by decide +kernel) (by decide +kernel)
set_option maxRecDepth 20000 in
theorem gX5_length_X4_longestWithin : GoodIn wsX5_length (wsV RX5 169 RX4 yX4_longestWithin wsX4_longestWithin) := goodIn_app (goodIn_of _ (by decide +kernel)) ggX5_length_X4_longestWithin
theorem dX5_length_0 : decode cX5_length 0 = .ok (.iload_n 1, 1) := by decide +kernel
theorem dX5_length_1 : decode cX5_length 1 = .ok (.iconst 1, 1) := by decide +kernel
theorem dX5_length_2 : decode cX5_length 2 = .ok (.bipush 60, 2) := by decide +kernel
theorem dX5_length_4 : decode cX5_length 4 = .ok (.invokestatic 79, 3) := by decide +kernel
theorem dX5_length_7 : decode cX5_length 7 = .ok (.ifCond .ne 5, 3) := by decide +kernel
theorem dX5_length_10 : decode cX5_length 10 = .ok (.iconst (-1), 1) := by decide +kernel
theorem dX5_length_11 : decode cX5_length 11 = .ok (.ireturn, 1) := by decide +kernel
theorem dX5_length_12 : decode cX5_length 12 = .ok (.aload_n 0, 1) := by decide +kernel
theorem dX5_length_13 : decode cX5_length 13 = .ok (.getfield 16, 3) := by decide +kernel
theorem dX5_length_16 : decode cX5_length 16 = .ok (.aload_n 0, 1) := by decide +kernel
theorem dX5_length_17 : decode cX5_length 17 = .ok (.getfield 10, 3) := by decide +kernel
theorem dX5_length_20 : decode cX5_length 20 = .ok (.invokevirtual 62, 3) := by decide +kernel
theorem dX5_length_23 : decode cX5_length 23 = .ok (.aload_n 0, 1) := by decide +kernel
theorem dX5_length_24 : decode cX5_length 24 = .ok (.getfield 16, 3) := by decide +kernel
theorem dX5_length_27 : decode cX5_length 27 = .ok (.iload_n 1, 1) := by decide +kernel
theorem dX5_length_28 : decode cX5_length 28 = .ok (.invokevirtual 169, 3) := by decide +kernel
theorem dX5_length_31 : decode cX5_length 31 = .ok (.ireturn, 1) := by decide +kernel
set_option maxRecDepth 20000 in
theorem ggX5_kept_X4_copyFrom : GoodIn wsX5_kept wsX4_copyFrom := goodIn_r _ [8, 9, 10, 11, 12, 13, 14, 15, 16, 17, 18, 19, 20, 21, 22, 23, 24, 92, 93, 94, 95, 96, 97, 98, 99, 100, 101, 102, 103] (by decide +kernel) (by decide +kernel)
set_option maxRecDepth 20000 in
theorem gX5_kept_X4_copyFrom : GoodIn wsX5_kept (wsV RX5 62 RX4 yX4_copyFrom wsX4_copyFrom) := goodIn_app (goodIn_of _ (by decide +kernel)) ggX5_kept_X4_copyFrom
set_option maxRecDepth 20000 in
theorem ggX5_kept_X4_pass : GoodIn wsX5_kept wsX4_pass := goodIn_r _ [28, 29, 30, 31, 7, 32, 19, 33, 34, 35, 36, 14, 20, 21, 15, 9, 37, 38, 39, 40, 41, 42, 43, 44, 16, 45, 46, 47, 48, 49, 50, 51, 52, 17, 18, 53, 54, 55, 56, 57, 58, 59, 60, 61, 62, 63, 64, 65, 66, 67, 68, 69, 70, 71, 72, 73, 74, 75, 76, 77, 78, 22, 79, 80, 81, 23, 92, 93, 94, 95, 96, 97, 98, 99, 100, 101, 102, 103] (by decide +kernel) (by decide +kernel)
set_option maxRecDepth 20000 in
theorem gX5_kept_X4_pass : GoodIn wsX5_kept (wsV RX5 139 RX4 yX4_pass wsX4_pass) := goodIn_app (goodIn_of _ (by decide +kernel)) ggX5_kept_X4_pass
theorem dX5_kept_0 : decode cX5_kept 0 = .ok (.aload_n 0, 1) := by decide +kernel
theorem dX5_kept_1 : decode cX5_kept 1 = .ok (.getfield 16, 3) := by decide +kernel
theorem dX5_kept_4 : decode cX5_kept 4 = .ok (.aload_n 0, 1) := by decide +kernel
theorem dX5_kept_5 : decode cX5_kept 5 = .ok (.getfield 10, 3) := by decide +kernel
theorem dX5_kept_8 : decode cX5_kept 8 = .ok (.invokevirtual 62, 3) := by decide +kernel
theorem dX5_kept_11 : decode cX5_kept 11 = .ok (.iconst 0, 1) := by decide +kernel
theorem dX5_kept_12 : decode cX5_kept 12 = .ok (.istore_n 1, 1) := by decide +kernel
theorem dX5_kept_13 : decode cX5_kept 13 = .ok (.iload_n 1, 1) := by decide +kernel
theorem dX5_kept_14 : decode cX5_kept 14 = .ok (.bipush 60, 2) := by decide +kernel
theorem dX5_kept_16 : decode cX5_kept 16 = .ok (.if_icmp .ge 42, 3) := by decide +kernel
theorem dX5_kept_19 : decode cX5_kept 19 = .ok (.aload_n 0, 1) := by decide +kernel
theorem dX5_kept_20 : decode cX5_kept 20 = .ok (.getfield 16, 3) := by decide +kernel
theorem dX5_kept_23 : decode cX5_kept 23 = .ok (.getfield 160, 3) := by decide +kernel
theorem dX5_kept_26 : decode cX5_kept 26 = .ok (.ifCond .ne 32, 3) := by decide +kernel
theorem dX5_kept_29 : decode cX5_kept 29 = .ok (.aload_n 0, 1) := by decide +kernel
theorem dX5_kept_30 : decode cX5_kept 30 = .ok (.getfield 16, 3) := by decide +kernel
theorem dX5_kept_33 : decode cX5_kept 33 = .ok (.invokevirtual 139, 3) := by decide +kernel
theorem dX5_kept_36 : decode cX5_kept 36 = .ok (.pop, 1) := by decide +kernel
theorem dX5_kept_37 : decode cX5_kept 37 = .ok (.aload_n 0, 1) := by decide +kernel
theorem dX5_kept_38 : decode cX5_kept 38 = .ok (.getfield 16, 3) := by decide +kernel
theorem dX5_kept_41 : decode cX5_kept 41 = .ok (.getfield 160, 3) := by decide +kernel
theorem dX5_kept_44 : decode cX5_kept 44 = .ok (.iconst 1, 1) := by decide +kernel
theorem dX5_kept_45 : decode cX5_kept 45 = .ok (.if_icmp .ne 7, 3) := by decide +kernel
theorem dX5_kept_48 : decode cX5_kept 48 = .ok (.iload_n 1, 1) := by decide +kernel
theorem dX5_kept_49 : decode cX5_kept 49 = .ok (.iconst 1, 1) := by decide +kernel
theorem dX5_kept_50 : decode cX5_kept 50 = .ok (.iadd, 1) := by decide +kernel
theorem dX5_kept_51 : decode cX5_kept 51 = .ok (.ireturn, 1) := by decide +kernel
theorem dX5_kept_52 : decode cX5_kept 52 = .ok (.iinc 1 1, 3) := by decide +kernel
theorem dX5_kept_55 : decode cX5_kept 55 = .ok (.goto (-42), 3) := by decide +kernel
theorem dX5_kept_58 : decode cX5_kept 58 = .ok (.aload_n 0, 1) := by decide +kernel
theorem dX5_kept_59 : decode cX5_kept 59 = .ok (.getfield 16, 3) := by decide +kernel
theorem dX5_kept_62 : decode cX5_kept 62 = .ok (.getfield 160, 3) := by decide +kernel
theorem dX5_kept_65 : decode cX5_kept 65 = .ok (.iconst 1, 1) := by decide +kernel
theorem dX5_kept_66 : decode cX5_kept 66 = .ok (.if_icmp .ne 7, 3) := by decide +kernel
theorem dX5_kept_69 : decode cX5_kept 69 = .ok (.iconst 0, 1) := by decide +kernel
theorem dX5_kept_70 : decode cX5_kept 70 = .ok (.goto 5, 3) := by decide +kernel
theorem dX5_kept_73 : decode cX5_kept 73 = .ok (.bipush (-3), 2) := by decide +kernel
theorem dX5_kept_75 : decode cX5_kept 75 = .ok (.ireturn, 1) := by decide +kernel
set_option maxRecDepth 20000 in
theorem ggX5_broken_X5_isIn : GoodIn wsX5_broken wsX5_isIn := goodIn_r _ [6] (by decide +kernel) (by decide +kernel)
set_option maxRecDepth 20000 in
theorem gX5_broken_X5_isIn : GoodIn wsX5_broken (va_wsS RX5 79 yX5_isIn wsX5_isIn) := goodIn_app (goodIn_of _ (by decide +kernel)) ggX5_broken_X5_isIn
set_option maxRecDepth 20000 in
theorem ggX5_broken_X4_copyFrom : GoodIn wsX5_broken wsX4_copyFrom := goodIn_r _ [11, 12, 13, 14, 15, 16, 17, 18, 19, 20, 21, 22, 23, 24, 25, 26, 27, 99, 100, 101, 102, 103, 104, 105, 106, 107, 108, 109, 110] (by decide +kernel) (by decide +kernel)
set_option maxRecDepth 20000 in
theorem gX5_broken_X4_copyFrom : GoodIn wsX5_broken (wsV RX5 62 RX4 yX4_copyFrom wsX4_copyFrom) := goodIn_app (goodIn_of _ (by decide +kernel)) ggX5_broken_X4_copyFrom
set_option maxRecDepth 20000 in
theorem ggX5_broken_X4_pass : GoodIn wsX5_broken wsX4_pass := goodIn_r _ [31, 32, 33, 34, 10, 35, 22, 36, 37, 38, 39, 17, 23, 24, 18, 12, 40, 41, 42, 43, 44, 45, 46, 47, 19, 48, 49, 50, 51, 52, 53, 54, 55, 20, 21, 56, 57, 58, 59, 60, 61, 62, 63, 64, 65, 66, 67, 68, 69, 70, 71, 72, 73, 74, 75, 76, 77, 78, 79, 80, 81, 25, 82, 83, 84, 26, 99, 100, 101, 102, 103, 104, 105, 106, 107, 108, 109, 110] (by decide +kernel) (by decide +kernel)
set_option maxRecDepth 20000 in
theorem gX5_broken_X4_pass : GoodIn wsX5_broken (wsV RX5 139 RX4 yX4_pass wsX4_pass) := goodIn_app (goodIn_of _ (by decide +kernel)) ggX5_broken_X4_pass
set_option maxRecDepth 20000 in
theorem ggX5_broken_J6_numberOfTrailingZeros_0f7a4 : GoodIn wsX5_broken wsJ6_numberOfTrailingZeros_0f7a4 := goodIn_r _ [87, 88] (by decide +kernel) (by decide +kernel)
set_option maxRecDepth 20000 in
theorem gX5_broken_J6_numberOfTrailingZeros_0f7a4 : GoodIn wsX5_broken (va_wsS RX5 172 yJ6_numberOfTrailingZeros_0f7a4 wsJ6_numberOfTrailingZeros_0f7a4) := goodIn_app (goodIn_of _ (by decide +kernel)) ggX5_broken_J6_numberOfTrailingZeros_0f7a4
theorem dX5_broken_0 : decode cX5_broken 0 = .ok (.iload_n 1, 1) := by decide +kernel
theorem dX5_broken_1 : decode cX5_broken 1 = .ok (.iconst 0, 1) := by decide +kernel
theorem dX5_broken_2 : decode cX5_broken 2 = .ok (.iconst 1, 1) := by decide +kernel
theorem dX5_broken_3 : decode cX5_broken 3 = .ok (.invokestatic 79, 3) := by decide +kernel
theorem dX5_broken_6 : decode cX5_broken 6 = .ok (.ifCond .ne 5, 3) := by decide +kernel
theorem dX5_broken_9 : decode cX5_broken 9 = .ok (.iconst (-1), 1) := by decide +kernel
theorem dX5_broken_10 : decode cX5_broken 10 = .ok (.ireturn, 1) := by decide +kernel
theorem dX5_broken_11 : decode cX5_broken 11 = .ok (.aload_n 0, 1) := by decide +kernel
theorem dX5_broken_12 : decode cX5_broken 12 = .ok (.getfield 16, 3) := by decide +kernel
theorem dX5_broken_15 : decode cX5_broken 15 = .ok (.aload_n 0, 1) := by decide +kernel
theorem dX5_broken_16 : decode cX5_broken 16 = .ok (.getfield 10, 3) := by decide +kernel
theorem dX5_broken_19 : decode cX5_broken 19 = .ok (.invokevirtual 62, 3) := by decide +kernel
theorem dX5_broken_22 : decode cX5_broken 22 = .ok (.iconst 1, 1) := by decide +kernel
theorem dX5_broken_23 : decode cX5_broken 23 = .ok (.istore_n 2, 1) := by decide +kernel
theorem dX5_broken_24 : decode cX5_broken 24 = .ok (.iload_n 2, 1) := by decide +kernel
theorem dX5_broken_25 : decode cX5_broken 25 = .ok (.bipush 60, 2) := by decide +kernel
theorem dX5_broken_27 : decode cX5_broken 27 = .ok (.if_icmp .gt 34, 3) := by decide +kernel
theorem dX5_broken_30 : decode cX5_broken 30 = .ok (.aload_n 0, 1) := by decide +kernel
theorem dX5_broken_31 : decode cX5_broken 31 = .ok (.getfield 16, 3) := by decide +kernel
theorem dX5_broken_34 : decode cX5_broken 34 = .ok (.invokevirtual 139, 3) := by decide +kernel
theorem dX5_broken_37 : decode cX5_broken 37 = .ok (.istore_n 3, 1) := by decide +kernel
theorem dX5_broken_38 : decode cX5_broken 38 = .ok (.iload_n 3, 1) := by decide +kernel
theorem dX5_broken_39 : decode cX5_broken 39 = .ok (.ifCond .eq 16, 3) := by decide +kernel
theorem dX5_broken_42 : decode cX5_broken 42 = .ok (.iload_n 1, 1) := by decide +kernel
theorem dX5_broken_43 : decode cX5_broken 43 = .ok (.ifCond .ne 7, 3) := by decide +kernel
theorem dX5_broken_46 : decode cX5_broken 46 = .ok (.iload_n 2, 1) := by decide +kernel
theorem dX5_broken_47 : decode cX5_broken 47 = .ok (.goto 7, 3) := by decide +kernel
theorem dX5_broken_50 : decode cX5_broken 50 = .ok (.iload_n 3, 1) := by decide +kernel
theorem dX5_broken_51 : decode cX5_broken 51 = .ok (.invokestatic 172, 3) := by decide +kernel
theorem dX5_broken_54 : decode cX5_broken 54 = .ok (.ireturn, 1) := by decide +kernel
theorem dX5_broken_55 : decode cX5_broken 55 = .ok (.iinc 2 1, 3) := by decide +kernel
theorem dX5_broken_58 : decode cX5_broken 58 = .ok (.goto (-34), 3) := by decide +kernel
theorem dX5_broken_61 : decode cX5_broken 61 = .ok (.bipush (-3), 2) := by decide +kernel
theorem dX5_broken_63 : decode cX5_broken 63 = .ok (.ireturn, 1) := by decide +kernel
set_option maxRecDepth 20000 in
theorem ggX5_phaseFor_X5_isTrial : GoodIn wsX5_phaseFor wsX5_isTrial := goodIn_r _ [7, 8, 9, 10, 11, 12, 13, 14, 15, 6, 16, 17, 76, 77, 78, 79, 80, 81, 82, 83, 84, 85, 86, 87, 88, 89, 90, 91, 92, 93, 94, 95, 96, 97] (by decide +kernel) (by decide +kernel)
set_option maxRecDepth 20000 in
theorem gX5_phaseFor_X5_isTrial : GoodIn wsX5_phaseFor (wsV RX5 177 RX5 yX5_isTrial wsX5_isTrial) := goodIn_app (goodIn_of _ (by decide +kernel)) ggX5_phaseFor_X5_isTrial
set_option maxRecDepth 20000 in
theorem ggX5_phaseFor_X5_quietest : GoodIn wsX5_phaseFor wsX5_quietest := goodIn_r _ [21, 1, 8, 22, 23, 24, 12, 25, 26, 27, 28, 29, 30, 31, 32, 33, 34, 35, 14, 36, 37, 38, 39, 40, 41, 42, 43, 44, 45, 46, 47, 48, 49, 50, 51, 52, 53, 54, 55, 56, 57, 58, 59, 60, 61, 62, 63, 64, 65, 66, 67, 68, 69, 70, 71, 72, 73, 74, 75, 76, 77, 78, 79, 80, 81, 82, 83, 84, 85, 86, 87, 88, 89, 90, 91, 92, 93, 94, 95, 96, 97] (by decide +kernel) (by decide +kernel)
set_option maxRecDepth 20000 in
theorem gX5_phaseFor_X5_quietest : GoodIn wsX5_phaseFor (wsV RX5 180 RX5 yX5_quietest wsX5_quietest) := goodIn_app (goodIn_of _ (by decide +kernel)) ggX5_phaseFor_X5_quietest
theorem dX5_phaseFor_0 : decode cX5_phaseFor 0 = .ok (.aload_n 0, 1) := by decide +kernel
theorem dX5_phaseFor_1 : decode cX5_phaseFor 1 = .ok (.iload_n 1, 1) := by decide +kernel
theorem dX5_phaseFor_2 : decode cX5_phaseFor 2 = .ok (.iload_n 2, 1) := by decide +kernel
theorem dX5_phaseFor_3 : decode cX5_phaseFor 3 = .ok (.bipush 60, 2) := by decide +kernel
theorem dX5_phaseFor_5 : decode cX5_phaseFor 5 = .ok (.invokevirtual 177, 3) := by decide +kernel
theorem dX5_phaseFor_8 : decode cX5_phaseFor 8 = .ok (.ifCond .eq 22, 3) := by decide +kernel
theorem dX5_phaseFor_11 : decode cX5_phaseFor 11 = .ok (.aload_n 0, 1) := by decide +kernel
theorem dX5_phaseFor_12 : decode cX5_phaseFor 12 = .ok (.aload_n 0, 1) := by decide +kernel
theorem dX5_phaseFor_13 : decode cX5_phaseFor 13 = .ok (.getfield 16, 3) := by decide +kernel
theorem dX5_phaseFor_16 : decode cX5_phaseFor 16 = .ok (.getfield 112, 3) := by decide +kernel
theorem dX5_phaseFor_19 : decode cX5_phaseFor 19 = .ok (.iload_n 1, 1) := by decide +kernel
theorem dX5_phaseFor_20 : decode cX5_phaseFor 20 = .ok (.iconst 0, 1) := by decide +kernel
theorem dX5_phaseFor_21 : decode cX5_phaseFor 21 = .ok (.bipush 8, 2) := by decide +kernel
theorem dX5_phaseFor_23 : decode cX5_phaseFor 23 = .ok (.iload_n 2, 1) := by decide +kernel
theorem dX5_phaseFor_24 : decode cX5_phaseFor 24 = .ok (.invokevirtual 180, 3) := by decide +kernel
theorem dX5_phaseFor_27 : decode cX5_phaseFor 27 = .ok (.goto 4, 3) := by decide +kernel
theorem dX5_phaseFor_30 : decode cX5_phaseFor 30 = .ok (.iconst (-1), 1) := by decide +kernel
theorem dX5_phaseFor_31 : decode cX5_phaseFor 31 = .ok (.ireturn, 1) := by decide +kernel
set_option maxRecDepth 20000 in
theorem ggX5_beatFor_X5_isTrial : GoodIn wsX5_beatFor wsX5_isTrial := goodIn_r _ [7, 8, 9, 10, 11, 12, 13, 14, 15, 6, 16, 17, 76, 77, 78, 79, 80, 81, 82, 83, 84, 85, 86, 87, 88, 89, 90, 91, 92, 93, 94, 95, 96, 97] (by decide +kernel) (by decide +kernel)
set_option maxRecDepth 20000 in
theorem gX5_beatFor_X5_isTrial : GoodIn wsX5_beatFor (wsV RX5 177 RX5 yX5_isTrial wsX5_isTrial) := goodIn_app (goodIn_of _ (by decide +kernel)) ggX5_beatFor_X5_isTrial
set_option maxRecDepth 20000 in
theorem ggX5_beatFor_X5_quietest : GoodIn wsX5_beatFor wsX5_quietest := goodIn_r _ [21, 1, 8, 22, 23, 24, 12, 25, 26, 27, 28, 29, 30, 31, 32, 33, 34, 35, 14, 36, 37, 38, 39, 40, 41, 42, 43, 44, 45, 46, 47, 48, 49, 50, 51, 52, 53, 54, 55, 56, 57, 58, 59, 60, 61, 62, 63, 64, 65, 66, 67, 68, 69, 70, 71, 72, 73, 74, 75, 76, 77, 78, 79, 80, 81, 82, 83, 84, 85, 86, 87, 88, 89, 90, 91, 92, 93, 94, 95, 96, 97] (by decide +kernel) (by decide +kernel)
set_option maxRecDepth 20000 in
theorem gX5_beatFor_X5_quietest : GoodIn wsX5_beatFor (wsV RX5 180 RX5 yX5_quietest wsX5_quietest) := goodIn_app (goodIn_of _ (by decide +kernel)) ggX5_beatFor_X5_quietest
theorem dX5_beatFor_0 : decode cX5_beatFor 0 = .ok (.aload_n 0, 1) := by decide +kernel
theorem dX5_beatFor_1 : decode cX5_beatFor 1 = .ok (.iload_n 1, 1) := by decide +kernel
theorem dX5_beatFor_2 : decode cX5_beatFor 2 = .ok (.iload_n 2, 1) := by decide +kernel
theorem dX5_beatFor_3 : decode cX5_beatFor 3 = .ok (.bipush 60, 2) := by decide +kernel
theorem dX5_beatFor_5 : decode cX5_beatFor 5 = .ok (.invokevirtual 177, 3) := by decide +kernel
theorem dX5_beatFor_8 : decode cX5_beatFor 8 = .ok (.ifCond .eq 22, 3) := by decide +kernel
theorem dX5_beatFor_11 : decode cX5_beatFor 11 = .ok (.aload_n 0, 1) := by decide +kernel
theorem dX5_beatFor_12 : decode cX5_beatFor 12 = .ok (.aload_n 0, 1) := by decide +kernel
theorem dX5_beatFor_13 : decode cX5_beatFor 13 = .ok (.getfield 16, 3) := by decide +kernel
theorem dX5_beatFor_16 : decode cX5_beatFor 16 = .ok (.getfield 109, 3) := by decide +kernel
theorem dX5_beatFor_19 : decode cX5_beatFor 19 = .ok (.iload_n 1, 1) := by decide +kernel
theorem dX5_beatFor_20 : decode cX5_beatFor 20 = .ok (.iconst 1, 1) := by decide +kernel
theorem dX5_beatFor_21 : decode cX5_beatFor 21 = .ok (.bipush 9, 2) := by decide +kernel
theorem dX5_beatFor_23 : decode cX5_beatFor 23 = .ok (.iload_n 2, 1) := by decide +kernel
theorem dX5_beatFor_24 : decode cX5_beatFor 24 = .ok (.invokevirtual 180, 3) := by decide +kernel
theorem dX5_beatFor_27 : decode cX5_beatFor 27 = .ok (.goto 4, 3) := by decide +kernel
theorem dX5_beatFor_30 : decode cX5_beatFor 30 = .ok (.iconst (-1), 1) := by decide +kernel
theorem dX5_beatFor_31 : decode cX5_beatFor 31 = .ok (.ireturn, 1) := by decide +kernel
set_option maxRecDepth 20000 in
theorem ggX5_kindFor_X5_isTrial : GoodIn wsX5_kindFor wsX5_isTrial := goodIn_r _ [7, 8, 9, 10, 11, 12, 13, 14, 15, 6, 16, 17, 76, 77, 78, 79, 80, 81, 82, 83, 84, 85, 86, 87, 88, 89, 90, 91, 92, 93, 94, 95, 96, 97] (by decide +kernel) (by decide +kernel)
set_option maxRecDepth 20000 in
theorem gX5_kindFor_X5_isTrial : GoodIn wsX5_kindFor (wsV RX5 177 RX5 yX5_isTrial wsX5_isTrial) := goodIn_app (goodIn_of _ (by decide +kernel)) ggX5_kindFor_X5_isTrial
set_option maxRecDepth 20000 in
theorem ggX5_kindFor_X5_quietest : GoodIn wsX5_kindFor wsX5_quietest := goodIn_r _ [21, 1, 8, 22, 23, 24, 12, 25, 26, 27, 28, 29, 30, 31, 32, 33, 34, 35, 14, 36, 37, 38, 39, 40, 41, 42, 43, 44, 45, 46, 47, 48, 49, 50, 51, 52, 53, 54, 55, 56, 57, 58, 59, 60, 61, 62, 63, 64, 65, 66, 67, 68, 69, 70, 71, 72, 73, 74, 75, 76, 77, 78, 79, 80, 81, 82, 83, 84, 85, 86, 87, 88, 89, 90, 91, 92, 93, 94, 95, 96, 97] (by decide +kernel) (by decide +kernel)
set_option maxRecDepth 20000 in
theorem gX5_kindFor_X5_quietest : GoodIn wsX5_kindFor (wsV RX5 180 RX5 yX5_quietest wsX5_quietest) := goodIn_app (goodIn_of _ (by decide +kernel)) ggX5_kindFor_X5_quietest
theorem dX5_kindFor_0 : decode cX5_kindFor 0 = .ok (.aload_n 0, 1) := by decide +kernel
theorem dX5_kindFor_1 : decode cX5_kindFor 1 = .ok (.iload_n 1, 1) := by decide +kernel
theorem dX5_kindFor_2 : decode cX5_kindFor 2 = .ok (.iload_n 2, 1) := by decide +kernel
theorem dX5_kindFor_3 : decode cX5_kindFor 3 = .ok (.bipush 60, 2) := by decide +kernel
theorem dX5_kindFor_5 : decode cX5_kindFor 5 = .ok (.invokevirtual 177, 3) := by decide +kernel
theorem dX5_kindFor_8 : decode cX5_kindFor 8 = .ok (.ifCond .eq 21, 3) := by decide +kernel
theorem dX5_kindFor_11 : decode cX5_kindFor 11 = .ok (.aload_n 0, 1) := by decide +kernel
theorem dX5_kindFor_12 : decode cX5_kindFor 12 = .ok (.aload_n 0, 1) := by decide +kernel
theorem dX5_kindFor_13 : decode cX5_kindFor 13 = .ok (.getfield 16, 3) := by decide +kernel
theorem dX5_kindFor_16 : decode cX5_kindFor 16 = .ok (.getfield 106, 3) := by decide +kernel
theorem dX5_kindFor_19 : decode cX5_kindFor 19 = .ok (.iload_n 1, 1) := by decide +kernel
theorem dX5_kindFor_20 : decode cX5_kindFor 20 = .ok (.iconst 0, 1) := by decide +kernel
theorem dX5_kindFor_21 : decode cX5_kindFor 21 = .ok (.iconst 5, 1) := by decide +kernel
theorem dX5_kindFor_22 : decode cX5_kindFor 22 = .ok (.iload_n 2, 1) := by decide +kernel
theorem dX5_kindFor_23 : decode cX5_kindFor 23 = .ok (.invokevirtual 180, 3) := by decide +kernel
theorem dX5_kindFor_26 : decode cX5_kindFor 26 = .ok (.goto 4, 3) := by decide +kernel
theorem dX5_kindFor_29 : decode cX5_kindFor 29 = .ok (.iconst (-1), 1) := by decide +kernel
theorem dX5_kindFor_30 : decode cX5_kindFor 30 = .ok (.ireturn, 1) := by decide +kernel
set_option maxRecDepth 20000 in
theorem ggX5_pairFor_X5_isTrial : GoodIn wsX5_pairFor wsX5_isTrial := goodIn_r _ [8, 1, 9, 10, 11, 12, 13, 14, 15, 7, 16, 17, 72, 73, 74, 75, 76, 77, 78, 79, 80, 81, 82, 83, 84, 85, 86, 87, 88, 89, 90, 91, 92, 93] (by decide +kernel) (by decide +kernel)
set_option maxRecDepth 20000 in
theorem gX5_pairFor_X5_isTrial : GoodIn wsX5_pairFor (wsV RX5 177 RX5 yX5_isTrial wsX5_isTrial) := goodIn_app (goodIn_of _ (by decide +kernel)) ggX5_pairFor_X5_isTrial
set_option maxRecDepth 20000 in
theorem ggX5_pairFor_X4_has : GoodIn wsX5_pairFor wsX4_has := goodIn_r _ [13, 14, 15, 7, 16, 82, 83, 84, 85, 86, 87, 88, 89, 90, 91, 92, 93] (by decide +kernel) (by decide +kernel)
set_option maxRecDepth 20000 in
theorem gX5_pairFor_X4_has : GoodIn wsX5_pairFor (wsV RX5 103 RX4 yX4_has wsX4_has) := goodIn_app (goodIn_of _ (by decide +kernel)) ggX5_pairFor_X4_has
set_option maxRecDepth 20000 in
theorem ggX5_pairFor_X4_copyFrom : GoodIn wsX5_pairFor wsX4_copyFrom := goodIn_r _ [21, 22, 23, 24, 25, 26, 27, 28, 29, 30, 31, 14, 32, 33, 34, 35, 36, 82, 83, 84, 85, 86, 87, 88, 89, 90, 91, 92, 93] (by decide +kernel) (by decide +kernel)
set_option maxRecDepth 20000 in
theorem gX5_pairFor_X4_copyFrom : GoodIn wsX5_pairFor (wsV RX5 62 RX4 yX4_copyFrom wsX4_copyFrom) := goodIn_app (goodIn_of _ (by decide +kernel)) ggX5_pairFor_X4_copyFrom
set_option maxRecDepth 20000 in
theorem ggX5_pairFor_X4_longestWithin : GoodIn wsX5_pairFor wsX4_longestWithin := goodIn_r _ [40, 33, 41, 42, 43, 44, 45, 46, 47, 12, 48, 14, 49, 50, 51, 52, 27, 32, 28, 22, 53, 54, 55, 56, 57, 58, 59, 60, 29, 61, 62, 63, 64, 65, 66, 67, 68, 69, 70, 71, 34, 35, 82, 83, 84, 85, 86, 87, 88, 89, 90, 91, 92, 93] (by decide +kernel) (by decide +kernel)
set_option maxRecDepth 20000 in
theorem gX5_pairFor_X4_longestWithin : GoodIn wsX5_pairFor (wsV RX5 169 RX4 yX4_longestWithin wsX4_longestWithin) := goodIn_app (goodIn_of _ (by decide +kernel)) ggX5_pairFor_X4_longestWithin
theorem dX5_pairFor_0 : decode cX5_pairFor 0 = .ok (.aload_n 0, 1) := by decide +kernel
theorem dX5_pairFor_1 : decode cX5_pairFor 1 = .ok (.iload_n 1, 1) := by decide +kernel
theorem dX5_pairFor_2 : decode cX5_pairFor 2 = .ok (.iload_n 3, 1) := by decide +kernel
theorem dX5_pairFor_3 : decode cX5_pairFor 3 = .ok (.bipush 30, 2) := by decide +kernel
theorem dX5_pairFor_5 : decode cX5_pairFor 5 = .ok (.invokevirtual 177, 3) := by decide +kernel
theorem dX5_pairFor_8 : decode cX5_pairFor 8 = .ok (.ifCond .eq 19, 3) := by decide +kernel
theorem dX5_pairFor_11 : decode cX5_pairFor 11 = .ok (.aload_n 0, 1) := by decide +kernel
theorem dX5_pairFor_12 : decode cX5_pairFor 12 = .ok (.getfield 10, 3) := by decide +kernel
theorem dX5_pairFor_15 : decode cX5_pairFor 15 = .ok (.iload_n 2, 1) := by decide +kernel
theorem dX5_pairFor_16 : decode cX5_pairFor 16 = .ok (.invokevirtual 103, 3) := by decide +kernel
theorem dX5_pairFor_19 : decode cX5_pairFor 19 = .ok (.ifCond .eq 8, 3) := by decide +kernel
theorem dX5_pairFor_22 : decode cX5_pairFor 22 = .ok (.iload_n 1, 1) := by decide +kernel
theorem dX5_pairFor_23 : decode cX5_pairFor 23 = .ok (.iload_n 2, 1) := by decide +kernel
theorem dX5_pairFor_24 : decode cX5_pairFor 24 = .ok (.if_icmp .ne 5, 3) := by decide +kernel
theorem dX5_pairFor_27 : decode cX5_pairFor 27 = .ok (.iconst (-1), 1) := by decide +kernel
theorem dX5_pairFor_28 : decode cX5_pairFor 28 = .ok (.ireturn, 1) := by decide +kernel
theorem dX5_pairFor_29 : decode cX5_pairFor 29 = .ok (.iconst (-1), 1) := by decide +kernel
theorem dX5_pairFor_30 : decode cX5_pairFor 30 = .ok (.istore 4, 2) := by decide +kernel
theorem dX5_pairFor_32 : decode cX5_pairFor 32 = .ok (.iconst 0, 1) := by decide +kernel
theorem dX5_pairFor_33 : decode cX5_pairFor 33 = .ok (.istore 5, 2) := by decide +kernel
theorem dX5_pairFor_35 : decode cX5_pairFor 35 = .ok (.iconst 0, 1) := by decide +kernel
theorem dX5_pairFor_36 : decode cX5_pairFor 36 = .ok (.istore 6, 2) := by decide +kernel
theorem dX5_pairFor_38 : decode cX5_pairFor 38 = .ok (.iload 6, 2) := by decide +kernel
theorem dX5_pairFor_40 : decode cX5_pairFor 40 = .ok (.bipush 8, 2) := by decide +kernel
theorem dX5_pairFor_42 : decode cX5_pairFor 42 = .ok (.if_icmp .gt 89, 3) := by decide +kernel
theorem dX5_pairFor_45 : decode cX5_pairFor 45 = .ok (.iconst 0, 1) := by decide +kernel
theorem dX5_pairFor_46 : decode cX5_pairFor 46 = .ok (.istore 7, 2) := by decide +kernel
theorem dX5_pairFor_48 : decode cX5_pairFor 48 = .ok (.iload 7, 2) := by decide +kernel
theorem dX5_pairFor_50 : decode cX5_pairFor 50 = .ok (.bipush 8, 2) := by decide +kernel
theorem dX5_pairFor_52 : decode cX5_pairFor 52 = .ok (.if_icmp .gt 73, 3) := by decide +kernel
theorem dX5_pairFor_55 : decode cX5_pairFor 55 = .ok (.aload_n 0, 1) := by decide +kernel
theorem dX5_pairFor_56 : decode cX5_pairFor 56 = .ok (.getfield 16, 3) := by decide +kernel
theorem dX5_pairFor_59 : decode cX5_pairFor 59 = .ok (.aload_n 0, 1) := by decide +kernel
theorem dX5_pairFor_60 : decode cX5_pairFor 60 = .ok (.getfield 10, 3) := by decide +kernel
theorem dX5_pairFor_63 : decode cX5_pairFor 63 = .ok (.invokevirtual 62, 3) := by decide +kernel
theorem dX5_pairFor_66 : decode cX5_pairFor 66 = .ok (.aload_n 0, 1) := by decide +kernel
theorem dX5_pairFor_67 : decode cX5_pairFor 67 = .ok (.getfield 16, 3) := by decide +kernel
theorem dX5_pairFor_70 : decode cX5_pairFor 70 = .ok (.getfield 112, 3) := by decide +kernel
theorem dX5_pairFor_73 : decode cX5_pairFor 73 = .ok (.iload_n 1, 1) := by decide +kernel
theorem dX5_pairFor_74 : decode cX5_pairFor 74 = .ok (.iload 6, 2) := by decide +kernel
theorem dX5_pairFor_76 : decode cX5_pairFor 76 = .ok (.iastore, 1) := by decide +kernel
theorem dX5_pairFor_77 : decode cX5_pairFor 77 = .ok (.aload_n 0, 1) := by decide +kernel
theorem dX5_pairFor_78 : decode cX5_pairFor 78 = .ok (.getfield 16, 3) := by decide +kernel
theorem dX5_pairFor_81 : decode cX5_pairFor 81 = .ok (.getfield 112, 3) := by decide +kernel
theorem dX5_pairFor_84 : decode cX5_pairFor 84 = .ok (.iload_n 2, 1) := by decide +kernel
theorem dX5_pairFor_85 : decode cX5_pairFor 85 = .ok (.iload 7, 2) := by decide +kernel
theorem dX5_pairFor_87 : decode cX5_pairFor 87 = .ok (.iastore, 1) := by decide +kernel
theorem dX5_pairFor_88 : decode cX5_pairFor 88 = .ok (.aload_n 0, 1) := by decide +kernel
theorem dX5_pairFor_89 : decode cX5_pairFor 89 = .ok (.getfield 16, 3) := by decide +kernel
theorem dX5_pairFor_92 : decode cX5_pairFor 92 = .ok (.iload_n 3, 1) := by decide +kernel
theorem dX5_pairFor_93 : decode cX5_pairFor 93 = .ok (.invokevirtual 169, 3) := by decide +kernel
theorem dX5_pairFor_96 : decode cX5_pairFor 96 = .ok (.istore 8, 2) := by decide +kernel
theorem dX5_pairFor_98 : decode cX5_pairFor 98 = .ok (.iload 8, 2) := by decide +kernel
theorem dX5_pairFor_100 : decode cX5_pairFor 100 = .ok (.iload 4, 2) := by decide +kernel
theorem dX5_pairFor_102 : decode cX5_pairFor 102 = .ok (.if_icmp .le 17, 3) := by decide +kernel
theorem dX5_pairFor_105 : decode cX5_pairFor 105 = .ok (.iload 8, 2) := by decide +kernel
theorem dX5_pairFor_107 : decode cX5_pairFor 107 = .ok (.istore 4, 2) := by decide +kernel
theorem dX5_pairFor_109 : decode cX5_pairFor 109 = .ok (.iload 6, 2) := by decide +kernel
theorem dX5_pairFor_111 : decode cX5_pairFor 111 = .ok (.bipush 10, 2) := by decide +kernel
theorem dX5_pairFor_113 : decode cX5_pairFor 113 = .ok (.imul, 1) := by decide +kernel
theorem dX5_pairFor_114 : decode cX5_pairFor 114 = .ok (.iload 7, 2) := by decide +kernel
theorem dX5_pairFor_116 : decode cX5_pairFor 116 = .ok (.iadd, 1) := by decide +kernel
theorem dX5_pairFor_117 : decode cX5_pairFor 117 = .ok (.istore 5, 2) := by decide +kernel
theorem dX5_pairFor_119 : decode cX5_pairFor 119 = .ok (.iinc 7 1, 3) := by decide +kernel
theorem dX5_pairFor_122 : decode cX5_pairFor 122 = .ok (.goto (-74), 3) := by decide +kernel
theorem dX5_pairFor_125 : decode cX5_pairFor 125 = .ok (.iinc 6 1, 3) := by decide +kernel
theorem dX5_pairFor_128 : decode cX5_pairFor 128 = .ok (.goto (-90), 3) := by decide +kernel
theorem dX5_pairFor_131 : decode cX5_pairFor 131 = .ok (.iload 5, 2) := by decide +kernel
theorem dX5_pairFor_133 : decode cX5_pairFor 133 = .ok (.ireturn, 1) := by decide +kernel
set_option maxRecDepth 20000 in
theorem ggX5_awayFor_X5_isIn : GoodIn wsX5_awayFor wsX5_isIn := goodIn_r _ [6] (by decide +kernel) (by decide +kernel)
set_option maxRecDepth 20000 in
theorem gX5_awayFor_X5_isIn : GoodIn wsX5_awayFor (va_wsS RX5 79 yX5_isIn wsX5_isIn) := goodIn_app (goodIn_of _ (by decide +kernel)) ggX5_awayFor_X5_isIn
set_option maxRecDepth 20000 in
theorem ggX5_awayFor_J6_bitCount_0f7a4 : GoodIn wsX5_awayFor wsJ6_bitCount_0f7a4 := goodIn_r _ [10, 11, 12, 13] (by decide +kernel) (by decide +kernel)
set_option maxRecDepth 20000 in
theorem gX5_awayFor_J6_bitCount_0f7a4 : GoodIn wsX5_awayFor (va_wsS RX5 184 yJ6_bitCount_0f7a4 wsJ6_bitCount_0f7a4) := goodIn_app (goodIn_of _ (by decide +kernel)) ggX5_awayFor_J6_bitCount_0f7a4
set_option maxRecDepth 20000 in
theorem ggX5_awayFor_X5_isQuietWithout : GoodIn wsX5_awayFor wsX5_isQuietWithout := goodIn_r _ [17, 18, 1, 19, 20, 21, 22, 23, 24, 25, 26, 27, 28, 29, 30, 31, 32, 33, 34, 35, 36, 37, 38, 39, 40, 41, 42, 43, 44, 45, 46, 47, 48, 49, 50, 51, 52, 53, 54, 55, 56, 57, 58, 59, 60, 61, 62, 63, 64, 65, 66, 67, 68, 69, 70, 71, 72, 73, 74, 75, 76, 77, 78, 79, 80, 81, 82, 83, 84, 85, 86, 87, 88, 89, 90, 91, 92, 93] (by decide +kernel) (by decide +kernel)
set_option maxRecDepth 20000 in
theorem gX5_awayFor_X5_isQuietWithout : GoodIn wsX5_awayFor (wsV RX5 187 RX5 yX5_isQuietWithout wsX5_isQuietWithout) := goodIn_app (goodIn_of _ (by decide +kernel)) ggX5_awayFor_X5_isQuietWithout
theorem dX5_awayFor_0 : decode cX5_awayFor 0 = .ok (.iload_n 1, 1) := by decide +kernel
theorem dX5_awayFor_1 : decode cX5_awayFor 1 = .ok (.iconst 1, 1) := by decide +kernel
theorem dX5_awayFor_2 : decode cX5_awayFor 2 = .ok (.bipush 30, 2) := by decide +kernel
theorem dX5_awayFor_4 : decode cX5_awayFor 4 = .ok (.invokestatic 79, 3) := by decide +kernel
theorem dX5_awayFor_7 : decode cX5_awayFor 7 = .ok (.ifCond .eq 13, 3) := by decide +kernel
theorem dX5_awayFor_10 : decode cX5_awayFor 10 = .ok (.iload_n 2, 1) := by decide +kernel
theorem dX5_awayFor_11 : decode cX5_awayFor 11 = .ok (.iconst 0, 1) := by decide +kernel
theorem dX5_awayFor_12 : decode cX5_awayFor 12 = .ok (.bipush 99, 2) := by decide +kernel
theorem dX5_awayFor_14 : decode cX5_awayFor 14 = .ok (.invokestatic 79, 3) := by decide +kernel
theorem dX5_awayFor_17 : decode cX5_awayFor 17 = .ok (.ifCond .ne 5, 3) := by decide +kernel
theorem dX5_awayFor_20 : decode cX5_awayFor 20 = .ok (.iconst (-1), 1) := by decide +kernel
theorem dX5_awayFor_21 : decode cX5_awayFor 21 = .ok (.ireturn, 1) := by decide +kernel
theorem dX5_awayFor_22 : decode cX5_awayFor 22 = .ok (.iconst 1, 1) := by decide +kernel
theorem dX5_awayFor_23 : decode cX5_awayFor 23 = .ok (.aload_n 0, 1) := by decide +kernel
theorem dX5_awayFor_24 : decode cX5_awayFor 24 = .ok (.getfield 10, 3) := by decide +kernel
theorem dX5_awayFor_27 : decode cX5_awayFor 27 = .ok (.getfield 76, 3) := by decide +kernel
theorem dX5_awayFor_30 : decode cX5_awayFor 30 = .ok (.ishl, 1) := by decide +kernel
theorem dX5_awayFor_31 : decode cX5_awayFor 31 = .ok (.istore_n 3, 1) := by decide +kernel
theorem dX5_awayFor_32 : decode cX5_awayFor 32 = .ok (.iconst 0, 1) := by decide +kernel
theorem dX5_awayFor_33 : decode cX5_awayFor 33 = .ok (.istore 4, 2) := by decide +kernel
theorem dX5_awayFor_35 : decode cX5_awayFor 35 = .ok (.iload 4, 2) := by decide +kernel
theorem dX5_awayFor_37 : decode cX5_awayFor 37 = .ok (.aload_n 0, 1) := by decide +kernel
theorem dX5_awayFor_38 : decode cX5_awayFor 38 = .ok (.getfield 10, 3) := by decide +kernel
theorem dX5_awayFor_41 : decode cX5_awayFor 41 = .ok (.getfield 76, 3) := by decide +kernel
theorem dX5_awayFor_44 : decode cX5_awayFor 44 = .ok (.if_icmp .gt 48, 3) := by decide +kernel
theorem dX5_awayFor_47 : decode cX5_awayFor 47 = .ok (.iconst 0, 1) := by decide +kernel
theorem dX5_awayFor_48 : decode cX5_awayFor 48 = .ok (.istore 5, 2) := by decide +kernel
theorem dX5_awayFor_50 : decode cX5_awayFor 50 = .ok (.iload 5, 2) := by decide +kernel
theorem dX5_awayFor_52 : decode cX5_awayFor 52 = .ok (.iload_n 3, 1) := by decide +kernel
theorem dX5_awayFor_53 : decode cX5_awayFor 53 = .ok (.if_icmp .ge 33, 3) := by decide +kernel
theorem dX5_awayFor_56 : decode cX5_awayFor 56 = .ok (.iload 5, 2) := by decide +kernel
theorem dX5_awayFor_58 : decode cX5_awayFor 58 = .ok (.invokestatic 184, 3) := by decide +kernel
theorem dX5_awayFor_61 : decode cX5_awayFor 61 = .ok (.iload 4, 2) := by decide +kernel
theorem dX5_awayFor_63 : decode cX5_awayFor 63 = .ok (.if_icmp .ne 17, 3) := by decide +kernel
theorem dX5_awayFor_66 : decode cX5_awayFor 66 = .ok (.aload_n 0, 1) := by decide +kernel
theorem dX5_awayFor_67 : decode cX5_awayFor 67 = .ok (.iload 5, 2) := by decide +kernel
theorem dX5_awayFor_69 : decode cX5_awayFor 69 = .ok (.iload_n 1, 1) := by decide +kernel
theorem dX5_awayFor_70 : decode cX5_awayFor 70 = .ok (.iload_n 2, 1) := by decide +kernel
theorem dX5_awayFor_71 : decode cX5_awayFor 71 = .ok (.invokevirtual 187, 3) := by decide +kernel
theorem dX5_awayFor_74 : decode cX5_awayFor 74 = .ok (.ifCond .eq 6, 3) := by decide +kernel
theorem dX5_awayFor_77 : decode cX5_awayFor 77 = .ok (.iload 5, 2) := by decide +kernel
theorem dX5_awayFor_79 : decode cX5_awayFor 79 = .ok (.ireturn, 1) := by decide +kernel
theorem dX5_awayFor_80 : decode cX5_awayFor 80 = .ok (.iinc 5 1, 3) := by decide +kernel
theorem dX5_awayFor_83 : decode cX5_awayFor 83 = .ok (.goto (-33), 3) := by decide +kernel
theorem dX5_awayFor_86 : decode cX5_awayFor 86 = .ok (.iinc 4 1, 3) := by decide +kernel
theorem dX5_awayFor_89 : decode cX5_awayFor 89 = .ok (.goto (-54), 3) := by decide +kernel
theorem dX5_awayFor_92 : decode cX5_awayFor 92 = .ok (.bipush (-3), 2) := by decide +kernel
theorem dX5_awayFor_94 : decode cX5_awayFor 94 = .ok (.ireturn, 1) := by decide +kernel
set_option maxRecDepth 20000 in
theorem ggX5_heard_X5_isCorner : GoodIn wsX5_heard wsX5_isCorner := goodIn_r _ [4, 5, 6, 3, 7] (by decide +kernel) (by decide +kernel)
set_option maxRecDepth 20000 in
theorem gX5_heard_X5_isCorner : GoodIn wsX5_heard (va_wsS RX5 96 yX5_isCorner wsX5_isCorner) := goodIn_app (goodIn_of _ (by decide +kernel)) ggX5_heard_X5_isCorner
set_option maxRecDepth 20000 in
theorem ggX5_heard_X5_isIn : GoodIn wsX5_heard wsX5_isIn := goodIn_r _ [7] (by decide +kernel) (by decide +kernel)
set_option maxRecDepth 20000 in
theorem gX5_heard_X5_isIn : GoodIn wsX5_heard (va_wsS RX5 79 yX5_isIn wsX5_isIn) := goodIn_app (goodIn_of _ (by decide +kernel)) ggX5_heard_X5_isIn
set_option maxRecDepth 20000 in
theorem ggX5_heard_X5_secondsHeard : GoodIn wsX5_heard wsX5_secondsHeard := goodIn_r _ [11, 12, 13, 14, 15, 16, 17, 18, 19, 20, 21, 22, 23, 24, 25, 26, 27, 28, 29, 30, 31, 32, 33, 34, 35, 36, 37, 38, 39, 40, 41, 42, 43, 44, 45, 46, 47, 48, 49, 50, 51, 52, 53, 54, 55, 56, 57, 58, 59, 60, 61, 62, 63, 64, 65, 66, 67, 68, 69, 70, 71, 72, 73, 74, 75, 76, 77, 78, 79, 80, 81, 82, 83, 84, 85, 86, 87, 88, 89, 90, 91, 92, 93, 94, 95, 96, 97, 98] (by decide +kernel) (by decide +kernel)
set_option maxRecDepth 20000 in
theorem gX5_heard_X5_secondsHeard : GoodIn wsX5_heard (wsV RX5 190 RX5 yX5_secondsHeard wsX5_secondsHeard) := goodIn_app (goodIn_of _ (by decide +kernel)) ggX5_heard_X5_secondsHeard
theorem dX5_heard_0 : decode cX5_heard 0 = .ok (.iload_n 1, 1) := by decide +kernel
theorem dX5_heard_1 : decode cX5_heard 1 = .ok (.invokestatic 96, 3) := by decide +kernel
theorem dX5_heard_4 : decode cX5_heard 4 = .ok (.ifCond .eq 22, 3) := by decide +kernel
theorem dX5_heard_7 : decode cX5_heard 7 = .ok (.iload_n 2, 1) := by decide +kernel
theorem dX5_heard_8 : decode cX5_heard 8 = .ok (.iconst 1, 1) := by decide +kernel
theorem dX5_heard_9 : decode cX5_heard 9 = .ok (.bipush 60, 2) := by decide +kernel
theorem dX5_heard_11 : decode cX5_heard 11 = .ok (.invokestatic 79, 3) := by decide +kernel
theorem dX5_heard_14 : decode cX5_heard 14 = .ok (.ifCond .eq 12, 3) := by decide +kernel
theorem dX5_heard_17 : decode cX5_heard 17 = .ok (.aload_n 0, 1) := by decide +kernel
theorem dX5_heard_18 : decode cX5_heard 18 = .ok (.iload_n 1, 1) := by decide +kernel
theorem dX5_heard_19 : decode cX5_heard 19 = .ok (.iload_n 2, 1) := by decide +kernel
theorem dX5_heard_20 : decode cX5_heard 20 = .ok (.invokevirtual 190, 3) := by decide +kernel
theorem dX5_heard_23 : decode cX5_heard 23 = .ok (.goto 4, 3) := by decide +kernel
theorem dX5_heard_26 : decode cX5_heard 26 = .ok (.iconst (-1), 1) := by decide +kernel
theorem dX5_heard_27 : decode cX5_heard 27 = .ok (.ireturn, 1) := by decide +kernel
set_option maxRecDepth 20000 in
theorem ggX5_calm_X5_isIn : GoodIn wsX5_calm wsX5_isIn := goodIn_r _ [4] (by decide +kernel) (by decide +kernel)
set_option maxRecDepth 20000 in
theorem gX5_calm_X5_isIn : GoodIn wsX5_calm (va_wsS RX5 79 yX5_isIn wsX5_isIn) := goodIn_app (goodIn_of _ (by decide +kernel)) ggX5_calm_X5_isIn
set_option maxRecDepth 20000 in
theorem ggX5_calm_X5_secondsHeard : GoodIn wsX5_calm wsX5_secondsHeard := goodIn_r _ [8, 9, 10, 11, 12, 13, 14, 15, 16, 17, 18, 19, 20, 21, 22, 23, 24, 25, 26, 27, 28, 29, 30, 31, 32, 33, 34, 35, 36, 37, 38, 39, 40, 41, 42, 43, 44, 45, 46, 47, 48, 49, 50, 51, 52, 53, 54, 55, 56, 57, 58, 59, 60, 61, 62, 63, 64, 65, 66, 67, 68, 69, 70, 71, 72, 73, 74, 75, 76, 77, 78, 79, 80, 81, 82, 83, 84, 85, 86, 87, 88, 89, 90, 91, 92, 93, 94, 95] (by decide +kernel) (by decide +kernel)
set_option maxRecDepth 20000 in
theorem gX5_calm_X5_secondsHeard : GoodIn wsX5_calm (wsV RX5 190 RX5 yX5_secondsHeard wsX5_secondsHeard) := goodIn_app (goodIn_of _ (by decide +kernel)) ggX5_calm_X5_secondsHeard
theorem dX5_calm_0 : decode cX5_calm 0 = .ok (.iload_n 1, 1) := by decide +kernel
theorem dX5_calm_1 : decode cX5_calm 1 = .ok (.iconst 1, 1) := by decide +kernel
theorem dX5_calm_2 : decode cX5_calm 2 = .ok (.bipush 60, 2) := by decide +kernel
theorem dX5_calm_4 : decode cX5_calm 4 = .ok (.invokestatic 79, 3) := by decide +kernel
theorem dX5_calm_7 : decode cX5_calm 7 = .ok (.ifCond .ne 5, 3) := by decide +kernel
theorem dX5_calm_10 : decode cX5_calm 10 = .ok (.iconst (-1), 1) := by decide +kernel
theorem dX5_calm_11 : decode cX5_calm 11 = .ok (.ireturn, 1) := by decide +kernel
theorem dX5_calm_12 : decode cX5_calm 12 = .ok (.bipush 61, 2) := by decide +kernel
theorem dX5_calm_14 : decode cX5_calm 14 = .ok (.istore_n 2, 1) := by decide +kernel
theorem dX5_calm_15 : decode cX5_calm 15 = .ok (.iconst 0, 1) := by decide +kernel
theorem dX5_calm_16 : decode cX5_calm 16 = .ok (.istore_n 3, 1) := by decide +kernel
theorem dX5_calm_17 : decode cX5_calm 17 = .ok (.iconst 0, 1) := by decide +kernel
theorem dX5_calm_18 : decode cX5_calm 18 = .ok (.istore 4, 2) := by decide +kernel
theorem dX5_calm_20 : decode cX5_calm 20 = .ok (.iload 4, 2) := by decide +kernel
theorem dX5_calm_22 : decode cX5_calm 22 = .ok (.bipush 12, 2) := by decide +kernel
theorem dX5_calm_24 : decode cX5_calm 24 = .ok (.if_icmp .ge 30, 3) := by decide +kernel
theorem dX5_calm_27 : decode cX5_calm 27 = .ok (.aload_n 0, 1) := by decide +kernel
theorem dX5_calm_28 : decode cX5_calm 28 = .ok (.iload 4, 2) := by decide +kernel
theorem dX5_calm_30 : decode cX5_calm 30 = .ok (.iload_n 1, 1) := by decide +kernel
theorem dX5_calm_31 : decode cX5_calm 31 = .ok (.invokevirtual 190, 3) := by decide +kernel
theorem dX5_calm_34 : decode cX5_calm 34 = .ok (.istore 5, 2) := by decide +kernel
theorem dX5_calm_36 : decode cX5_calm 36 = .ok (.iload 5, 2) := by decide +kernel
theorem dX5_calm_38 : decode cX5_calm 38 = .ok (.iload_n 2, 1) := by decide +kernel
theorem dX5_calm_39 : decode cX5_calm 39 = .ok (.if_icmp .ge 9, 3) := by decide +kernel
theorem dX5_calm_42 : decode cX5_calm 42 = .ok (.iload 5, 2) := by decide +kernel
theorem dX5_calm_44 : decode cX5_calm 44 = .ok (.istore_n 2, 1) := by decide +kernel
theorem dX5_calm_45 : decode cX5_calm 45 = .ok (.iload 4, 2) := by decide +kernel
theorem dX5_calm_47 : decode cX5_calm 47 = .ok (.istore_n 3, 1) := by decide +kernel
theorem dX5_calm_48 : decode cX5_calm 48 = .ok (.iinc 4 1, 3) := by decide +kernel
theorem dX5_calm_51 : decode cX5_calm 51 = .ok (.goto (-31), 3) := by decide +kernel
theorem dX5_calm_54 : decode cX5_calm 54 = .ok (.iload_n 3, 1) := by decide +kernel
theorem dX5_calm_55 : decode cX5_calm 55 = .ok (.ireturn, 1) := by decide +kernel
set_option maxRecDepth 20000 in
theorem ggX5_fits_X5_isSheet : GoodIn wsX5_fits wsX5_isSheet := goodIn_r _ [7, 8, 9, 6, 10] (by decide +kernel) (by decide +kernel)
set_option maxRecDepth 20000 in
theorem gX5_fits_X5_isSheet : GoodIn wsX5_fits (va_wsS RX5 193 yX5_isSheet wsX5_isSheet) := goodIn_app (goodIn_of _ (by decide +kernel)) ggX5_fits_X5_isSheet
set_option maxRecDepth 20000 in
theorem ggX5_fits_X4_has : GoodIn wsX5_fits wsX4_has := goodIn_r _ [15, 16, 9, 6, 10, 101, 102, 103, 104, 105, 106, 107, 108, 109, 110, 111, 112] (by decide +kernel) (by decide +kernel)
set_option maxRecDepth 20000 in
theorem gX5_fits_X4_has : GoodIn wsX5_fits (wsV RX5 103 RX4 yX4_has wsX4_has) := goodIn_app (goodIn_of _ (by decide +kernel)) ggX5_fits_X4_has
set_option maxRecDepth 20000 in
theorem ggX5_fits_X5_isIn : GoodIn wsX5_fits wsX5_isIn := goodIn_r _ [10] (by decide +kernel) (by decide +kernel)
set_option maxRecDepth 20000 in
theorem gX5_fits_X5_isIn : GoodIn wsX5_fits (va_wsS RX5 79 yX5_isIn wsX5_isIn) := goodIn_app (goodIn_of _ (by decide +kernel)) ggX5_fits_X5_isIn
set_option maxRecDepth 20000 in
theorem ggX5_fits_X5_isTold : GoodIn wsX5_fits wsX5_isTold := goodIn_r _ [20, 21, 1, 22, 23, 24, 25, 26, 27, 28, 29, 14, 30, 31, 32, 33, 34, 35, 36, 37, 38, 39, 40, 16, 41, 42, 43, 44, 45, 46, 47, 48, 49, 50, 51, 52, 53, 54, 55, 56, 57, 58, 59, 60, 61, 62, 63, 64, 65, 66, 67, 68, 69, 70, 71, 72, 73, 74, 75, 76, 88, 89, 90, 91, 92, 93, 94, 95, 96, 97, 101, 102, 103, 104, 105, 106, 107, 108, 109, 110, 111, 112, 98, 99, 100] (by decide +kernel) (by decide +kernel)
set_option maxRecDepth 20000 in
theorem gX5_fits_X5_isTold : GoodIn wsX5_fits (wsV RX5 199 RX5 yX5_isTold wsX5_isTold) := goodIn_app (goodIn_of _ (by decide +kernel)) ggX5_fits_X5_isTold
set_option maxRecDepth 20000 in
theorem ggX5_fits_J6_bitCount_0f7a4 : GoodIn wsX5_fits wsJ6_bitCount_0f7a4 := goodIn_r _ [80, 81, 82, 83] (by decide +kernel) (by decide +kernel)
set_option maxRecDepth 20000 in
theorem gX5_fits_J6_bitCount_0f7a4 : GoodIn wsX5_fits (va_wsS RX5 184 yJ6_bitCount_0f7a4 wsJ6_bitCount_0f7a4) := goodIn_app (goodIn_of _ (by decide +kernel)) ggX5_fits_J6_bitCount_0f7a4
set_option maxRecDepth 20000 in
theorem ggX5_fits_J6_numberOfTrailingZeros_0f7a4 : GoodIn wsX5_fits wsJ6_numberOfTrailingZeros_0f7a4 := goodIn_r _ [86, 87] (by decide +kernel) (by decide +kernel)
set_option maxRecDepth 20000 in
theorem gX5_fits_J6_numberOfTrailingZeros_0f7a4 : GoodIn wsX5_fits (va_wsS RX5 172 yJ6_numberOfTrailingZeros_0f7a4 wsJ6_numberOfTrailingZeros_0f7a4) := goodIn_app (goodIn_of _ (by decide +kernel)) ggX5_fits_J6_numberOfTrailingZeros_0f7a4
theorem dX5_fits_0 : decode cX5_fits 0 = .ok (.iload_n 1, 1) := by decide +kernel
theorem dX5_fits_1 : decode cX5_fits 1 = .ok (.invokestatic 193, 3) := by decide +kernel
theorem dX5_fits_4 : decode cX5_fits 4 = .ok (.ifCond .eq 23, 3) := by decide +kernel
theorem dX5_fits_7 : decode cX5_fits 7 = .ok (.aload_n 0, 1) := by decide +kernel
theorem dX5_fits_8 : decode cX5_fits 8 = .ok (.getfield 10, 3) := by decide +kernel
theorem dX5_fits_11 : decode cX5_fits 11 = .ok (.iload_n 2, 1) := by decide +kernel
theorem dX5_fits_12 : decode cX5_fits 12 = .ok (.invokevirtual 103, 3) := by decide +kernel
theorem dX5_fits_15 : decode cX5_fits 15 = .ok (.ifCond .eq 12, 3) := by decide +kernel
theorem dX5_fits_18 : decode cX5_fits 18 = .ok (.iload_n 3, 1) := by decide +kernel
theorem dX5_fits_19 : decode cX5_fits 19 = .ok (.iconst 0, 1) := by decide +kernel
theorem dX5_fits_20 : decode cX5_fits 20 = .ok (.iconst 1, 1) := by decide +kernel
theorem dX5_fits_21 : decode cX5_fits 21 = .ok (.invokestatic 79, 3) := by decide +kernel
theorem dX5_fits_24 : decode cX5_fits 24 = .ok (.ifCond .ne 5, 3) := by decide +kernel
theorem dX5_fits_27 : decode cX5_fits 27 = .ok (.iconst (-1), 1) := by decide +kernel
theorem dX5_fits_28 : decode cX5_fits 28 = .ok (.ireturn, 1) := by decide +kernel
theorem dX5_fits_29 : decode cX5_fits 29 = .ok (.aload_n 0, 1) := by decide +kernel
theorem dX5_fits_30 : decode cX5_fits 30 = .ok (.getfield 35, 3) := by decide +kernel
theorem dX5_fits_33 : decode cX5_fits 33 = .ok (.iload_n 1, 1) := by decide +kernel
theorem dX5_fits_34 : decode cX5_fits 34 = .ok (.aaload, 1) := by decide +kernel
theorem dX5_fits_35 : decode cX5_fits 35 = .ok (.getfield 196, 3) := by decide +kernel
theorem dX5_fits_38 : decode cX5_fits 38 = .ok (.iconst (-1), 1) := by decide +kernel
theorem dX5_fits_39 : decode cX5_fits 39 = .ok (.if_icmp .ne 6, 3) := by decide +kernel
theorem dX5_fits_42 : decode cX5_fits 42 = .ok (.bipush (-11), 2) := by decide +kernel
theorem dX5_fits_44 : decode cX5_fits 44 = .ok (.ireturn, 1) := by decide +kernel
theorem dX5_fits_45 : decode cX5_fits 45 = .ok (.iconst 0, 1) := by decide +kernel
theorem dX5_fits_46 : decode cX5_fits 46 = .ok (.istore 4, 2) := by decide +kernel
theorem dX5_fits_48 : decode cX5_fits 48 = .ok (.bipush 8, 2) := by decide +kernel
theorem dX5_fits_50 : decode cX5_fits 50 = .ok (.istore 5, 2) := by decide +kernel
theorem dX5_fits_52 : decode cX5_fits 52 = .ok (.iload 5, 2) := by decide +kernel
theorem dX5_fits_54 : decode cX5_fits 54 = .ok (.ifCond .lt 37, 3) := by decide +kernel
theorem dX5_fits_57 : decode cX5_fits 57 = .ok (.iload 4, 2) := by decide +kernel
theorem dX5_fits_59 : decode cX5_fits 59 = .ok (.iconst 2, 1) := by decide +kernel
theorem dX5_fits_60 : decode cX5_fits 60 = .ok (.imul, 1) := by decide +kernel
theorem dX5_fits_61 : decode cX5_fits 61 = .ok (.aload_n 0, 1) := by decide +kernel
theorem dX5_fits_62 : decode cX5_fits 62 = .ok (.aload_n 0, 1) := by decide +kernel
theorem dX5_fits_63 : decode cX5_fits 63 = .ok (.getfield 35, 3) := by decide +kernel
theorem dX5_fits_66 : decode cX5_fits 66 = .ok (.iload_n 1, 1) := by decide +kernel
theorem dX5_fits_67 : decode cX5_fits 67 = .ok (.aaload, 1) := by decide +kernel
theorem dX5_fits_68 : decode cX5_fits 68 = .ok (.iload_n 2, 1) := by decide +kernel
theorem dX5_fits_69 : decode cX5_fits 69 = .ok (.iload 5, 2) := by decide +kernel
theorem dX5_fits_71 : decode cX5_fits 71 = .ok (.invokevirtual 199, 3) := by decide +kernel
theorem dX5_fits_74 : decode cX5_fits 74 = .ok (.ifCond .eq 7, 3) := by decide +kernel
theorem dX5_fits_77 : decode cX5_fits 77 = .ok (.iconst 1, 1) := by decide +kernel
theorem dX5_fits_78 : decode cX5_fits 78 = .ok (.goto 4, 3) := by decide +kernel
theorem dX5_fits_81 : decode cX5_fits 81 = .ok (.iconst 0, 1) := by decide +kernel
theorem dX5_fits_82 : decode cX5_fits 82 = .ok (.iadd, 1) := by decide +kernel
theorem dX5_fits_83 : decode cX5_fits 83 = .ok (.istore 4, 2) := by decide +kernel
theorem dX5_fits_85 : decode cX5_fits 85 = .ok (.iinc 5 (-1), 3) := by decide +kernel
theorem dX5_fits_88 : decode cX5_fits 88 = .ok (.goto (-36), 3) := by decide +kernel
theorem dX5_fits_91 : decode cX5_fits 91 = .ok (.iload_n 3, 1) := by decide +kernel
theorem dX5_fits_92 : decode cX5_fits 92 = .ok (.ifCond .ne 9, 3) := by decide +kernel
theorem dX5_fits_95 : decode cX5_fits 95 = .ok (.iload 4, 2) := by decide +kernel
theorem dX5_fits_97 : decode cX5_fits 97 = .ok (.invokestatic 184, 3) := by decide +kernel
theorem dX5_fits_100 : decode cX5_fits 100 = .ok (.ireturn, 1) := by decide +kernel
theorem dX5_fits_101 : decode cX5_fits 101 = .ok (.iload 4, 2) := by decide +kernel
theorem dX5_fits_103 : decode cX5_fits 103 = .ok (.ifCond .ne 8, 3) := by decide +kernel
theorem dX5_fits_106 : decode cX5_fits 106 = .ok (.bipush (-3), 2) := by decide +kernel
theorem dX5_fits_108 : decode cX5_fits 108 = .ok (.goto 8, 3) := by decide +kernel
theorem dX5_fits_111 : decode cX5_fits 111 = .ok (.iload 4, 2) := by decide +kernel
theorem dX5_fits_113 : decode cX5_fits 113 = .ok (.invokestatic 172, 3) := by decide +kernel
theorem dX5_fits_116 : decode cX5_fits 116 = .ok (.ireturn, 1) := by decide +kernel
set_option maxRecDepth 20000 in
theorem ggX5_runBehind_X4_copyFrom : GoodIn wsX5_runBehind wsX4_copyFrom := goodIn_r _ [8, 9, 10, 11, 12, 13, 14, 15, 16, 17, 18, 19, 20, 21, 22, 23, 24, 92, 93, 94, 95, 96, 97, 98, 99, 100, 101, 102, 103] (by decide +kernel) (by decide +kernel)
set_option maxRecDepth 20000 in
theorem gX5_runBehind_X4_copyFrom : GoodIn wsX5_runBehind (wsV RX5 62 RX4 yX4_copyFrom wsX4_copyFrom) := goodIn_app (goodIn_of _ (by decide +kernel)) ggX5_runBehind_X4_copyFrom
set_option maxRecDepth 20000 in
theorem ggX5_runBehind_X4_pass : GoodIn wsX5_runBehind wsX4_pass := goodIn_r _ [28, 29, 30, 31, 7, 32, 19, 33, 34, 35, 36, 14, 20, 21, 15, 9, 37, 38, 39, 40, 41, 42, 43, 44, 16, 45, 46, 47, 48, 49, 50, 51, 52, 17, 18, 53, 54, 55, 56, 57, 58, 59, 60, 61, 62, 63, 64, 65, 66, 67, 68, 69, 70, 71, 72, 73, 74, 75, 76, 77, 78, 22, 79, 80, 81, 23, 92, 93, 94, 95, 96, 97, 98, 99, 100, 101, 102, 103] (by decide +kernel) (by decide +kernel)
set_option maxRecDepth 20000 in
theorem gX5_runBehind_X4_pass : GoodIn wsX5_runBehind (wsV RX5 139 RX4 yX4_pass wsX4_pass) := goodIn_app (goodIn_of _ (by decide +kernel)) ggX5_runBehind_X4_pass
theorem dX5_runBehind_0 : decode cX5_runBehind 0 = .ok (.aload_n 0, 1) := by decide +kernel
theorem dX5_runBehind_1 : decode cX5_runBehind 1 = .ok (.getfield 16, 3) := by decide +kernel
theorem dX5_runBehind_4 : decode cX5_runBehind 4 = .ok (.aload_n 0, 1) := by decide +kernel
theorem dX5_runBehind_5 : decode cX5_runBehind 5 = .ok (.getfield 10, 3) := by decide +kernel
theorem dX5_runBehind_8 : decode cX5_runBehind 8 = .ok (.invokevirtual 62, 3) := by decide +kernel
theorem dX5_runBehind_11 : decode cX5_runBehind 11 = .ok (.iconst 0, 1) := by decide +kernel
theorem dX5_runBehind_12 : decode cX5_runBehind 12 = .ok (.istore_n 2, 1) := by decide +kernel
theorem dX5_runBehind_13 : decode cX5_runBehind 13 = .ok (.iload_n 2, 1) := by decide +kernel
theorem dX5_runBehind_14 : decode cX5_runBehind 14 = .ok (.iload_n 1, 1) := by decide +kernel
theorem dX5_runBehind_15 : decode cX5_runBehind 15 = .ok (.if_icmp .ge 17, 3) := by decide +kernel
theorem dX5_runBehind_18 : decode cX5_runBehind 18 = .ok (.aload_n 0, 1) := by decide +kernel
theorem dX5_runBehind_19 : decode cX5_runBehind 19 = .ok (.getfield 16, 3) := by decide +kernel
theorem dX5_runBehind_22 : decode cX5_runBehind 22 = .ok (.invokevirtual 139, 3) := by decide +kernel
theorem dX5_runBehind_25 : decode cX5_runBehind 25 = .ok (.pop, 1) := by decide +kernel
theorem dX5_runBehind_26 : decode cX5_runBehind 26 = .ok (.iinc 2 1, 3) := by decide +kernel
theorem dX5_runBehind_29 : decode cX5_runBehind 29 = .ok (.goto (-16), 3) := by decide +kernel
theorem dX5_runBehind_32 : decode cX5_runBehind 32 = .ok (.aload_n 0, 1) := by decide +kernel
theorem dX5_runBehind_33 : decode cX5_runBehind 33 = .ok (.getfield 16, 3) := by decide +kernel
theorem dX5_runBehind_36 : decode cX5_runBehind 36 = .ok (.getfield 142, 3) := by decide +kernel
theorem dX5_runBehind_39 : decode cX5_runBehind 39 = .ok (.ireturn, 1) := by decide +kernel
set_option maxRecDepth 20000 in
theorem ggX5_quietest_X4_copyFrom : GoodIn wsX5_quietest wsX4_copyFrom := goodIn_r _ [7, 8, 9, 10, 11, 12, 13, 14, 15, 16, 17, 18, 19, 20, 21, 22, 23, 69, 70, 71, 72, 73, 74, 75, 76, 77, 78, 79, 80] (by decide +kernel) (by decide +kernel)
set_option maxRecDepth 20000 in
theorem gX5_quietest_X4_copyFrom : GoodIn wsX5_quietest (wsV RX5 62 RX4 yX4_copyFrom wsX4_copyFrom) := goodIn_app (goodIn_of _ (by decide +kernel)) ggX5_quietest_X4_copyFrom
set_option maxRecDepth 20000 in
theorem ggX5_quietest_X4_longestWithin : GoodIn wsX5_quietest wsX4_longestWithin := goodIn_r _ [27, 20, 28, 29, 30, 31, 32, 33, 34, 6, 35, 18, 36, 37, 38, 39, 13, 19, 14, 8, 40, 41, 42, 43, 44, 45, 46, 47, 15, 48, 49, 50, 51, 52, 53, 54, 55, 56, 57, 58, 21, 22, 69, 70, 71, 72, 73, 74, 75, 76, 77, 78, 79, 80] (by decide +kernel) (by decide +kernel)
set_option maxRecDepth 20000 in
theorem gX5_quietest_X4_longestWithin : GoodIn wsX5_quietest (wsV RX5 169 RX4 yX4_longestWithin wsX4_longestWithin) := goodIn_app (goodIn_of _ (by decide +kernel)) ggX5_quietest_X4_longestWithin
theorem dX5_quietest_0 : decode cX5_quietest 0 = .ok (.iconst (-1), 1) := by decide +kernel
theorem dX5_quietest_1 : decode cX5_quietest 1 = .ok (.istore 6, 2) := by decide +kernel
theorem dX5_quietest_3 : decode cX5_quietest 3 = .ok (.iload_n 3, 1) := by decide +kernel
theorem dX5_quietest_4 : decode cX5_quietest 4 = .ok (.istore 7, 2) := by decide +kernel
theorem dX5_quietest_6 : decode cX5_quietest 6 = .ok (.iload_n 3, 1) := by decide +kernel
theorem dX5_quietest_7 : decode cX5_quietest 7 = .ok (.istore 8, 2) := by decide +kernel
theorem dX5_quietest_9 : decode cX5_quietest 9 = .ok (.iload 8, 2) := by decide +kernel
theorem dX5_quietest_11 : decode cX5_quietest 11 = .ok (.iload 4, 2) := by decide +kernel
theorem dX5_quietest_13 : decode cX5_quietest 13 = .ok (.if_icmp .gt 51, 3) := by decide +kernel
theorem dX5_quietest_16 : decode cX5_quietest 16 = .ok (.aload_n 0, 1) := by decide +kernel
theorem dX5_quietest_17 : decode cX5_quietest 17 = .ok (.getfield 16, 3) := by decide +kernel
theorem dX5_quietest_20 : decode cX5_quietest 20 = .ok (.aload_n 0, 1) := by decide +kernel
theorem dX5_quietest_21 : decode cX5_quietest 21 = .ok (.getfield 10, 3) := by decide +kernel
theorem dX5_quietest_24 : decode cX5_quietest 24 = .ok (.invokevirtual 62, 3) := by decide +kernel
theorem dX5_quietest_27 : decode cX5_quietest 27 = .ok (.aload_n 1, 1) := by decide +kernel
theorem dX5_quietest_28 : decode cX5_quietest 28 = .ok (.iload_n 2, 1) := by decide +kernel
theorem dX5_quietest_29 : decode cX5_quietest 29 = .ok (.iload 8, 2) := by decide +kernel
theorem dX5_quietest_31 : decode cX5_quietest 31 = .ok (.iastore, 1) := by decide +kernel
theorem dX5_quietest_32 : decode cX5_quietest 32 = .ok (.aload_n 0, 1) := by decide +kernel
theorem dX5_quietest_33 : decode cX5_quietest 33 = .ok (.getfield 16, 3) := by decide +kernel
theorem dX5_quietest_36 : decode cX5_quietest 36 = .ok (.iload 5, 2) := by decide +kernel
theorem dX5_quietest_38 : decode cX5_quietest 38 = .ok (.invokevirtual 169, 3) := by decide +kernel
theorem dX5_quietest_41 : decode cX5_quietest 41 = .ok (.istore 9, 2) := by decide +kernel
theorem dX5_quietest_43 : decode cX5_quietest 43 = .ok (.iload 9, 2) := by decide +kernel
theorem dX5_quietest_45 : decode cX5_quietest 45 = .ok (.iload 6, 2) := by decide +kernel
theorem dX5_quietest_47 : decode cX5_quietest 47 = .ok (.if_icmp .le 11, 3) := by decide +kernel
theorem dX5_quietest_50 : decode cX5_quietest 50 = .ok (.iload 9, 2) := by decide +kernel
theorem dX5_quietest_52 : decode cX5_quietest 52 = .ok (.istore 6, 2) := by decide +kernel
theorem dX5_quietest_54 : decode cX5_quietest 54 = .ok (.iload 8, 2) := by decide +kernel
theorem dX5_quietest_56 : decode cX5_quietest 56 = .ok (.istore 7, 2) := by decide +kernel
theorem dX5_quietest_58 : decode cX5_quietest 58 = .ok (.iinc 8 1, 3) := by decide +kernel
theorem dX5_quietest_61 : decode cX5_quietest 61 = .ok (.goto (-52), 3) := by decide +kernel
theorem dX5_quietest_64 : decode cX5_quietest 64 = .ok (.iload 7, 2) := by decide +kernel
theorem dX5_quietest_66 : decode cX5_quietest 66 = .ok (.ireturn, 1) := by decide +kernel
set_option maxRecDepth 20000 in
theorem ggX5_isQuietWithout_X4_copyFrom : GoodIn wsX5_isQuietWithout wsX4_copyFrom := goodIn_r _ [8, 9, 10, 11, 12, 13, 14, 15, 16, 17, 18, 19, 20, 21, 22, 23, 24, 66, 67, 68, 69, 70, 71, 72, 73, 74, 75, 76, 77] (by decide +kernel) (by decide +kernel)
set_option maxRecDepth 20000 in
theorem gX5_isQuietWithout_X4_copyFrom : GoodIn wsX5_isQuietWithout (wsV RX5 62 RX4 yX4_copyFrom wsX4_copyFrom) := goodIn_app (goodIn_of _ (by decide +kernel)) ggX5_isQuietWithout_X4_copyFrom
set_option maxRecDepth 20000 in
theorem ggX5_isQuietWithout_X4_soundingSet : GoodIn wsX5_isQuietWithout wsX4_soundingSet := goodIn_r _ [28, 19, 29, 30, 31, 7, 32, 14, 20, 21, 15, 9, 33, 34, 35, 36, 37, 38, 39, 40, 16, 41, 42, 43, 44, 66, 67, 68, 69, 70, 71, 72, 73, 74, 75, 76, 77] (by decide +kernel) (by decide +kernel)
set_option maxRecDepth 20000 in
theorem gX5_isQuietWithout_X4_soundingSet : GoodIn wsX5_isQuietWithout (wsV RX5 131 RX4 yX4_soundingSet wsX4_soundingSet) := goodIn_app (goodIn_of _ (by decide +kernel)) ggX5_isQuietWithout_X4_soundingSet
set_option maxRecDepth 20000 in
theorem ggX5_isQuietWithout_X4_endSecond : GoodIn wsX5_isQuietWithout wsX4_endSecond := goodIn_r _ [48, 21, 49, 50, 51, 52, 22, 53, 54, 55, 9, 23, 20, 66, 67, 68, 69, 70, 71, 72, 73, 74, 75, 76, 77] (by decide +kernel) (by decide +kernel)
set_option maxRecDepth 20000 in
theorem gX5_isQuietWithout_X4_endSecond : GoodIn wsX5_isQuietWithout (wsV RX5 203 RX4 yX4_endSecond wsX4_endSecond) := goodIn_app (goodIn_of _ (by decide +kernel)) ggX5_isQuietWithout_X4_endSecond
theorem dX5_isQuietWithout_0 : decode cX5_isQuietWithout 0 = .ok (.aload_n 0, 1) := by decide +kernel
theorem dX5_isQuietWithout_1 : decode cX5_isQuietWithout 1 = .ok (.getfield 16, 3) := by decide +kernel
theorem dX5_isQuietWithout_4 : decode cX5_isQuietWithout 4 = .ok (.aload_n 0, 1) := by decide +kernel
theorem dX5_isQuietWithout_5 : decode cX5_isQuietWithout 5 = .ok (.getfield 10, 3) := by decide +kernel
theorem dX5_isQuietWithout_8 : decode cX5_isQuietWithout 8 = .ok (.invokevirtual 62, 3) := by decide +kernel
theorem dX5_isQuietWithout_11 : decode cX5_isQuietWithout 11 = .ok (.iload_n 2, 1) := by decide +kernel
theorem dX5_isQuietWithout_12 : decode cX5_isQuietWithout 12 = .ok (.istore 4, 2) := by decide +kernel
theorem dX5_isQuietWithout_14 : decode cX5_isQuietWithout 14 = .ok (.iload 4, 2) := by decide +kernel
theorem dX5_isQuietWithout_16 : decode cX5_isQuietWithout 16 = .ok (.ifCond .le 54, 3) := by decide +kernel
theorem dX5_isQuietWithout_19 : decode cX5_isQuietWithout 19 = .ok (.aload_n 0, 1) := by decide +kernel
theorem dX5_isQuietWithout_20 : decode cX5_isQuietWithout 20 = .ok (.getfield 16, 3) := by decide +kernel
theorem dX5_isQuietWithout_23 : decode cX5_isQuietWithout 23 = .ok (.getfield 142, 3) := by decide +kernel
theorem dX5_isQuietWithout_26 : decode cX5_isQuietWithout 26 = .ok (.iload 4, 2) := by decide +kernel
theorem dX5_isQuietWithout_28 : decode cX5_isQuietWithout 28 = .ok (.iadd, 1) := by decide +kernel
theorem dX5_isQuietWithout_29 : decode cX5_isQuietWithout 29 = .ok (.iload_n 3, 1) := by decide +kernel
theorem dX5_isQuietWithout_30 : decode cX5_isQuietWithout 30 = .ok (.if_icmp .lt 40, 3) := by decide +kernel
theorem dX5_isQuietWithout_33 : decode cX5_isQuietWithout 33 = .ok (.aload_n 0, 1) := by decide +kernel
theorem dX5_isQuietWithout_34 : decode cX5_isQuietWithout 34 = .ok (.getfield 16, 3) := by decide +kernel
theorem dX5_isQuietWithout_37 : decode cX5_isQuietWithout 37 = .ok (.aload_n 0, 1) := by decide +kernel
theorem dX5_isQuietWithout_38 : decode cX5_isQuietWithout 38 = .ok (.getfield 16, 3) := by decide +kernel
theorem dX5_isQuietWithout_41 : decode cX5_isQuietWithout 41 = .ok (.invokevirtual 131, 3) := by decide +kernel
theorem dX5_isQuietWithout_44 : decode cX5_isQuietWithout 44 = .ok (.iload_n 1, 1) := by decide +kernel
theorem dX5_isQuietWithout_45 : decode cX5_isQuietWithout 45 = .ok (.iconst (-1), 1) := by decide +kernel
theorem dX5_isQuietWithout_46 : decode cX5_isQuietWithout 46 = .ok (.ixor, 1) := by decide +kernel
theorem dX5_isQuietWithout_47 : decode cX5_isQuietWithout 47 = .ok (.iand, 1) := by decide +kernel
theorem dX5_isQuietWithout_48 : decode cX5_isQuietWithout 48 = .ok (.invokevirtual 203, 3) := by decide +kernel
theorem dX5_isQuietWithout_51 : decode cX5_isQuietWithout 51 = .ok (.aload_n 0, 1) := by decide +kernel
theorem dX5_isQuietWithout_52 : decode cX5_isQuietWithout 52 = .ok (.getfield 16, 3) := by decide +kernel
theorem dX5_isQuietWithout_55 : decode cX5_isQuietWithout 55 = .ok (.getfield 142, 3) := by decide +kernel
theorem dX5_isQuietWithout_58 : decode cX5_isQuietWithout 58 = .ok (.iload_n 3, 1) := by decide +kernel
theorem dX5_isQuietWithout_59 : decode cX5_isQuietWithout 59 = .ok (.if_icmp .lt 5, 3) := by decide +kernel
theorem dX5_isQuietWithout_62 : decode cX5_isQuietWithout 62 = .ok (.iconst 1, 1) := by decide +kernel
theorem dX5_isQuietWithout_63 : decode cX5_isQuietWithout 63 = .ok (.ireturn, 1) := by decide +kernel
theorem dX5_isQuietWithout_64 : decode cX5_isQuietWithout 64 = .ok (.iinc 4 (-1), 3) := by decide +kernel
theorem dX5_isQuietWithout_67 : decode cX5_isQuietWithout 67 = .ok (.goto (-53), 3) := by decide +kernel
theorem dX5_isQuietWithout_70 : decode cX5_isQuietWithout 70 = .ok (.iconst 0, 1) := by decide +kernel
theorem dX5_isQuietWithout_71 : decode cX5_isQuietWithout 71 = .ok (.ireturn, 1) := by decide +kernel
set_option maxRecDepth 20000 in
theorem ggX5_secondsHeard_X4_copyFrom : GoodIn wsX5_secondsHeard wsX4_copyFrom := goodIn_r _ [7, 8, 9, 10, 11, 12, 13, 14, 15, 16, 17, 18, 19, 20, 21, 22, 23, 76, 77, 78, 79, 80, 81, 82, 83, 84, 85, 86, 87] (by decide +kernel) (by decide +kernel)
set_option maxRecDepth 20000 in
theorem gX5_secondsHeard_X4_copyFrom : GoodIn wsX5_secondsHeard (wsV RX5 62 RX4 yX4_copyFrom wsX4_copyFrom) := goodIn_app (goodIn_of _ (by decide +kernel)) ggX5_secondsHeard_X4_copyFrom
set_option maxRecDepth 20000 in
theorem ggX5_secondsHeard_X4_soundingSet : GoodIn wsX5_secondsHeard wsX4_soundingSet := goodIn_r _ [27, 18, 28, 29, 30, 6, 31, 13, 19, 20, 14, 8, 32, 33, 34, 35, 36, 37, 38, 39, 15, 40, 41, 42, 43, 76, 77, 78, 79, 80, 81, 82, 83, 84, 85, 86, 87] (by decide +kernel) (by decide +kernel)
set_option maxRecDepth 20000 in
theorem gX5_secondsHeard_X4_soundingSet : GoodIn wsX5_secondsHeard (wsV RX5 131 RX4 yX4_soundingSet wsX4_soundingSet) := goodIn_app (goodIn_of _ (by decide +kernel)) ggX5_secondsHeard_X4_soundingSet
set_option maxRecDepth 20000 in
theorem ggX5_secondsHeard_X4_heardOf : GoodIn wsX5_secondsHeard wsX4_heardOf := goodIn_r _ [47, 18, 16, 48, 49, 50, 51, 52, 53, 54, 55, 56, 57, 6, 58, 13, 8, 15, 76, 77, 78, 79, 80, 81, 82, 83, 84, 85, 86, 87] (by decide +kernel) (by decide +kernel)
set_option maxRecDepth 20000 in
theorem gX5_secondsHeard_X4_heardOf : GoodIn wsX5_secondsHeard (wsV RX5 135 RX4 yX4_heardOf wsX4_heardOf) := goodIn_app (goodIn_of _ (by decide +kernel)) ggX5_secondsHeard_X4_heardOf
set_option maxRecDepth 20000 in
theorem ggX5_secondsHeard_X4_endSecond : GoodIn wsX5_secondsHeard wsX4_endSecond := goodIn_r _ [62, 20, 52, 53, 50, 54, 21, 63, 64, 65, 8, 22, 19, 76, 77, 78, 79, 80, 81, 82, 83, 84, 85, 86, 87] (by decide +kernel) (by decide +kernel)
set_option maxRecDepth 20000 in
theorem gX5_secondsHeard_X4_endSecond : GoodIn wsX5_secondsHeard (wsV RX5 203 RX4 yX4_endSecond wsX4_endSecond) := goodIn_app (goodIn_of _ (by decide +kernel)) ggX5_secondsHeard_X4_endSecond
theorem dX5_secondsHeard_0 : decode cX5_secondsHeard 0 = .ok (.aload_n 0, 1) := by decide +kernel
theorem dX5_secondsHeard_1 : decode cX5_secondsHeard 1 = .ok (.getfield 16, 3) := by decide +kernel
theorem dX5_secondsHeard_4 : decode cX5_secondsHeard 4 = .ok (.aload_n 0, 1) := by decide +kernel
theorem dX5_secondsHeard_5 : decode cX5_secondsHeard 5 = .ok (.getfield 10, 3) := by decide +kernel
theorem dX5_secondsHeard_8 : decode cX5_secondsHeard 8 = .ok (.invokevirtual 62, 3) := by decide +kernel
theorem dX5_secondsHeard_11 : decode cX5_secondsHeard 11 = .ok (.iconst 0, 1) := by decide +kernel
theorem dX5_secondsHeard_12 : decode cX5_secondsHeard 12 = .ok (.istore_n 3, 1) := by decide +kernel
theorem dX5_secondsHeard_13 : decode cX5_secondsHeard 13 = .ok (.iconst 0, 1) := by decide +kernel
theorem dX5_secondsHeard_14 : decode cX5_secondsHeard 14 = .ok (.istore 4, 2) := by decide +kernel
theorem dX5_secondsHeard_16 : decode cX5_secondsHeard 16 = .ok (.iload 4, 2) := by decide +kernel
theorem dX5_secondsHeard_18 : decode cX5_secondsHeard 18 = .ok (.iload_n 2, 1) := by decide +kernel
theorem dX5_secondsHeard_19 : decode cX5_secondsHeard 19 = .ok (.if_icmp .ge 43, 3) := by decide +kernel
theorem dX5_secondsHeard_22 : decode cX5_secondsHeard 22 = .ok (.aload_n 0, 1) := by decide +kernel
theorem dX5_secondsHeard_23 : decode cX5_secondsHeard 23 = .ok (.getfield 16, 3) := by decide +kernel
theorem dX5_secondsHeard_26 : decode cX5_secondsHeard 26 = .ok (.invokevirtual 131, 3) := by decide +kernel
theorem dX5_secondsHeard_29 : decode cX5_secondsHeard 29 = .ok (.istore 5, 2) := by decide +kernel
theorem dX5_secondsHeard_31 : decode cX5_secondsHeard 31 = .ok (.aload_n 0, 1) := by decide +kernel
theorem dX5_secondsHeard_32 : decode cX5_secondsHeard 32 = .ok (.getfield 16, 3) := by decide +kernel
theorem dX5_secondsHeard_35 : decode cX5_secondsHeard 35 = .ok (.iload 5, 2) := by decide +kernel
theorem dX5_secondsHeard_37 : decode cX5_secondsHeard 37 = .ok (.iload_n 1, 1) := by decide +kernel
theorem dX5_secondsHeard_38 : decode cX5_secondsHeard 38 = .ok (.invokevirtual 135, 3) := by decide +kernel
theorem dX5_secondsHeard_41 : decode cX5_secondsHeard 41 = .ok (.ifCond .eq 6, 3) := by decide +kernel
theorem dX5_secondsHeard_44 : decode cX5_secondsHeard 44 = .ok (.iinc 3 1, 3) := by decide +kernel
theorem dX5_secondsHeard_47 : decode cX5_secondsHeard 47 = .ok (.aload_n 0, 1) := by decide +kernel
theorem dX5_secondsHeard_48 : decode cX5_secondsHeard 48 = .ok (.getfield 16, 3) := by decide +kernel
theorem dX5_secondsHeard_51 : decode cX5_secondsHeard 51 = .ok (.iload 5, 2) := by decide +kernel
theorem dX5_secondsHeard_53 : decode cX5_secondsHeard 53 = .ok (.invokevirtual 203, 3) := by decide +kernel
theorem dX5_secondsHeard_56 : decode cX5_secondsHeard 56 = .ok (.iinc 4 1, 3) := by decide +kernel
theorem dX5_secondsHeard_59 : decode cX5_secondsHeard 59 = .ok (.goto (-43), 3) := by decide +kernel
theorem dX5_secondsHeard_62 : decode cX5_secondsHeard 62 = .ok (.iload_n 3, 1) := by decide +kernel
theorem dX5_secondsHeard_63 : decode cX5_secondsHeard 63 = .ok (.ireturn, 1) := by decide +kernel
set_option maxRecDepth 20000 in
theorem ggX5_isTold_X4_copyFrom : GoodIn wsX5_isTold wsX4_copyFrom := goodIn_r _ [12, 13, 14, 15, 16, 17, 18, 19, 20, 21, 22, 23, 24, 25, 26, 27, 28, 70, 71, 72, 73, 74, 75, 76, 77, 78, 79, 80, 81] (by decide +kernel) (by decide +kernel)
set_option maxRecDepth 20000 in
theorem gX5_isTold_X4_copyFrom : GoodIn wsX5_isTold (wsV RX5 62 RX4 yX4_copyFrom wsX4_copyFrom) := goodIn_app (goodIn_of _ (by decide +kernel)) ggX5_isTold_X4_copyFrom
set_option maxRecDepth 20000 in
theorem ggX5_isTold_X4_soundingSet : GoodIn wsX5_isTold wsX4_soundingSet := goodIn_r _ [32, 23, 33, 34, 35, 11, 36, 18, 24, 25, 19, 13, 37, 38, 39, 40, 41, 42, 43, 44, 20, 45, 46, 47, 48, 70, 71, 72, 73, 74, 75, 76, 77, 78, 79, 80, 81] (by decide +kernel) (by decide +kernel)
set_option maxRecDepth 20000 in
theorem gX5_isTold_X4_soundingSet : GoodIn wsX5_isTold (wsV RX5 131 RX4 yX4_soundingSet wsX4_soundingSet) := goodIn_app (goodIn_of _ (by decide +kernel)) ggX5_isTold_X4_soundingSet
set_option maxRecDepth 20000 in
theorem ggX5_isTold_X4_endSecond : GoodIn wsX5_isTold wsX4_endSecond := goodIn_r _ [52, 25, 53, 54, 55, 56, 26, 57, 58, 59, 13, 27, 24, 70, 71, 72, 73, 74, 75, 76, 77, 78, 79, 80, 81] (by decide +kernel) (by decide +kernel)
set_option maxRecDepth 20000 in
theorem gX5_isTold_X4_endSecond : GoodIn wsX5_isTold (wsV RX5 203 RX4 yX4_endSecond wsX4_endSecond) := goodIn_app (goodIn_of _ (by decide +kernel)) ggX5_isTold_X4_endSecond
theorem dX5_isTold_0 : decode cX5_isTold 0 = .ok (.aload_n 0, 1) := by decide +kernel
theorem dX5_isTold_1 : decode cX5_isTold 1 = .ok (.getfield 16, 3) := by decide +kernel
theorem dX5_isTold_4 : decode cX5_isTold 4 = .ok (.aload_n 0, 1) := by decide +kernel
theorem dX5_isTold_5 : decode cX5_isTold 5 = .ok (.getfield 10, 3) := by decide +kernel
theorem dX5_isTold_8 : decode cX5_isTold 8 = .ok (.invokevirtual 62, 3) := by decide +kernel
theorem dX5_isTold_11 : decode cX5_isTold 11 = .ok (.aload_n 0, 1) := by decide +kernel
theorem dX5_isTold_12 : decode cX5_isTold 12 = .ok (.getfield 16, 3) := by decide +kernel
theorem dX5_isTold_15 : decode cX5_isTold 15 = .ok (.getfield 112, 3) := by decide +kernel
theorem dX5_isTold_18 : decode cX5_isTold 18 = .ok (.iload_n 2, 1) := by decide +kernel
theorem dX5_isTold_19 : decode cX5_isTold 19 = .ok (.iload_n 3, 1) := by decide +kernel
theorem dX5_isTold_20 : decode cX5_isTold 20 = .ok (.iastore, 1) := by decide +kernel
theorem dX5_isTold_21 : decode cX5_isTold 21 = .ok (.iconst 0, 1) := by decide +kernel
theorem dX5_isTold_22 : decode cX5_isTold 22 = .ok (.istore 4, 2) := by decide +kernel
theorem dX5_isTold_24 : decode cX5_isTold 24 = .ok (.iload 4, 2) := by decide +kernel
theorem dX5_isTold_26 : decode cX5_isTold 26 = .ok (.aload_n 1, 1) := by decide +kernel
theorem dX5_isTold_27 : decode cX5_isTold 27 = .ok (.getfield 206, 3) := by decide +kernel
theorem dX5_isTold_30 : decode cX5_isTold 30 = .ok (.if_icmp .ge 58, 3) := by decide +kernel
theorem dX5_isTold_33 : decode cX5_isTold 33 = .ok (.aload_n 0, 1) := by decide +kernel
theorem dX5_isTold_34 : decode cX5_isTold 34 = .ok (.getfield 16, 3) := by decide +kernel
theorem dX5_isTold_37 : decode cX5_isTold 37 = .ok (.aload_n 0, 1) := by decide +kernel
theorem dX5_isTold_38 : decode cX5_isTold 38 = .ok (.getfield 16, 3) := by decide +kernel
theorem dX5_isTold_41 : decode cX5_isTold 41 = .ok (.invokevirtual 131, 3) := by decide +kernel
theorem dX5_isTold_44 : decode cX5_isTold 44 = .ok (.invokevirtual 203, 3) := by decide +kernel
theorem dX5_isTold_47 : decode cX5_isTold 47 = .ok (.aload_n 1, 1) := by decide +kernel
theorem dX5_isTold_48 : decode cX5_isTold 48 = .ok (.getfield 207, 3) := by decide +kernel
theorem dX5_isTold_51 : decode cX5_isTold 51 = .ok (.iload 4, 2) := by decide +kernel
theorem dX5_isTold_53 : decode cX5_isTold 53 = .ok (.laload, 1) := by decide +kernel
theorem dX5_isTold_54 : decode cX5_isTold 54 = .ok (.ldc2_w 211, 3) := by decide +kernel
theorem dX5_isTold_57 : decode cX5_isTold 57 = .ok (.lcmp, 1) := by decide +kernel
theorem dX5_isTold_58 : decode cX5_isTold 58 = .ok (.ifCond .eq 24, 3) := by decide +kernel
theorem dX5_isTold_61 : decode cX5_isTold 61 = .ok (.aload_n 1, 1) := by decide +kernel
theorem dX5_isTold_62 : decode cX5_isTold 62 = .ok (.getfield 207, 3) := by decide +kernel
theorem dX5_isTold_65 : decode cX5_isTold 65 = .ok (.iload 4, 2) := by decide +kernel
theorem dX5_isTold_67 : decode cX5_isTold 67 = .ok (.laload, 1) := by decide +kernel
theorem dX5_isTold_68 : decode cX5_isTold 68 = .ok (.aload_n 0, 1) := by decide +kernel
theorem dX5_isTold_69 : decode cX5_isTold 69 = .ok (.getfield 16, 3) := by decide +kernel
theorem dX5_isTold_72 : decode cX5_isTold 72 = .ok (.getfield 142, 3) := by decide +kernel
theorem dX5_isTold_75 : decode cX5_isTold 75 = .ok (.i2l, 1) := by decide +kernel
theorem dX5_isTold_76 : decode cX5_isTold 76 = .ok (.lcmp, 1) := by decide +kernel
theorem dX5_isTold_77 : decode cX5_isTold 77 = .ok (.ifCond .eq 5, 3) := by decide +kernel
theorem dX5_isTold_80 : decode cX5_isTold 80 = .ok (.iconst 0, 1) := by decide +kernel
theorem dX5_isTold_81 : decode cX5_isTold 81 = .ok (.ireturn, 1) := by decide +kernel
theorem dX5_isTold_82 : decode cX5_isTold 82 = .ok (.iinc 4 1, 3) := by decide +kernel
theorem dX5_isTold_85 : decode cX5_isTold 85 = .ok (.goto (-61), 3) := by decide +kernel
theorem dX5_isTold_88 : decode cX5_isTold 88 = .ok (.iconst 1, 1) := by decide +kernel
theorem dX5_isTold_89 : decode cX5_isTold 89 = .ok (.ireturn, 1) := by decide +kernel
set_option maxRecDepth 20000 in
theorem ggX5_odds_X5_isIn : GoodIn wsX5_odds wsX5_isIn := goodIn_r _ [8] (by decide +kernel) (by decide +kernel)
set_option maxRecDepth 20000 in
theorem gX5_odds_X5_isIn : GoodIn wsX5_odds (va_wsS RX5 79 yX5_isIn wsX5_isIn) := goodIn_app (goodIn_of _ (by decide +kernel)) ggX5_odds_X5_isIn
set_option maxRecDepth 20000 in
theorem ggX5_odds_X5_partOf : GoodIn wsX5_odds wsX5_partOf := goodIn_r _ [11, 12, 13, 7, 14] (by decide +kernel) (by decide +kernel)
set_option maxRecDepth 20000 in
theorem gX5_odds_X5_partOf : GoodIn wsX5_odds (va_wsS RX5 215 yX5_partOf wsX5_partOf) := goodIn_app (goodIn_of _ (by decide +kernel)) ggX5_odds_X5_partOf
theorem dX5_odds_0 : decode cX5_odds 0 = .ok (.iload_n 1, 1) := by decide +kernel
theorem dX5_odds_1 : decode cX5_odds 1 = .ok (.iconst 0, 1) := by decide +kernel
theorem dX5_odds_2 : decode cX5_odds 2 = .ok (.bipush 8, 2) := by decide +kernel
theorem dX5_odds_4 : decode cX5_odds 4 = .ok (.invokestatic 79, 3) := by decide +kernel
theorem dX5_odds_7 : decode cX5_odds 7 = .ok (.ifCond .eq 21, 3) := by decide +kernel
theorem dX5_odds_10 : decode cX5_odds 10 = .ok (.iload_n 2, 1) := by decide +kernel
theorem dX5_odds_11 : decode cX5_odds 11 = .ok (.iconst 0, 1) := by decide +kernel
theorem dX5_odds_12 : decode cX5_odds 12 = .ok (.iload_n 1, 1) := by decide +kernel
theorem dX5_odds_13 : decode cX5_odds 13 = .ok (.invokestatic 79, 3) := by decide +kernel
theorem dX5_odds_16 : decode cX5_odds 16 = .ok (.ifCond .eq 12, 3) := by decide +kernel
theorem dX5_odds_19 : decode cX5_odds 19 = .ok (.iload_n 3, 1) := by decide +kernel
theorem dX5_odds_20 : decode cX5_odds 20 = .ok (.iconst 0, 1) := by decide +kernel
theorem dX5_odds_21 : decode cX5_odds 21 = .ok (.iconst 1, 1) := by decide +kernel
theorem dX5_odds_22 : decode cX5_odds 22 = .ok (.invokestatic 79, 3) := by decide +kernel
theorem dX5_odds_25 : decode cX5_odds 25 = .ok (.ifCond .ne 7, 3) := by decide +kernel
theorem dX5_odds_28 : decode cX5_odds 28 = .ok (.ldc2_w 211, 3) := by decide +kernel
theorem dX5_odds_31 : decode cX5_odds 31 = .ok (.lreturn, 1) := by decide +kernel
theorem dX5_odds_32 : decode cX5_odds 32 = .ok (.lconst 1, 1) := by decide +kernel
theorem dX5_odds_33 : decode cX5_odds 33 = .ok (.lstore 4, 2) := by decide +kernel
theorem dX5_odds_35 : decode cX5_odds 35 = .ok (.lconst 1, 1) := by decide +kernel
theorem dX5_odds_36 : decode cX5_odds 36 = .ok (.lstore 6, 2) := by decide +kernel
theorem dX5_odds_38 : decode cX5_odds 38 = .ok (.iconst 1, 1) := by decide +kernel
theorem dX5_odds_39 : decode cX5_odds 39 = .ok (.istore 8, 2) := by decide +kernel
theorem dX5_odds_41 : decode cX5_odds 41 = .ok (.iload 8, 2) := by decide +kernel
theorem dX5_odds_43 : decode cX5_odds 43 = .ok (.iload_n 2, 1) := by decide +kernel
theorem dX5_odds_44 : decode cX5_odds 44 = .ok (.if_icmp .gt 25, 3) := by decide +kernel
theorem dX5_odds_47 : decode cX5_odds 47 = .ok (.lload 4, 2) := by decide +kernel
theorem dX5_odds_49 : decode cX5_odds 49 = .ok (.iload_n 1, 1) := by decide +kernel
theorem dX5_odds_50 : decode cX5_odds 50 = .ok (.iload_n 2, 1) := by decide +kernel
theorem dX5_odds_51 : decode cX5_odds 51 = .ok (.isub, 1) := by decide +kernel
theorem dX5_odds_52 : decode cX5_odds 52 = .ok (.iload 8, 2) := by decide +kernel
theorem dX5_odds_54 : decode cX5_odds 54 = .ok (.iadd, 1) := by decide +kernel
theorem dX5_odds_55 : decode cX5_odds 55 = .ok (.i2l, 1) := by decide +kernel
theorem dX5_odds_56 : decode cX5_odds 56 = .ok (.lmul, 1) := by decide +kernel
theorem dX5_odds_57 : decode cX5_odds 57 = .ok (.iload 8, 2) := by decide +kernel
theorem dX5_odds_59 : decode cX5_odds 59 = .ok (.i2l, 1) := by decide +kernel
theorem dX5_odds_60 : decode cX5_odds 60 = .ok (.ldiv, 1) := by decide +kernel
theorem dX5_odds_61 : decode cX5_odds 61 = .ok (.lstore 4, 2) := by decide +kernel
theorem dX5_odds_63 : decode cX5_odds 63 = .ok (.iinc 8 1, 3) := by decide +kernel
theorem dX5_odds_66 : decode cX5_odds 66 = .ok (.goto (-25), 3) := by decide +kernel
theorem dX5_odds_69 : decode cX5_odds 69 = .ok (.iconst 0, 1) := by decide +kernel
theorem dX5_odds_70 : decode cX5_odds 70 = .ok (.istore 8, 2) := by decide +kernel
theorem dX5_odds_72 : decode cX5_odds 72 = .ok (.iload 8, 2) := by decide +kernel
theorem dX5_odds_74 : decode cX5_odds 74 = .ok (.iload_n 1, 1) := by decide +kernel
theorem dX5_odds_75 : decode cX5_odds 75 = .ok (.if_icmp .ge 54, 3) := by decide +kernel
theorem dX5_odds_78 : decode cX5_odds 78 = .ok (.lload 4, 2) := by decide +kernel
theorem dX5_odds_80 : decode cX5_odds 80 = .ok (.iload 8, 2) := by decide +kernel
theorem dX5_odds_82 : decode cX5_odds 82 = .ok (.iload_n 2, 1) := by decide +kernel
theorem dX5_odds_83 : decode cX5_odds 83 = .ok (.if_icmp .ge 16, 3) := by decide +kernel
theorem dX5_odds_86 : decode cX5_odds 86 = .ok (.aload_n 0, 1) := by decide +kernel
theorem dX5_odds_87 : decode cX5_odds 87 = .ok (.getfield 10, 3) := by decide +kernel
theorem dX5_odds_90 : decode cX5_odds 90 = .ok (.getfield 89, 3) := by decide +kernel
theorem dX5_odds_93 : decode cX5_odds 93 = .ok (.iconst 3, 1) := by decide +kernel
theorem dX5_odds_94 : decode cX5_odds 94 = .ok (.iaload, 1) := by decide +kernel
theorem dX5_odds_95 : decode cX5_odds 95 = .ok (.i2l, 1) := by decide +kernel
theorem dX5_odds_96 : decode cX5_odds 96 = .ok (.goto 16, 3) := by decide +kernel
theorem dX5_odds_99 : decode cX5_odds 99 = .ok (.bipush 100, 2) := by decide +kernel
theorem dX5_odds_101 : decode cX5_odds 101 = .ok (.aload_n 0, 1) := by decide +kernel
theorem dX5_odds_102 : decode cX5_odds 102 = .ok (.getfield 10, 3) := by decide +kernel
theorem dX5_odds_105 : decode cX5_odds 105 = .ok (.getfield 89, 3) := by decide +kernel
theorem dX5_odds_108 : decode cX5_odds 108 = .ok (.iconst 3, 1) := by decide +kernel
theorem dX5_odds_109 : decode cX5_odds 109 = .ok (.iaload, 1) := by decide +kernel
theorem dX5_odds_110 : decode cX5_odds 110 = .ok (.isub, 1) := by decide +kernel
theorem dX5_odds_111 : decode cX5_odds 111 = .ok (.i2l, 1) := by decide +kernel
theorem dX5_odds_112 : decode cX5_odds 112 = .ok (.lmul, 1) := by decide +kernel
theorem dX5_odds_113 : decode cX5_odds 113 = .ok (.lstore 4, 2) := by decide +kernel
theorem dX5_odds_115 : decode cX5_odds 115 = .ok (.lload 6, 2) := by decide +kernel
theorem dX5_odds_117 : decode cX5_odds 117 = .ok (.ldc2_w 213, 3) := by decide +kernel
theorem dX5_odds_120 : decode cX5_odds 120 = .ok (.lmul, 1) := by decide +kernel
theorem dX5_odds_121 : decode cX5_odds 121 = .ok (.lstore 6, 2) := by decide +kernel
theorem dX5_odds_123 : decode cX5_odds 123 = .ok (.iinc 8 1, 3) := by decide +kernel
theorem dX5_odds_126 : decode cX5_odds 126 = .ok (.goto (-54), 3) := by decide +kernel
theorem dX5_odds_129 : decode cX5_odds 129 = .ok (.lload 4, 2) := by decide +kernel
theorem dX5_odds_131 : decode cX5_odds 131 = .ok (.lload 6, 2) := by decide +kernel
theorem dX5_odds_133 : decode cX5_odds 133 = .ok (.iload_n 3, 1) := by decide +kernel
theorem dX5_odds_134 : decode cX5_odds 134 = .ok (.invokestatic 215, 3) := by decide +kernel
theorem dX5_odds_137 : decode cX5_odds 137 = .ok (.lreturn, 1) := by decide +kernel
set_option maxRecDepth 20000 in
theorem ggX5_hope_X5_isIn : GoodIn wsX5_hope wsX5_isIn := goodIn_r _ [8] (by decide +kernel) (by decide +kernel)
set_option maxRecDepth 20000 in
theorem gX5_hope_X5_isIn : GoodIn wsX5_hope (va_wsS RX5 79 yX5_isIn wsX5_isIn) := goodIn_app (goodIn_of _ (by decide +kernel)) ggX5_hope_X5_isIn
set_option maxRecDepth 20000 in
theorem ggX5_hope_X5_partOf : GoodIn wsX5_hope wsX5_partOf := goodIn_r _ [11, 12, 13, 7, 14] (by decide +kernel) (by decide +kernel)
set_option maxRecDepth 20000 in
theorem gX5_hope_X5_partOf : GoodIn wsX5_hope (va_wsS RX5 215 yX5_partOf wsX5_partOf) := goodIn_app (goodIn_of _ (by decide +kernel)) ggX5_hope_X5_partOf
theorem dX5_hope_0 : decode cX5_hope 0 = .ok (.iload_n 1, 1) := by decide +kernel
theorem dX5_hope_1 : decode cX5_hope 1 = .ok (.iconst 0, 1) := by decide +kernel
theorem dX5_hope_2 : decode cX5_hope 2 = .ok (.bipush 99, 2) := by decide +kernel
theorem dX5_hope_4 : decode cX5_hope 4 = .ok (.invokestatic 79, 3) := by decide +kernel
theorem dX5_hope_7 : decode cX5_hope 7 = .ok (.ifCond .eq 12, 3) := by decide +kernel
theorem dX5_hope_10 : decode cX5_hope 10 = .ok (.iload_n 2, 1) := by decide +kernel
theorem dX5_hope_11 : decode cX5_hope 11 = .ok (.iconst 0, 1) := by decide +kernel
theorem dX5_hope_12 : decode cX5_hope 12 = .ok (.iconst 1, 1) := by decide +kernel
theorem dX5_hope_13 : decode cX5_hope 13 = .ok (.invokestatic 79, 3) := by decide +kernel
theorem dX5_hope_16 : decode cX5_hope 16 = .ok (.ifCond .ne 7, 3) := by decide +kernel
theorem dX5_hope_19 : decode cX5_hope 19 = .ok (.ldc2_w 211, 3) := by decide +kernel
theorem dX5_hope_22 : decode cX5_hope 22 = .ok (.lreturn, 1) := by decide +kernel
theorem dX5_hope_23 : decode cX5_hope 23 = .ok (.iload_n 1, 1) := by decide +kernel
theorem dX5_hope_24 : decode cX5_hope 24 = .ok (.aload_n 0, 1) := by decide +kernel
theorem dX5_hope_25 : decode cX5_hope 25 = .ok (.getfield 10, 3) := by decide +kernel
theorem dX5_hope_28 : decode cX5_hope 28 = .ok (.getfield 89, 3) := by decide +kernel
theorem dX5_hope_31 : decode cX5_hope 31 = .ok (.iconst 3, 1) := by decide +kernel
theorem dX5_hope_32 : decode cX5_hope 32 = .ok (.iaload, 1) := by decide +kernel
theorem dX5_hope_33 : decode cX5_hope 33 = .ok (.imul, 1) := by decide +kernel
theorem dX5_hope_34 : decode cX5_hope 34 = .ok (.i2l, 1) := by decide +kernel
theorem dX5_hope_35 : decode cX5_hope 35 = .ok (.ldc2_w 213, 3) := by decide +kernel
theorem dX5_hope_38 : decode cX5_hope 38 = .ok (.iload_n 2, 1) := by decide +kernel
theorem dX5_hope_39 : decode cX5_hope 39 = .ok (.invokestatic 215, 3) := by decide +kernel
theorem dX5_hope_42 : decode cX5_hope 42 = .ok (.lreturn, 1) := by decide +kernel
set_option maxRecDepth 20000 in
theorem ggX5_partOf_X5_greatestDivisor : GoodIn wsX5_partOf wsX5_greatestDivisor := goodIn_r _ [4] (by decide +kernel) (by decide +kernel)
set_option maxRecDepth 20000 in
theorem gX5_partOf_X5_greatestDivisor : GoodIn wsX5_partOf (va_wsS RX5 219 yX5_greatestDivisor wsX5_greatestDivisor) := goodIn_app (goodIn_of _ (by decide +kernel)) ggX5_partOf_X5_greatestDivisor
theorem dX5_partOf_0 : decode cX5_partOf 0 = .ok (.lload_n 0, 1) := by decide +kernel
theorem dX5_partOf_1 : decode cX5_partOf 1 = .ok (.lload_n 2, 1) := by decide +kernel
theorem dX5_partOf_2 : decode cX5_partOf 2 = .ok (.invokestatic 219, 3) := by decide +kernel
theorem dX5_partOf_5 : decode cX5_partOf 5 = .ok (.lstore 5, 2) := by decide +kernel
theorem dX5_partOf_7 : decode cX5_partOf 7 = .ok (.iload 4, 2) := by decide +kernel
theorem dX5_partOf_9 : decode cX5_partOf 9 = .ok (.ifCond .ne 7, 3) := by decide +kernel
theorem dX5_partOf_12 : decode cX5_partOf 12 = .ok (.lload_n 0, 1) := by decide +kernel
theorem dX5_partOf_13 : decode cX5_partOf 13 = .ok (.goto 4, 3) := by decide +kernel
theorem dX5_partOf_16 : decode cX5_partOf 16 = .ok (.lload_n 2, 1) := by decide +kernel
theorem dX5_partOf_17 : decode cX5_partOf 17 = .ok (.lstore 7, 2) := by decide +kernel
theorem dX5_partOf_19 : decode cX5_partOf 19 = .ok (.lload 5, 2) := by decide +kernel
theorem dX5_partOf_21 : decode cX5_partOf 21 = .ok (.lconst 0, 1) := by decide +kernel
theorem dX5_partOf_22 : decode cX5_partOf 22 = .ok (.lcmp, 1) := by decide +kernel
theorem dX5_partOf_23 : decode cX5_partOf 23 = .ok (.ifCond .ne 8, 3) := by decide +kernel
theorem dX5_partOf_26 : decode cX5_partOf 26 = .ok (.lload 7, 2) := by decide +kernel
theorem dX5_partOf_28 : decode cX5_partOf 28 = .ok (.goto 8, 3) := by decide +kernel
theorem dX5_partOf_31 : decode cX5_partOf 31 = .ok (.lload 7, 2) := by decide +kernel
theorem dX5_partOf_33 : decode cX5_partOf 33 = .ok (.lload 5, 2) := by decide +kernel
theorem dX5_partOf_35 : decode cX5_partOf 35 = .ok (.ldiv, 1) := by decide +kernel
theorem dX5_partOf_36 : decode cX5_partOf 36 = .ok (.lreturn, 1) := by decide +kernel
theorem dX5_greatestDivisor_0 : decode cX5_greatestDivisor 0 = .ok (.iconst 0, 1) := by decide +kernel
theorem dX5_greatestDivisor_1 : decode cX5_greatestDivisor 1 = .ok (.istore 4, 2) := by decide +kernel
theorem dX5_greatestDivisor_3 : decode cX5_greatestDivisor 3 = .ok (.iload 4, 2) := by decide +kernel
theorem dX5_greatestDivisor_5 : decode cX5_greatestDivisor 5 = .ok (.sipush 200, 3) := by decide +kernel
theorem dX5_greatestDivisor_8 : decode cX5_greatestDivisor 8 = .ok (.if_icmp .ge 25, 3) := by decide +kernel
theorem dX5_greatestDivisor_11 : decode cX5_greatestDivisor 11 = .ok (.lload_n 2, 1) := by decide +kernel
theorem dX5_greatestDivisor_12 : decode cX5_greatestDivisor 12 = .ok (.lconst 0, 1) := by decide +kernel
theorem dX5_greatestDivisor_13 : decode cX5_greatestDivisor 13 = .ok (.lcmp, 1) := by decide +kernel
theorem dX5_greatestDivisor_14 : decode cX5_greatestDivisor 14 = .ok (.ifCond .eq 19, 3) := by decide +kernel
theorem dX5_greatestDivisor_17 : decode cX5_greatestDivisor 17 = .ok (.lload_n 0, 1) := by decide +kernel
theorem dX5_greatestDivisor_18 : decode cX5_greatestDivisor 18 = .ok (.lload_n 2, 1) := by decide +kernel
theorem dX5_greatestDivisor_19 : decode cX5_greatestDivisor 19 = .ok (.lrem, 1) := by decide +kernel
theorem dX5_greatestDivisor_20 : decode cX5_greatestDivisor 20 = .ok (.lstore 5, 2) := by decide +kernel
theorem dX5_greatestDivisor_22 : decode cX5_greatestDivisor 22 = .ok (.lload_n 2, 1) := by decide +kernel
theorem dX5_greatestDivisor_23 : decode cX5_greatestDivisor 23 = .ok (.lstore_n 0, 1) := by decide +kernel
theorem dX5_greatestDivisor_24 : decode cX5_greatestDivisor 24 = .ok (.lload 5, 2) := by decide +kernel
theorem dX5_greatestDivisor_26 : decode cX5_greatestDivisor 26 = .ok (.lstore_n 2, 1) := by decide +kernel
theorem dX5_greatestDivisor_27 : decode cX5_greatestDivisor 27 = .ok (.iinc 4 1, 3) := by decide +kernel
theorem dX5_greatestDivisor_30 : decode cX5_greatestDivisor 30 = .ok (.goto (-27), 3) := by decide +kernel
theorem dX5_greatestDivisor_33 : decode cX5_greatestDivisor 33 = .ok (.lload_n 0, 1) := by decide +kernel
theorem dX5_greatestDivisor_34 : decode cX5_greatestDivisor 34 = .ok (.lreturn, 1) := by decide +kernel
set_option maxRecDepth 20000 in
theorem ggX5_prove_X5_isTrial : GoodIn wsX5_prove wsX5_isTrial := goodIn_r _ [11, 2, 12, 13, 14, 15, 16, 17, 18, 10, 19, 20, 97, 98, 99, 100, 101, 102, 103, 104, 105, 106, 107, 108, 109, 110, 111, 112, 113, 114, 115, 116, 117, 118] (by decide +kernel) (by decide +kernel)
set_option maxRecDepth 20000 in
theorem gX5_prove_X5_isTrial : GoodIn wsX5_prove (wsV RX5 177 RX5 yX5_isTrial wsX5_isTrial) := goodIn_app (goodIn_of _ (by decide +kernel)) ggX5_prove_X5_isTrial
set_option maxRecDepth 20000 in
theorem ggX5_prove_X4_copyFrom : GoodIn wsX5_prove wsX4_copyFrom := goodIn_r _ [24, 25, 26, 27, 28, 29, 30, 31, 32, 33, 34, 17, 35, 36, 37, 38, 39, 107, 108, 109, 110, 111, 112, 113, 114, 115, 116, 117, 118] (by decide +kernel) (by decide +kernel)
set_option maxRecDepth 20000 in
theorem gX5_prove_X4_copyFrom : GoodIn wsX5_prove (wsV RX5 62 RX4 yX4_copyFrom wsX4_copyFrom) := goodIn_app (goodIn_of _ (by decide +kernel)) ggX5_prove_X4_copyFrom
set_option maxRecDepth 20000 in
theorem ggX5_prove_X4_pass : GoodIn wsX5_prove wsX4_pass := goodIn_r _ [43, 44, 45, 46, 15, 47, 17, 48, 49, 50, 51, 30, 35, 36, 31, 25, 52, 53, 54, 55, 56, 57, 58, 59, 32, 60, 61, 62, 63, 64, 65, 66, 67, 33, 34, 68, 69, 70, 71, 72, 73, 74, 75, 76, 77, 78, 79, 80, 81, 82, 83, 84, 85, 86, 87, 88, 89, 90, 91, 92, 93, 37, 94, 95, 96, 38, 107, 108, 109, 110, 111, 112, 113, 114, 115, 116, 117, 118] (by decide +kernel) (by decide +kernel)
set_option maxRecDepth 20000 in
theorem gX5_prove_X4_pass : GoodIn wsX5_prove (wsV RX5 139 RX4 yX4_pass wsX4_pass) := goodIn_app (goodIn_of _ (by decide +kernel)) ggX5_prove_X4_pass
theorem dX5_prove_0 : decode cX5_prove 0 = .ok (.aload_n 0, 1) := by decide +kernel
theorem dX5_prove_1 : decode cX5_prove 1 = .ok (.iload_n 1, 1) := by decide +kernel
theorem dX5_prove_2 : decode cX5_prove 2 = .ok (.iload_n 2, 1) := by decide +kernel
theorem dX5_prove_3 : decode cX5_prove 3 = .ok (.bipush 10, 2) := by decide +kernel
theorem dX5_prove_5 : decode cX5_prove 5 = .ok (.invokevirtual 177, 3) := by decide +kernel
theorem dX5_prove_8 : decode cX5_prove 8 = .ok (.ifCond .ne 5, 3) := by decide +kernel
theorem dX5_prove_11 : decode cX5_prove 11 = .ok (.iconst (-1), 1) := by decide +kernel
theorem dX5_prove_12 : decode cX5_prove 12 = .ok (.ireturn, 1) := by decide +kernel
theorem dX5_prove_13 : decode cX5_prove 13 = .ok (.aload_n 0, 1) := by decide +kernel
theorem dX5_prove_14 : decode cX5_prove 14 = .ok (.getfield 16, 3) := by decide +kernel
theorem dX5_prove_17 : decode cX5_prove 17 = .ok (.aload_n 0, 1) := by decide +kernel
theorem dX5_prove_18 : decode cX5_prove 18 = .ok (.getfield 10, 3) := by decide +kernel
theorem dX5_prove_21 : decode cX5_prove 21 = .ok (.invokevirtual 62, 3) := by decide +kernel
theorem dX5_prove_24 : decode cX5_prove 24 = .ok (.iconst 0, 1) := by decide +kernel
theorem dX5_prove_25 : decode cX5_prove 25 = .ok (.istore_n 3, 1) := by decide +kernel
theorem dX5_prove_26 : decode cX5_prove 26 = .ok (.iload_n 3, 1) := by decide +kernel
theorem dX5_prove_27 : decode cX5_prove 27 = .ok (.iload_n 2, 1) := by decide +kernel
theorem dX5_prove_28 : decode cX5_prove 28 = .ok (.if_icmp .ge 68, 3) := by decide +kernel
theorem dX5_prove_31 : decode cX5_prove 31 = .ok (.aload_n 0, 1) := by decide +kernel
theorem dX5_prove_32 : decode cX5_prove 32 = .ok (.getfield 16, 3) := by decide +kernel
theorem dX5_prove_35 : decode cX5_prove 35 = .ok (.invokevirtual 139, 3) := by decide +kernel
theorem dX5_prove_38 : decode cX5_prove 38 = .ok (.istore 4, 2) := by decide +kernel
theorem dX5_prove_40 : decode cX5_prove 40 = .ok (.aload_n 0, 1) := by decide +kernel
theorem dX5_prove_41 : decode cX5_prove 41 = .ok (.getfield 29, 3) := by decide +kernel
theorem dX5_prove_44 : decode cX5_prove 44 = .ok (.iload_n 3, 1) := by decide +kernel
theorem dX5_prove_45 : decode cX5_prove 45 = .ok (.iconst 3, 1) := by decide +kernel
theorem dX5_prove_46 : decode cX5_prove 46 = .ok (.imul, 1) := by decide +kernel
theorem dX5_prove_47 : decode cX5_prove 47 = .ok (.iload 4, 2) := by decide +kernel
theorem dX5_prove_49 : decode cX5_prove 49 = .ok (.iload_n 1, 1) := by decide +kernel
theorem dX5_prove_50 : decode cX5_prove 50 = .ok (.ishr, 1) := by decide +kernel
theorem dX5_prove_51 : decode cX5_prove 51 = .ok (.iconst 1, 1) := by decide +kernel
theorem dX5_prove_52 : decode cX5_prove 52 = .ok (.iand, 1) := by decide +kernel
theorem dX5_prove_53 : decode cX5_prove 53 = .ok (.iastore, 1) := by decide +kernel
theorem dX5_prove_54 : decode cX5_prove 54 = .ok (.aload_n 0, 1) := by decide +kernel
theorem dX5_prove_55 : decode cX5_prove 55 = .ok (.getfield 29, 3) := by decide +kernel
theorem dX5_prove_58 : decode cX5_prove 58 = .ok (.iload_n 3, 1) := by decide +kernel
theorem dX5_prove_59 : decode cX5_prove 59 = .ok (.iconst 3, 1) := by decide +kernel
theorem dX5_prove_60 : decode cX5_prove 60 = .ok (.imul, 1) := by decide +kernel
theorem dX5_prove_61 : decode cX5_prove 61 = .ok (.iconst 1, 1) := by decide +kernel
theorem dX5_prove_62 : decode cX5_prove 62 = .ok (.iadd, 1) := by decide +kernel
theorem dX5_prove_63 : decode cX5_prove 63 = .ok (.aload_n 0, 1) := by decide +kernel
theorem dX5_prove_64 : decode cX5_prove 64 = .ok (.getfield 16, 3) := by decide +kernel
theorem dX5_prove_67 : decode cX5_prove 67 = .ok (.getfield 142, 3) := by decide +kernel
theorem dX5_prove_70 : decode cX5_prove 70 = .ok (.iastore, 1) := by decide +kernel
theorem dX5_prove_71 : decode cX5_prove 71 = .ok (.aload_n 0, 1) := by decide +kernel
theorem dX5_prove_72 : decode cX5_prove 72 = .ok (.getfield 29, 3) := by decide +kernel
theorem dX5_prove_75 : decode cX5_prove 75 = .ok (.iload_n 3, 1) := by decide +kernel
theorem dX5_prove_76 : decode cX5_prove 76 = .ok (.iconst 3, 1) := by decide +kernel
theorem dX5_prove_77 : decode cX5_prove 77 = .ok (.imul, 1) := by decide +kernel
theorem dX5_prove_78 : decode cX5_prove 78 = .ok (.iconst 2, 1) := by decide +kernel
theorem dX5_prove_79 : decode cX5_prove 79 = .ok (.iadd, 1) := by decide +kernel
theorem dX5_prove_80 : decode cX5_prove 80 = .ok (.aload_n 0, 1) := by decide +kernel
theorem dX5_prove_81 : decode cX5_prove 81 = .ok (.getfield 16, 3) := by decide +kernel
theorem dX5_prove_84 : decode cX5_prove 84 = .ok (.getfield 118, 3) := by decide +kernel
theorem dX5_prove_87 : decode cX5_prove 87 = .ok (.iload_n 1, 1) := by decide +kernel
theorem dX5_prove_88 : decode cX5_prove 88 = .ok (.iaload, 1) := by decide +kernel
theorem dX5_prove_89 : decode cX5_prove 89 = .ok (.iastore, 1) := by decide +kernel
theorem dX5_prove_90 : decode cX5_prove 90 = .ok (.iinc 3 1, 3) := by decide +kernel
theorem dX5_prove_93 : decode cX5_prove 93 = .ok (.goto (-67), 3) := by decide +kernel
theorem dX5_prove_96 : decode cX5_prove 96 = .ok (.aload_n 0, 1) := by decide +kernel
theorem dX5_prove_97 : decode cX5_prove 97 = .ok (.iload_n 2, 1) := by decide +kernel
theorem dX5_prove_98 : decode cX5_prove 98 = .ok (.putfield 73, 3) := by decide +kernel
theorem dX5_prove_101 : decode cX5_prove 101 = .ok (.iload_n 2, 1) := by decide +kernel
theorem dX5_prove_102 : decode cX5_prove 102 = .ok (.ireturn, 1) := by decide +kernel
set_option maxRecDepth 20000 in
theorem ggX5_row_X5_isCell : GoodIn wsX5_row wsX5_isCell := goodIn_r _ [6, 7, 8, 9, 5, 10, 11, 12, 13, 14, 15, 16, 17, 18, 19, 20] (by decide +kernel) (by decide +kernel)
set_option maxRecDepth 20000 in
theorem gX5_row_X5_isCell : GoodIn wsX5_row (wsV RX5 223 RX5 yX5_isCell wsX5_isCell) := goodIn_app (goodIn_of _ (by decide +kernel)) ggX5_row_X5_isCell
theorem dX5_row_0 : decode cX5_row 0 = .ok (.aload_n 0, 1) := by decide +kernel
theorem dX5_row_1 : decode cX5_row 1 = .ok (.iload_n 1, 1) := by decide +kernel
theorem dX5_row_2 : decode cX5_row 2 = .ok (.iload_n 2, 1) := by decide +kernel
theorem dX5_row_3 : decode cX5_row 3 = .ok (.invokevirtual 223, 3) := by decide +kernel
theorem dX5_row_6 : decode cX5_row 6 = .ok (.ifCond .eq 16, 3) := by decide +kernel
theorem dX5_row_9 : decode cX5_row 9 = .ok (.aload_n 0, 1) := by decide +kernel
theorem dX5_row_10 : decode cX5_row 10 = .ok (.getfield 29, 3) := by decide +kernel
theorem dX5_row_13 : decode cX5_row 13 = .ok (.iload_n 1, 1) := by decide +kernel
theorem dX5_row_14 : decode cX5_row 14 = .ok (.iconst 3, 1) := by decide +kernel
theorem dX5_row_15 : decode cX5_row 15 = .ok (.imul, 1) := by decide +kernel
theorem dX5_row_16 : decode cX5_row 16 = .ok (.iload_n 2, 1) := by decide +kernel
theorem dX5_row_17 : decode cX5_row 17 = .ok (.iadd, 1) := by decide +kernel
theorem dX5_row_18 : decode cX5_row 18 = .ok (.iaload, 1) := by decide +kernel
theorem dX5_row_19 : decode cX5_row 19 = .ok (.goto 5, 3) := by decide +kernel
theorem dX5_row_22 : decode cX5_row 22 = .ok (.bipush (-9), 2) := by decide +kernel
theorem dX5_row_24 : decode cX5_row 24 = .ok (.ireturn, 1) := by decide +kernel
set_option maxRecDepth 20000 in
theorem ggX5_alterRow_X5_isCell : GoodIn wsX5_alterRow wsX5_isCell := goodIn_r _ [6, 7, 8, 9, 5, 10, 11, 12, 13, 14, 15, 16, 17, 18, 19, 20] (by decide +kernel) (by decide +kernel)
set_option maxRecDepth 20000 in
theorem gX5_alterRow_X5_isCell : GoodIn wsX5_alterRow (wsV RX5 223 RX5 yX5_isCell wsX5_isCell) := goodIn_app (goodIn_of _ (by decide +kernel)) ggX5_alterRow_X5_isCell
theorem dX5_alterRow_0 : decode cX5_alterRow 0 = .ok (.aload_n 0, 1) := by decide +kernel
theorem dX5_alterRow_1 : decode cX5_alterRow 1 = .ok (.iload_n 1, 1) := by decide +kernel
theorem dX5_alterRow_2 : decode cX5_alterRow 2 = .ok (.iload_n 2, 1) := by decide +kernel
theorem dX5_alterRow_3 : decode cX5_alterRow 3 = .ok (.invokevirtual 223, 3) := by decide +kernel
theorem dX5_alterRow_6 : decode cX5_alterRow 6 = .ok (.ifCond .ne 6, 3) := by decide +kernel
theorem dX5_alterRow_9 : decode cX5_alterRow 9 = .ok (.bipush (-9), 2) := by decide +kernel
theorem dX5_alterRow_11 : decode cX5_alterRow 11 = .ok (.ireturn, 1) := by decide +kernel
theorem dX5_alterRow_12 : decode cX5_alterRow 12 = .ok (.aload_n 0, 1) := by decide +kernel
theorem dX5_alterRow_13 : decode cX5_alterRow 13 = .ok (.getfield 29, 3) := by decide +kernel
theorem dX5_alterRow_16 : decode cX5_alterRow 16 = .ok (.iload_n 1, 1) := by decide +kernel
theorem dX5_alterRow_17 : decode cX5_alterRow 17 = .ok (.iconst 3, 1) := by decide +kernel
theorem dX5_alterRow_18 : decode cX5_alterRow 18 = .ok (.imul, 1) := by decide +kernel
theorem dX5_alterRow_19 : decode cX5_alterRow 19 = .ok (.iload_n 2, 1) := by decide +kernel
theorem dX5_alterRow_20 : decode cX5_alterRow 20 = .ok (.iadd, 1) := by decide +kernel
theorem dX5_alterRow_21 : decode cX5_alterRow 21 = .ok (.iaload, 1) := by decide +kernel
theorem dX5_alterRow_22 : decode cX5_alterRow 22 = .ok (.istore 4, 2) := by decide +kernel
theorem dX5_alterRow_24 : decode cX5_alterRow 24 = .ok (.aload_n 0, 1) := by decide +kernel
theorem dX5_alterRow_25 : decode cX5_alterRow 25 = .ok (.getfield 29, 3) := by decide +kernel
theorem dX5_alterRow_28 : decode cX5_alterRow 28 = .ok (.iload_n 1, 1) := by decide +kernel
theorem dX5_alterRow_29 : decode cX5_alterRow 29 = .ok (.iconst 3, 1) := by decide +kernel
theorem dX5_alterRow_30 : decode cX5_alterRow 30 = .ok (.imul, 1) := by decide +kernel
theorem dX5_alterRow_31 : decode cX5_alterRow 31 = .ok (.iload_n 2, 1) := by decide +kernel
theorem dX5_alterRow_32 : decode cX5_alterRow 32 = .ok (.iadd, 1) := by decide +kernel
theorem dX5_alterRow_33 : decode cX5_alterRow 33 = .ok (.iload_n 3, 1) := by decide +kernel
theorem dX5_alterRow_34 : decode cX5_alterRow 34 = .ok (.iastore, 1) := by decide +kernel
theorem dX5_alterRow_35 : decode cX5_alterRow 35 = .ok (.iload 4, 2) := by decide +kernel
theorem dX5_alterRow_37 : decode cX5_alterRow 37 = .ok (.ireturn, 1) := by decide +kernel
set_option maxRecDepth 20000 in
theorem ggX5_judge_X4_has : GoodIn wsX5_judge wsX4_has := goodIn_r _ [11, 12, 13, 14, 15, 102, 103, 104, 105, 106, 107, 108, 109, 110, 111, 112, 113] (by decide +kernel) (by decide +kernel)
set_option maxRecDepth 20000 in
theorem gX5_judge_X4_has : GoodIn wsX5_judge (wsV RX5 103 RX4 yX4_has wsX4_has) := goodIn_app (goodIn_of _ (by decide +kernel)) ggX5_judge_X4_has
set_option maxRecDepth 20000 in
theorem ggX5_judge_X4_copyFrom : GoodIn wsX5_judge wsX4_copyFrom := goodIn_r _ [19, 20, 21, 22, 23, 24, 25, 26, 27, 28, 29, 12, 30, 31, 32, 33, 34, 102, 103, 104, 105, 106, 107, 108, 109, 110, 111, 112, 113] (by decide +kernel) (by decide +kernel)
set_option maxRecDepth 20000 in
theorem gX5_judge_X4_copyFrom : GoodIn wsX5_judge (wsV RX5 62 RX4 yX4_copyFrom wsX4_copyFrom) := goodIn_app (goodIn_of _ (by decide +kernel)) ggX5_judge_X4_copyFrom
set_option maxRecDepth 20000 in
theorem ggX5_judge_X4_pass : GoodIn wsX5_judge wsX4_pass := goodIn_r _ [38, 39, 40, 41, 10, 42, 12, 43, 44, 45, 46, 25, 30, 31, 26, 20, 47, 48, 49, 50, 51, 52, 53, 54, 27, 55, 56, 57, 58, 59, 60, 61, 62, 28, 29, 63, 64, 65, 66, 67, 68, 69, 70, 71, 72, 73, 74, 75, 76, 77, 78, 79, 80, 81, 82, 83, 84, 85, 86, 87, 88, 32, 89, 90, 91, 33, 102, 103, 104, 105, 106, 107, 108, 109, 110, 111, 112, 113] (by decide +kernel) (by decide +kernel)
set_option maxRecDepth 20000 in
theorem gX5_judge_X4_pass : GoodIn wsX5_judge (wsV RX5 139 RX4 yX4_pass wsX4_pass) := goodIn_app (goodIn_of _ (by decide +kernel)) ggX5_judge_X4_pass
theorem dX5_judge_0 : decode cX5_judge 0 = .ok (.aload_n 0, 1) := by decide +kernel
theorem dX5_judge_1 : decode cX5_judge 1 = .ok (.getfield 10, 3) := by decide +kernel
theorem dX5_judge_4 : decode cX5_judge 4 = .ok (.iload_n 1, 1) := by decide +kernel
theorem dX5_judge_5 : decode cX5_judge 5 = .ok (.invokevirtual 103, 3) := by decide +kernel
theorem dX5_judge_8 : decode cX5_judge 8 = .ok (.ifCond .ne 5, 3) := by decide +kernel
theorem dX5_judge_11 : decode cX5_judge 11 = .ok (.iconst (-1), 1) := by decide +kernel
theorem dX5_judge_12 : decode cX5_judge 12 = .ok (.ireturn, 1) := by decide +kernel
theorem dX5_judge_13 : decode cX5_judge 13 = .ok (.aload_n 0, 1) := by decide +kernel
theorem dX5_judge_14 : decode cX5_judge 14 = .ok (.getfield 16, 3) := by decide +kernel
theorem dX5_judge_17 : decode cX5_judge 17 = .ok (.aload_n 0, 1) := by decide +kernel
theorem dX5_judge_18 : decode cX5_judge 18 = .ok (.getfield 10, 3) := by decide +kernel
theorem dX5_judge_21 : decode cX5_judge 21 = .ok (.invokevirtual 62, 3) := by decide +kernel
theorem dX5_judge_24 : decode cX5_judge 24 = .ok (.iconst 0, 1) := by decide +kernel
theorem dX5_judge_25 : decode cX5_judge 25 = .ok (.istore_n 2, 1) := by decide +kernel
theorem dX5_judge_26 : decode cX5_judge 26 = .ok (.iload_n 2, 1) := by decide +kernel
theorem dX5_judge_27 : decode cX5_judge 27 = .ok (.aload_n 0, 1) := by decide +kernel
theorem dX5_judge_28 : decode cX5_judge 28 = .ok (.getfield 73, 3) := by decide +kernel
theorem dX5_judge_31 : decode cX5_judge 31 = .ok (.if_icmp .ge 79, 3) := by decide +kernel
theorem dX5_judge_34 : decode cX5_judge 34 = .ok (.aload_n 0, 1) := by decide +kernel
theorem dX5_judge_35 : decode cX5_judge 35 = .ok (.getfield 16, 3) := by decide +kernel
theorem dX5_judge_38 : decode cX5_judge 38 = .ok (.invokevirtual 139, 3) := by decide +kernel
theorem dX5_judge_41 : decode cX5_judge 41 = .ok (.istore_n 3, 1) := by decide +kernel
theorem dX5_judge_42 : decode cX5_judge 42 = .ok (.aload_n 0, 1) := by decide +kernel
theorem dX5_judge_43 : decode cX5_judge 43 = .ok (.getfield 29, 3) := by decide +kernel
theorem dX5_judge_46 : decode cX5_judge 46 = .ok (.iload_n 2, 1) := by decide +kernel
theorem dX5_judge_47 : decode cX5_judge 47 = .ok (.iconst 3, 1) := by decide +kernel
theorem dX5_judge_48 : decode cX5_judge 48 = .ok (.imul, 1) := by decide +kernel
theorem dX5_judge_49 : decode cX5_judge 49 = .ok (.iaload, 1) := by decide +kernel
theorem dX5_judge_50 : decode cX5_judge 50 = .ok (.iload_n 3, 1) := by decide +kernel
theorem dX5_judge_51 : decode cX5_judge 51 = .ok (.iload_n 1, 1) := by decide +kernel
theorem dX5_judge_52 : decode cX5_judge 52 = .ok (.ishr, 1) := by decide +kernel
theorem dX5_judge_53 : decode cX5_judge 53 = .ok (.iconst 1, 1) := by decide +kernel
theorem dX5_judge_54 : decode cX5_judge 54 = .ok (.iand, 1) := by decide +kernel
theorem dX5_judge_55 : decode cX5_judge 55 = .ok (.if_icmp .ne 45, 3) := by decide +kernel
theorem dX5_judge_58 : decode cX5_judge 58 = .ok (.aload_n 0, 1) := by decide +kernel
theorem dX5_judge_59 : decode cX5_judge 59 = .ok (.getfield 29, 3) := by decide +kernel
theorem dX5_judge_62 : decode cX5_judge 62 = .ok (.iload_n 2, 1) := by decide +kernel
theorem dX5_judge_63 : decode cX5_judge 63 = .ok (.iconst 3, 1) := by decide +kernel
theorem dX5_judge_64 : decode cX5_judge 64 = .ok (.imul, 1) := by decide +kernel
theorem dX5_judge_65 : decode cX5_judge 65 = .ok (.iconst 1, 1) := by decide +kernel
theorem dX5_judge_66 : decode cX5_judge 66 = .ok (.iadd, 1) := by decide +kernel
theorem dX5_judge_67 : decode cX5_judge 67 = .ok (.iaload, 1) := by decide +kernel
theorem dX5_judge_68 : decode cX5_judge 68 = .ok (.aload_n 0, 1) := by decide +kernel
theorem dX5_judge_69 : decode cX5_judge 69 = .ok (.getfield 16, 3) := by decide +kernel
theorem dX5_judge_72 : decode cX5_judge 72 = .ok (.getfield 142, 3) := by decide +kernel
theorem dX5_judge_75 : decode cX5_judge 75 = .ok (.if_icmp .ne 25, 3) := by decide +kernel
theorem dX5_judge_78 : decode cX5_judge 78 = .ok (.aload_n 0, 1) := by decide +kernel
theorem dX5_judge_79 : decode cX5_judge 79 = .ok (.getfield 29, 3) := by decide +kernel
theorem dX5_judge_82 : decode cX5_judge 82 = .ok (.iload_n 2, 1) := by decide +kernel
theorem dX5_judge_83 : decode cX5_judge 83 = .ok (.iconst 3, 1) := by decide +kernel
theorem dX5_judge_84 : decode cX5_judge 84 = .ok (.imul, 1) := by decide +kernel
theorem dX5_judge_85 : decode cX5_judge 85 = .ok (.iconst 2, 1) := by decide +kernel
theorem dX5_judge_86 : decode cX5_judge 86 = .ok (.iadd, 1) := by decide +kernel
theorem dX5_judge_87 : decode cX5_judge 87 = .ok (.iaload, 1) := by decide +kernel
theorem dX5_judge_88 : decode cX5_judge 88 = .ok (.aload_n 0, 1) := by decide +kernel
theorem dX5_judge_89 : decode cX5_judge 89 = .ok (.getfield 16, 3) := by decide +kernel
theorem dX5_judge_92 : decode cX5_judge 92 = .ok (.getfield 118, 3) := by decide +kernel
theorem dX5_judge_95 : decode cX5_judge 95 = .ok (.iload_n 1, 1) := by decide +kernel
theorem dX5_judge_96 : decode cX5_judge 96 = .ok (.iaload, 1) := by decide +kernel
theorem dX5_judge_97 : decode cX5_judge 97 = .ok (.if_icmp .eq 7, 3) := by decide +kernel
theorem dX5_judge_100 : decode cX5_judge 100 = .ok (.iload_n 2, 1) := by decide +kernel
theorem dX5_judge_101 : decode cX5_judge 101 = .ok (.iconst 1, 1) := by decide +kernel
theorem dX5_judge_102 : decode cX5_judge 102 = .ok (.iadd, 1) := by decide +kernel
theorem dX5_judge_103 : decode cX5_judge 103 = .ok (.ireturn, 1) := by decide +kernel
theorem dX5_judge_104 : decode cX5_judge 104 = .ok (.iinc 2 1, 3) := by decide +kernel
theorem dX5_judge_107 : decode cX5_judge 107 = .ok (.goto (-81), 3) := by decide +kernel
theorem dX5_judge_110 : decode cX5_judge 110 = .ok (.iconst 0, 1) := by decide +kernel
theorem dX5_judge_111 : decode cX5_judge 111 = .ok (.ireturn, 1) := by decide +kernel
set_option maxRecDepth 20000 in
theorem ggX5_isCell_X5_isIn : GoodIn wsX5_isCell wsX5_isIn := goodIn_r _ [5] (by decide +kernel) (by decide +kernel)
set_option maxRecDepth 20000 in
theorem gX5_isCell_X5_isIn : GoodIn wsX5_isCell (va_wsS RX5 79 yX5_isIn wsX5_isIn) := goodIn_app (goodIn_of _ (by decide +kernel)) ggX5_isCell_X5_isIn
theorem dX5_isCell_0 : decode cX5_isCell 0 = .ok (.iload_n 1, 1) := by decide +kernel
theorem dX5_isCell_1 : decode cX5_isCell 1 = .ok (.iconst 0, 1) := by decide +kernel
theorem dX5_isCell_2 : decode cX5_isCell 2 = .ok (.aload_n 0, 1) := by decide +kernel
theorem dX5_isCell_3 : decode cX5_isCell 3 = .ok (.getfield 73, 3) := by decide +kernel
theorem dX5_isCell_6 : decode cX5_isCell 6 = .ok (.iconst 1, 1) := by decide +kernel
theorem dX5_isCell_7 : decode cX5_isCell 7 = .ok (.isub, 1) := by decide +kernel
theorem dX5_isCell_8 : decode cX5_isCell 8 = .ok (.invokestatic 79, 3) := by decide +kernel
theorem dX5_isCell_11 : decode cX5_isCell 11 = .ok (.ifCond .eq 16, 3) := by decide +kernel
theorem dX5_isCell_14 : decode cX5_isCell 14 = .ok (.iload_n 2, 1) := by decide +kernel
theorem dX5_isCell_15 : decode cX5_isCell 15 = .ok (.iconst 0, 1) := by decide +kernel
theorem dX5_isCell_16 : decode cX5_isCell 16 = .ok (.iconst 2, 1) := by decide +kernel
theorem dX5_isCell_17 : decode cX5_isCell 17 = .ok (.invokestatic 79, 3) := by decide +kernel
theorem dX5_isCell_20 : decode cX5_isCell 20 = .ok (.ifCond .eq 7, 3) := by decide +kernel
theorem dX5_isCell_23 : decode cX5_isCell 23 = .ok (.iconst 1, 1) := by decide +kernel
theorem dX5_isCell_24 : decode cX5_isCell 24 = .ok (.goto 4, 3) := by decide +kernel
theorem dX5_isCell_27 : decode cX5_isCell 27 = .ok (.iconst 0, 1) := by decide +kernel
theorem dX5_isCell_28 : decode cX5_isCell 28 = .ok (.ireturn, 1) := by decide +kernel
set_option maxRecDepth 20000 in
theorem ggX5_minds_X5_isSheet : GoodIn wsX5_minds wsX5_isSheet := goodIn_r _ [18, 19, 20, 17, 21] (by decide +kernel) (by decide +kernel)
set_option maxRecDepth 20000 in
theorem gX5_minds_X5_isSheet : GoodIn wsX5_minds (va_wsS RX5 193 yX5_isSheet wsX5_isSheet) := goodIn_app (goodIn_of _ (by decide +kernel)) ggX5_minds_X5_isSheet
set_option maxRecDepth 20000 in
theorem ggX5_minds_X4_has : GoodIn wsX5_minds wsX4_has := goodIn_r _ [26, 27, 20, 17, 21, 38, 39, 40, 41, 42, 43, 44, 45, 46, 47, 48, 49] (by decide +kernel) (by decide +kernel)
set_option maxRecDepth 20000 in
theorem gX5_minds_X4_has : GoodIn wsX5_minds (wsV RX5 103 RX4 yX4_has wsX4_has) := goodIn_app (goodIn_of _ (by decide +kernel)) ggX5_minds_X4_has
set_option maxRecDepth 20000 in
theorem ggX5_minds_X5_isIn : GoodIn wsX5_minds wsX5_isIn := goodIn_r _ [21] (by decide +kernel) (by decide +kernel)
set_option maxRecDepth 20000 in
theorem gX5_minds_X5_isIn : GoodIn wsX5_minds (va_wsS RX5 79 yX5_isIn wsX5_isIn) := goodIn_app (goodIn_of _ (by decide +kernel)) ggX5_minds_X5_isIn
theorem dX5_minds_0 : decode cX5_minds 0 = .ok (.iload_n 1, 1) := by decide +kernel
theorem dX5_minds_1 : decode cX5_minds 1 = .ok (.invokestatic 193, 3) := by decide +kernel
theorem dX5_minds_4 : decode cX5_minds 4 = .ok (.ifCond .eq 39, 3) := by decide +kernel
theorem dX5_minds_7 : decode cX5_minds 7 = .ok (.aload_n 0, 1) := by decide +kernel
theorem dX5_minds_8 : decode cX5_minds 8 = .ok (.getfield 10, 3) := by decide +kernel
theorem dX5_minds_11 : decode cX5_minds 11 = .ok (.iload_n 3, 1) := by decide +kernel
theorem dX5_minds_12 : decode cX5_minds 12 = .ok (.invokevirtual 103, 3) := by decide +kernel
theorem dX5_minds_15 : decode cX5_minds 15 = .ok (.ifCond .eq 28, 3) := by decide +kernel
theorem dX5_minds_18 : decode cX5_minds 18 = .ok (.iload 4, 2) := by decide +kernel
theorem dX5_minds_20 : decode cX5_minds 20 = .ok (.iconst 0, 1) := by decide +kernel
theorem dX5_minds_21 : decode cX5_minds 21 = .ok (.bipush 8, 2) := by decide +kernel
theorem dX5_minds_23 : decode cX5_minds 23 = .ok (.invokestatic 79, 3) := by decide +kernel
theorem dX5_minds_26 : decode cX5_minds 26 = .ok (.ifCond .eq 17, 3) := by decide +kernel
theorem dX5_minds_29 : decode cX5_minds 29 = .ok (.iload_n 3, 1) := by decide +kernel
theorem dX5_minds_30 : decode cX5_minds 30 = .ok (.iload 4, 2) := by decide +kernel
theorem dX5_minds_32 : decode cX5_minds 32 = .ok (.iadd, 1) := by decide +kernel
theorem dX5_minds_33 : decode cX5_minds 33 = .ok (.aload_n 0, 1) := by decide +kernel
theorem dX5_minds_34 : decode cX5_minds 34 = .ok (.getfield 10, 3) := by decide +kernel
theorem dX5_minds_37 : decode cX5_minds 37 = .ok (.getfield 76, 3) := by decide +kernel
theorem dX5_minds_40 : decode cX5_minds 40 = .ok (.if_icmp .le 5, 3) := by decide +kernel
theorem dX5_minds_43 : decode cX5_minds 43 = .ok (.iconst (-1), 1) := by decide +kernel
theorem dX5_minds_44 : decode cX5_minds 44 = .ok (.ireturn, 1) := by decide +kernel
theorem dX5_minds_45 : decode cX5_minds 45 = .ok (.aload_n 0, 1) := by decide +kernel
theorem dX5_minds_46 : decode cX5_minds 46 = .ok (.getfield 35, 3) := by decide +kernel
theorem dX5_minds_49 : decode cX5_minds 49 = .ok (.iload_n 1, 1) := by decide +kernel
theorem dX5_minds_50 : decode cX5_minds 50 = .ok (.aaload, 1) := by decide +kernel
theorem dX5_minds_51 : decode cX5_minds 51 = .ok (.astore 5, 2) := by decide +kernel
theorem dX5_minds_53 : decode cX5_minds 53 = .ok (.aload 5, 2) := by decide +kernel
theorem dX5_minds_55 : decode cX5_minds 55 = .ok (.getfield 196, 3) := by decide +kernel
theorem dX5_minds_58 : decode cX5_minds 58 = .ok (.iconst (-1), 1) := by decide +kernel
theorem dX5_minds_59 : decode cX5_minds 59 = .ok (.if_icmp .ne 6, 3) := by decide +kernel
theorem dX5_minds_62 : decode cX5_minds 62 = .ok (.bipush (-11), 2) := by decide +kernel
theorem dX5_minds_64 : decode cX5_minds 64 = .ok (.ireturn, 1) := by decide +kernel
theorem dX5_minds_65 : decode cX5_minds 65 = .ok (.aload 5, 2) := by decide +kernel
theorem dX5_minds_67 : decode cX5_minds 67 = .ok (.getfield 196, 3) := by decide +kernel
theorem dX5_minds_70 : decode cX5_minds 70 = .ok (.ifCond .eq 6, 3) := by decide +kernel
theorem dX5_minds_73 : decode cX5_minds 73 = .ok (.bipush (-13), 2) := by decide +kernel
theorem dX5_minds_75 : decode cX5_minds 75 = .ok (.ireturn, 1) := by decide +kernel
theorem dX5_minds_76 : decode cX5_minds 76 = .ok (.iload_n 2, 1) := by decide +kernel
theorem dX5_minds_77 : decode cX5_minds 77 = .ok (.iconst 0, 1) := by decide +kernel
theorem dX5_minds_78 : decode cX5_minds 78 = .ok (.aload 5, 2) := by decide +kernel
theorem dX5_minds_80 : decode cX5_minds 80 = .ok (.getfield 206, 3) := by decide +kernel
theorem dX5_minds_83 : decode cX5_minds 83 = .ok (.invokestatic 79, 3) := by decide +kernel
theorem dX5_minds_86 : decode cX5_minds 86 = .ok (.ifCond .eq 15, 3) := by decide +kernel
theorem dX5_minds_89 : decode cX5_minds 89 = .ok (.iload_n 2, 1) := by decide +kernel
theorem dX5_minds_90 : decode cX5_minds 90 = .ok (.iload 4, 2) := by decide +kernel
theorem dX5_minds_92 : decode cX5_minds 92 = .ok (.iadd, 1) := by decide +kernel
theorem dX5_minds_93 : decode cX5_minds 93 = .ok (.aload 5, 2) := by decide +kernel
theorem dX5_minds_95 : decode cX5_minds 95 = .ok (.getfield 206, 3) := by decide +kernel
theorem dX5_minds_98 : decode cX5_minds 98 = .ok (.if_icmp .le 6, 3) := by decide +kernel
theorem dX5_minds_101 : decode cX5_minds 101 = .ok (.bipush (-12), 2) := by decide +kernel
theorem dX5_minds_103 : decode cX5_minds 103 = .ok (.ireturn, 1) := by decide +kernel
theorem dX5_minds_104 : decode cX5_minds 104 = .ok (.iconst 0, 1) := by decide +kernel
theorem dX5_minds_105 : decode cX5_minds 105 = .ok (.istore 6, 2) := by decide +kernel
theorem dX5_minds_107 : decode cX5_minds 107 = .ok (.iload 6, 2) := by decide +kernel
theorem dX5_minds_109 : decode cX5_minds 109 = .ok (.iload 4, 2) := by decide +kernel
theorem dX5_minds_111 : decode cX5_minds 111 = .ok (.if_icmp .ge 41, 3) := by decide +kernel
theorem dX5_minds_114 : decode cX5_minds 114 = .ok (.aload_n 0, 1) := by decide +kernel
theorem dX5_minds_115 : decode cX5_minds 115 = .ok (.getfield 10, 3) := by decide +kernel
theorem dX5_minds_118 : decode cX5_minds 118 = .ok (.getfield 112, 3) := by decide +kernel
theorem dX5_minds_121 : decode cX5_minds 121 = .ok (.iload_n 3, 1) := by decide +kernel
theorem dX5_minds_122 : decode cX5_minds 122 = .ok (.iload 6, 2) := by decide +kernel
theorem dX5_minds_124 : decode cX5_minds 124 = .ok (.iadd, 1) := by decide +kernel
theorem dX5_minds_125 : decode cX5_minds 125 = .ok (.iconst 0, 1) := by decide +kernel
theorem dX5_minds_126 : decode cX5_minds 126 = .ok (.bipush 8, 2) := by decide +kernel
theorem dX5_minds_128 : decode cX5_minds 128 = .ok (.aload 5, 2) := by decide +kernel
theorem dX5_minds_130 : decode cX5_minds 130 = .ok (.getfield 207, 3) := by decide +kernel
theorem dX5_minds_133 : decode cX5_minds 133 = .ok (.iload_n 2, 1) := by decide +kernel
theorem dX5_minds_134 : decode cX5_minds 134 = .ok (.iload 6, 2) := by decide +kernel
theorem dX5_minds_136 : decode cX5_minds 136 = .ok (.iadd, 1) := by decide +kernel
theorem dX5_minds_137 : decode cX5_minds 137 = .ok (.laload, 1) := by decide +kernel
theorem dX5_minds_138 : decode cX5_minds 138 = .ok (.l2i, 1) := by decide +kernel
theorem dX5_minds_139 : decode cX5_minds 139 = .ok (.invokestatic 227, 3) := by decide +kernel
theorem dX5_minds_142 : decode cX5_minds 142 = .ok (.invokestatic 232, 3) := by decide +kernel
theorem dX5_minds_145 : decode cX5_minds 145 = .ok (.iastore, 1) := by decide +kernel
theorem dX5_minds_146 : decode cX5_minds 146 = .ok (.iinc 6 1, 3) := by decide +kernel
theorem dX5_minds_149 : decode cX5_minds 149 = .ok (.goto (-42), 3) := by decide +kernel
theorem dX5_minds_152 : decode cX5_minds 152 = .ok (.iload 4, 2) := by decide +kernel
theorem dX5_minds_154 : decode cX5_minds 154 = .ok (.ireturn, 1) := by decide +kernel
set_option maxRecDepth 20000 in
theorem ggX5_sheet_X5_isSheet : GoodIn wsX5_sheet wsX5_isSheet := goodIn_r _ [5, 6, 7, 4, 8] (by decide +kernel) (by decide +kernel)
set_option maxRecDepth 20000 in
theorem gX5_sheet_X5_isSheet : GoodIn wsX5_sheet (va_wsS RX5 193 yX5_isSheet wsX5_isSheet) := goodIn_app (goodIn_of _ (by decide +kernel)) ggX5_sheet_X5_isSheet
set_option maxRecDepth 20000 in
theorem ggX5_sheet_X5_isIn : GoodIn wsX5_sheet wsX5_isIn := goodIn_r _ [8] (by decide +kernel) (by decide +kernel)
set_option maxRecDepth 20000 in
theorem gX5_sheet_X5_isIn : GoodIn wsX5_sheet (va_wsS RX5 79 yX5_isIn wsX5_isIn) := goodIn_app (goodIn_of _ (by decide +kernel)) ggX5_sheet_X5_isIn
set_option maxRecDepth 20000 in
theorem ggX5_sheet_X1_become : GoodIn wsX5_sheet wsX1_become := goodIn_r _ [13, 14, 15, 16, 17, 18, 19, 20, 21, 22, 23, 34, 35, 36] (by decide +kernel) (by decide +kernel)
set_option maxRecDepth 20000 in
theorem gX5_sheet_X1_become : GoodIn wsX5_sheet (wsV RX5 235 RX1 yX1_become wsX1_become) := goodIn_app (goodIn_of _ (by decide +kernel)) ggX5_sheet_X1_become
theorem dX5_sheet_0 : decode cX5_sheet 0 = .ok (.iload_n 1, 1) := by decide +kernel
theorem dX5_sheet_1 : decode cX5_sheet 1 = .ok (.invokestatic 193, 3) := by decide +kernel
theorem dX5_sheet_4 : decode cX5_sheet 4 = .ok (.ifCond .eq 12, 3) := by decide +kernel
theorem dX5_sheet_7 : decode cX5_sheet 7 = .ok (.iload_n 2, 1) := by decide +kernel
theorem dX5_sheet_8 : decode cX5_sheet 8 = .ok (.iconst (-1), 1) := by decide +kernel
theorem dX5_sheet_9 : decode cX5_sheet 9 = .ok (.iconst 3, 1) := by decide +kernel
theorem dX5_sheet_10 : decode cX5_sheet 10 = .ok (.invokestatic 79, 3) := by decide +kernel
theorem dX5_sheet_13 : decode cX5_sheet 13 = .ok (.ifCond .ne 5, 3) := by decide +kernel
theorem dX5_sheet_16 : decode cX5_sheet 16 = .ok (.iconst (-1), 1) := by decide +kernel
theorem dX5_sheet_17 : decode cX5_sheet 17 = .ok (.ireturn, 1) := by decide +kernel
theorem dX5_sheet_18 : decode cX5_sheet 18 = .ok (.iload_n 2, 1) := by decide +kernel
theorem dX5_sheet_19 : decode cX5_sheet 19 = .ok (.iconst (-1), 1) := by decide +kernel
theorem dX5_sheet_20 : decode cX5_sheet 20 = .ok (.if_icmp .eq 11, 3) := by decide +kernel
theorem dX5_sheet_23 : decode cX5_sheet 23 = .ok (.iload_n 3, 1) := by decide +kernel
theorem dX5_sheet_24 : decode cX5_sheet 24 = .ok (.bipush 40, 2) := by decide +kernel
theorem dX5_sheet_26 : decode cX5_sheet 26 = .ok (.if_icmp .le 5, 3) := by decide +kernel
theorem dX5_sheet_29 : decode cX5_sheet 29 = .ok (.iconst (-1), 1) := by decide +kernel
theorem dX5_sheet_30 : decode cX5_sheet 30 = .ok (.ireturn, 1) := by decide +kernel
theorem dX5_sheet_31 : decode cX5_sheet 31 = .ok (.iload_n 2, 1) := by decide +kernel
theorem dX5_sheet_32 : decode cX5_sheet 32 = .ok (.iconst (-1), 1) := by decide +kernel
theorem dX5_sheet_33 : decode cX5_sheet 33 = .ok (.if_icmp .eq 10, 3) := by decide +kernel
theorem dX5_sheet_36 : decode cX5_sheet 36 = .ok (.iload_n 3, 1) := by decide +kernel
theorem dX5_sheet_37 : decode cX5_sheet 37 = .ok (.ifCond .ge 6, 3) := by decide +kernel
theorem dX5_sheet_40 : decode cX5_sheet 40 = .ok (.bipush (-14), 2) := by decide +kernel
theorem dX5_sheet_42 : decode cX5_sheet 42 = .ok (.ireturn, 1) := by decide +kernel
theorem dX5_sheet_43 : decode cX5_sheet 43 = .ok (.aload_n 0, 1) := by decide +kernel
theorem dX5_sheet_44 : decode cX5_sheet 44 = .ok (.getfield 35, 3) := by decide +kernel
theorem dX5_sheet_47 : decode cX5_sheet 47 = .ok (.iload_n 1, 1) := by decide +kernel
theorem dX5_sheet_48 : decode cX5_sheet 48 = .ok (.aaload, 1) := by decide +kernel
theorem dX5_sheet_49 : decode cX5_sheet 49 = .ok (.iload_n 2, 1) := by decide +kernel
theorem dX5_sheet_50 : decode cX5_sheet 50 = .ok (.iload_n 2, 1) := by decide +kernel
theorem dX5_sheet_51 : decode cX5_sheet 51 = .ok (.iconst (-1), 1) := by decide +kernel
theorem dX5_sheet_52 : decode cX5_sheet 52 = .ok (.if_icmp .ne 7, 3) := by decide +kernel
theorem dX5_sheet_55 : decode cX5_sheet 55 = .ok (.iconst 0, 1) := by decide +kernel
theorem dX5_sheet_56 : decode cX5_sheet 56 = .ok (.goto 4, 3) := by decide +kernel
theorem dX5_sheet_59 : decode cX5_sheet 59 = .ok (.iload_n 3, 1) := by decide +kernel
theorem dX5_sheet_60 : decode cX5_sheet 60 = .ok (.invokevirtual 235, 3) := by decide +kernel
theorem dX5_sheet_63 : decode cX5_sheet 63 = .ok (.iconst 1, 1) := by decide +kernel
theorem dX5_sheet_64 : decode cX5_sheet 64 = .ok (.ireturn, 1) := by decide +kernel
set_option maxRecDepth 20000 in
theorem ggX5_put_X5_isSheet : GoodIn wsX5_put wsX5_isSheet := goodIn_r _ [8, 9, 10, 7, 11] (by decide +kernel) (by decide +kernel)
set_option maxRecDepth 20000 in
theorem gX5_put_X5_isSheet : GoodIn wsX5_put (va_wsS RX5 193 yX5_isSheet wsX5_isSheet) := goodIn_app (goodIn_of _ (by decide +kernel)) ggX5_put_X5_isSheet
set_option maxRecDepth 20000 in
theorem ggX5_put_X5_isIn : GoodIn wsX5_put wsX5_isIn := goodIn_r _ [11] (by decide +kernel) (by decide +kernel)
set_option maxRecDepth 20000 in
theorem gX5_put_X5_isIn : GoodIn wsX5_put (va_wsS RX5 79 yX5_isIn wsX5_isIn) := goodIn_app (goodIn_of _ (by decide +kernel)) ggX5_put_X5_isIn
set_option maxRecDepth 20000 in
theorem ggX5_put_X1_narrowed : GoodIn wsX5_put wsX1_narrowed := goodIn_r _ [16, 17, 28, 29, 30] (by decide +kernel) (by decide +kernel)
set_option maxRecDepth 20000 in
theorem gX5_put_X1_narrowed : GoodIn wsX5_put (wsV RX5 239 RX1 yX1_narrowed wsX1_narrowed) := goodIn_app (goodIn_of _ (by decide +kernel)) ggX5_put_X1_narrowed
theorem dX5_put_0 : decode cX5_put 0 = .ok (.iload_n 1, 1) := by decide +kernel
theorem dX5_put_1 : decode cX5_put 1 = .ok (.invokestatic 193, 3) := by decide +kernel
theorem dX5_put_4 : decode cX5_put 4 = .ok (.ifCond .ne 5, 3) := by decide +kernel
theorem dX5_put_7 : decode cX5_put 7 = .ok (.iconst (-1), 1) := by decide +kernel
theorem dX5_put_8 : decode cX5_put 8 = .ok (.ireturn, 1) := by decide +kernel
theorem dX5_put_9 : decode cX5_put 9 = .ok (.aload_n 0, 1) := by decide +kernel
theorem dX5_put_10 : decode cX5_put 10 = .ok (.getfield 35, 3) := by decide +kernel
theorem dX5_put_13 : decode cX5_put 13 = .ok (.iload_n 1, 1) := by decide +kernel
theorem dX5_put_14 : decode cX5_put 14 = .ok (.aaload, 1) := by decide +kernel
theorem dX5_put_15 : decode cX5_put 15 = .ok (.getfield 196, 3) := by decide +kernel
theorem dX5_put_18 : decode cX5_put 18 = .ok (.iconst (-1), 1) := by decide +kernel
theorem dX5_put_19 : decode cX5_put 19 = .ok (.if_icmp .ne 6, 3) := by decide +kernel
theorem dX5_put_22 : decode cX5_put 22 = .ok (.bipush (-11), 2) := by decide +kernel
theorem dX5_put_24 : decode cX5_put 24 = .ok (.ireturn, 1) := by decide +kernel
theorem dX5_put_25 : decode cX5_put 25 = .ok (.iload_n 2, 1) := by decide +kernel
theorem dX5_put_26 : decode cX5_put 26 = .ok (.iconst 0, 1) := by decide +kernel
theorem dX5_put_27 : decode cX5_put 27 = .ok (.aload_n 0, 1) := by decide +kernel
theorem dX5_put_28 : decode cX5_put 28 = .ok (.getfield 35, 3) := by decide +kernel
theorem dX5_put_31 : decode cX5_put 31 = .ok (.iload_n 1, 1) := by decide +kernel
theorem dX5_put_32 : decode cX5_put 32 = .ok (.aaload, 1) := by decide +kernel
theorem dX5_put_33 : decode cX5_put 33 = .ok (.getfield 206, 3) := by decide +kernel
theorem dX5_put_36 : decode cX5_put 36 = .ok (.iconst 1, 1) := by decide +kernel
theorem dX5_put_37 : decode cX5_put 37 = .ok (.isub, 1) := by decide +kernel
theorem dX5_put_38 : decode cX5_put 38 = .ok (.invokestatic 79, 3) := by decide +kernel
theorem dX5_put_41 : decode cX5_put 41 = .ok (.ifCond .ne 6, 3) := by decide +kernel
theorem dX5_put_44 : decode cX5_put 44 = .ok (.bipush (-12), 2) := by decide +kernel
theorem dX5_put_46 : decode cX5_put 46 = .ok (.ireturn, 1) := by decide +kernel
theorem dX5_put_47 : decode cX5_put 47 = .ok (.aload_n 0, 1) := by decide +kernel
theorem dX5_put_48 : decode cX5_put 48 = .ok (.getfield 35, 3) := by decide +kernel
theorem dX5_put_51 : decode cX5_put 51 = .ok (.iload_n 1, 1) := by decide +kernel
theorem dX5_put_52 : decode cX5_put 52 = .ok (.aaload, 1) := by decide +kernel
theorem dX5_put_53 : decode cX5_put 53 = .ok (.getfield 207, 3) := by decide +kernel
theorem dX5_put_56 : decode cX5_put 56 = .ok (.iload_n 2, 1) := by decide +kernel
theorem dX5_put_57 : decode cX5_put 57 = .ok (.aload_n 0, 1) := by decide +kernel
theorem dX5_put_58 : decode cX5_put 58 = .ok (.getfield 35, 3) := by decide +kernel
theorem dX5_put_61 : decode cX5_put 61 = .ok (.iload_n 1, 1) := by decide +kernel
theorem dX5_put_62 : decode cX5_put 62 = .ok (.aaload, 1) := by decide +kernel
theorem dX5_put_63 : decode cX5_put 63 = .ok (.iload_n 3, 1) := by decide +kernel
theorem dX5_put_64 : decode cX5_put 64 = .ok (.invokevirtual 239, 3) := by decide +kernel
theorem dX5_put_67 : decode cX5_put 67 = .ok (.lastore, 1) := by decide +kernel
theorem dX5_put_68 : decode cX5_put 68 = .ok (.iconst 1, 1) := by decide +kernel
theorem dX5_put_69 : decode cX5_put 69 = .ok (.ireturn, 1) := by decide +kernel
set_option maxRecDepth 20000 in
theorem ggX5_item_X5_isSheet : GoodIn wsX5_item wsX5_isSheet := goodIn_r _ [8, 9, 10, 7, 11] (by decide +kernel) (by decide +kernel)
set_option maxRecDepth 20000 in
theorem gX5_item_X5_isSheet : GoodIn wsX5_item (va_wsS RX5 193 yX5_isSheet wsX5_isSheet) := goodIn_app (goodIn_of _ (by decide +kernel)) ggX5_item_X5_isSheet
set_option maxRecDepth 20000 in
theorem ggX5_item_X5_isIn : GoodIn wsX5_item wsX5_isIn := goodIn_r _ [11] (by decide +kernel) (by decide +kernel)
set_option maxRecDepth 20000 in
theorem gX5_item_X5_isIn : GoodIn wsX5_item (va_wsS RX5 79 yX5_isIn wsX5_isIn) := goodIn_app (goodIn_of _ (by decide +kernel)) ggX5_item_X5_isIn
theorem dX5_item_0 : decode cX5_item 0 = .ok (.iload_n 1, 1) := by decide +kernel
theorem dX5_item_1 : decode cX5_item 1 = .ok (.invokestatic 193, 3) := by decide +kernel
theorem dX5_item_4 : decode cX5_item 4 = .ok (.ifCond .eq 12, 3) := by decide +kernel
theorem dX5_item_7 : decode cX5_item 7 = .ok (.iload_n 2, 1) := by decide +kernel
theorem dX5_item_8 : decode cX5_item 8 = .ok (.iconst 0, 1) := by decide +kernel
theorem dX5_item_9 : decode cX5_item 9 = .ok (.iconst 3, 1) := by decide +kernel
theorem dX5_item_10 : decode cX5_item 10 = .ok (.invokestatic 79, 3) := by decide +kernel
theorem dX5_item_13 : decode cX5_item 13 = .ok (.ifCond .ne 5, 3) := by decide +kernel
theorem dX5_item_16 : decode cX5_item 16 = .ok (.iconst (-1), 1) := by decide +kernel
theorem dX5_item_17 : decode cX5_item 17 = .ok (.ireturn, 1) := by decide +kernel
theorem dX5_item_18 : decode cX5_item 18 = .ok (.aload_n 0, 1) := by decide +kernel
theorem dX5_item_19 : decode cX5_item 19 = .ok (.getfield 35, 3) := by decide +kernel
theorem dX5_item_22 : decode cX5_item 22 = .ok (.iload_n 1, 1) := by decide +kernel
theorem dX5_item_23 : decode cX5_item 23 = .ok (.aaload, 1) := by decide +kernel
theorem dX5_item_24 : decode cX5_item 24 = .ok (.getfield 196, 3) := by decide +kernel
theorem dX5_item_27 : decode cX5_item 27 = .ok (.iconst (-1), 1) := by decide +kernel
theorem dX5_item_28 : decode cX5_item 28 = .ok (.if_icmp .ne 6, 3) := by decide +kernel
theorem dX5_item_31 : decode cX5_item 31 = .ok (.bipush (-11), 2) := by decide +kernel
theorem dX5_item_33 : decode cX5_item 33 = .ok (.ireturn, 1) := by decide +kernel
theorem dX5_item_34 : decode cX5_item 34 = .ok (.aload_n 0, 1) := by decide +kernel
theorem dX5_item_35 : decode cX5_item 35 = .ok (.getfield 35, 3) := by decide +kernel
theorem dX5_item_38 : decode cX5_item 38 = .ok (.iload_n 1, 1) := by decide +kernel
theorem dX5_item_39 : decode cX5_item 39 = .ok (.aaload, 1) := by decide +kernel
theorem dX5_item_40 : decode cX5_item 40 = .ok (.getfield 196, 3) := by decide +kernel
theorem dX5_item_43 : decode cX5_item 43 = .ok (.iload_n 2, 1) := by decide +kernel
theorem dX5_item_44 : decode cX5_item 44 = .ok (.if_icmp .eq 6, 3) := by decide +kernel
theorem dX5_item_47 : decode cX5_item 47 = .ok (.bipush (-13), 2) := by decide +kernel
theorem dX5_item_49 : decode cX5_item 49 = .ok (.ireturn, 1) := by decide +kernel
theorem dX5_item_50 : decode cX5_item 50 = .ok (.iload_n 3, 1) := by decide +kernel
theorem dX5_item_51 : decode cX5_item 51 = .ok (.iconst 0, 1) := by decide +kernel
theorem dX5_item_52 : decode cX5_item 52 = .ok (.aload_n 0, 1) := by decide +kernel
theorem dX5_item_53 : decode cX5_item 53 = .ok (.getfield 35, 3) := by decide +kernel
theorem dX5_item_56 : decode cX5_item 56 = .ok (.iload_n 1, 1) := by decide +kernel
theorem dX5_item_57 : decode cX5_item 57 = .ok (.aaload, 1) := by decide +kernel
theorem dX5_item_58 : decode cX5_item 58 = .ok (.getfield 206, 3) := by decide +kernel
theorem dX5_item_61 : decode cX5_item 61 = .ok (.iconst 1, 1) := by decide +kernel
theorem dX5_item_62 : decode cX5_item 62 = .ok (.isub, 1) := by decide +kernel
theorem dX5_item_63 : decode cX5_item 63 = .ok (.invokestatic 79, 3) := by decide +kernel
theorem dX5_item_66 : decode cX5_item 66 = .ok (.ifCond .ne 6, 3) := by decide +kernel
theorem dX5_item_69 : decode cX5_item 69 = .ok (.bipush (-12), 2) := by decide +kernel
theorem dX5_item_71 : decode cX5_item 71 = .ok (.ireturn, 1) := by decide +kernel
theorem dX5_item_72 : decode cX5_item 72 = .ok (.aload_n 0, 1) := by decide +kernel
theorem dX5_item_73 : decode cX5_item 73 = .ok (.getfield 35, 3) := by decide +kernel
theorem dX5_item_76 : decode cX5_item 76 = .ok (.iload_n 1, 1) := by decide +kernel
theorem dX5_item_77 : decode cX5_item 77 = .ok (.aaload, 1) := by decide +kernel
theorem dX5_item_78 : decode cX5_item 78 = .ok (.getfield 207, 3) := by decide +kernel
theorem dX5_item_81 : decode cX5_item 81 = .ok (.iload_n 3, 1) := by decide +kernel
theorem dX5_item_82 : decode cX5_item 82 = .ok (.laload, 1) := by decide +kernel
theorem dX5_item_83 : decode cX5_item 83 = .ok (.l2i, 1) := by decide +kernel
theorem dX5_item_84 : decode cX5_item 84 = .ok (.ireturn, 1) := by decide +kernel
set_option maxRecDepth 20000 in
theorem ggX5_shelf_X5_isShelf : GoodIn wsX5_shelf wsX5_isShelf := goodIn_r _ [9, 10, 11, 8, 12] (by decide +kernel) (by decide +kernel)
set_option maxRecDepth 20000 in
theorem gX5_shelf_X5_isShelf : GoodIn wsX5_shelf (va_wsS RX5 243 yX5_isShelf wsX5_isShelf) := goodIn_app (goodIn_of _ (by decide +kernel)) ggX5_shelf_X5_isShelf
set_option maxRecDepth 20000 in
theorem ggX5_shelf_X5_isIn : GoodIn wsX5_shelf wsX5_isIn := goodIn_r _ [12] (by decide +kernel) (by decide +kernel)
set_option maxRecDepth 20000 in
theorem gX5_shelf_X5_isIn : GoodIn wsX5_shelf (va_wsS RX5 79 yX5_isIn wsX5_isIn) := goodIn_app (goodIn_of _ (by decide +kernel)) ggX5_shelf_X5_isIn
set_option maxRecDepth 20000 in
theorem ggX5_shelf_X4_has : GoodIn wsX5_shelf wsX4_has := goodIn_r _ [17, 18, 11, 8, 12, 52, 53, 54, 55, 56, 57, 58, 59, 60, 61, 62, 63] (by decide +kernel) (by decide +kernel)
set_option maxRecDepth 20000 in
theorem gX5_shelf_X4_has : GoodIn wsX5_shelf (wsV RX5 103 RX4 yX4_has wsX4_has) := goodIn_app (goodIn_of _ (by decide +kernel)) ggX5_shelf_X4_has
set_option maxRecDepth 20000 in
theorem ggX5_shelf_X5_isSheet : GoodIn wsX5_shelf wsX5_isSheet := goodIn_r _ [21, 10, 11, 8, 12] (by decide +kernel) (by decide +kernel)
set_option maxRecDepth 20000 in
theorem gX5_shelf_X5_isSheet : GoodIn wsX5_shelf (va_wsS RX5 193 yX5_isSheet wsX5_isSheet) := goodIn_app (goodIn_of _ (by decide +kernel)) ggX5_shelf_X5_isSheet
set_option maxRecDepth 20000 in
theorem ggX5_shelf_X2_holdPerson : GoodIn wsX5_shelf wsX2_holdPerson := goodIn_r _ [26, 27, 28, 64, 65, 66, 67] (by decide +kernel) (by decide +kernel)
set_option maxRecDepth 20000 in
theorem gX5_shelf_X2_holdPerson : GoodIn wsX5_shelf (wsV RX5 246 RX2 yX2_holdPerson wsX2_holdPerson) := goodIn_app (goodIn_of _ (by decide +kernel)) ggX5_shelf_X2_holdPerson
set_option maxRecDepth 20000 in
theorem ggX5_shelf_X2_holdRow : GoodIn wsX5_shelf wsX2_holdRow := goodIn_r _ [32, 27, 33, 34, 64, 65, 66, 67] (by decide +kernel) (by decide +kernel)
set_option maxRecDepth 20000 in
theorem gX5_shelf_X2_holdRow : GoodIn wsX5_shelf (wsV RX5 249 RX2 yX2_holdRow wsX2_holdRow) := goodIn_app (goodIn_of _ (by decide +kernel)) ggX5_shelf_X2_holdRow
set_option maxRecDepth 20000 in
theorem ggX5_shelf_X2_holdNothing : GoodIn wsX5_shelf wsX2_holdNothing := goodIn_r _ [38, 27, 64, 65, 66, 67] (by decide +kernel) (by decide +kernel)
set_option maxRecDepth 20000 in
theorem gX5_shelf_X2_holdNothing : GoodIn wsX5_shelf (wsV RX5 252 RX2 yX2_holdNothing wsX2_holdNothing) := goodIn_app (goodIn_of _ (by decide +kernel)) ggX5_shelf_X2_holdNothing
theorem dX5_shelf_0 : decode cX5_shelf 0 = .ok (.iload_n 1, 1) := by decide +kernel
theorem dX5_shelf_1 : decode cX5_shelf 1 = .ok (.invokestatic 243, 3) := by decide +kernel
theorem dX5_shelf_4 : decode cX5_shelf 4 = .ok (.ifCond .eq 12, 3) := by decide +kernel
theorem dX5_shelf_7 : decode cX5_shelf 7 = .ok (.iload_n 2, 1) := by decide +kernel
theorem dX5_shelf_8 : decode cX5_shelf 8 = .ok (.iconst 0, 1) := by decide +kernel
theorem dX5_shelf_9 : decode cX5_shelf 9 = .ok (.iconst 2, 1) := by decide +kernel
theorem dX5_shelf_10 : decode cX5_shelf 10 = .ok (.invokestatic 79, 3) := by decide +kernel
theorem dX5_shelf_13 : decode cX5_shelf 13 = .ok (.ifCond .ne 5, 3) := by decide +kernel
theorem dX5_shelf_16 : decode cX5_shelf 16 = .ok (.iconst (-1), 1) := by decide +kernel
theorem dX5_shelf_17 : decode cX5_shelf 17 = .ok (.ireturn, 1) := by decide +kernel
theorem dX5_shelf_18 : decode cX5_shelf 18 = .ok (.iload_n 2, 1) := by decide +kernel
theorem dX5_shelf_19 : decode cX5_shelf 19 = .ok (.ifCond .ne 14, 3) := by decide +kernel
theorem dX5_shelf_22 : decode cX5_shelf 22 = .ok (.aload_n 0, 1) := by decide +kernel
theorem dX5_shelf_23 : decode cX5_shelf 23 = .ok (.getfield 10, 3) := by decide +kernel
theorem dX5_shelf_26 : decode cX5_shelf 26 = .ok (.iload_n 3, 1) := by decide +kernel
theorem dX5_shelf_27 : decode cX5_shelf 27 = .ok (.invokevirtual 103, 3) := by decide +kernel
theorem dX5_shelf_30 : decode cX5_shelf 30 = .ok (.ifCond .eq 15, 3) := by decide +kernel
theorem dX5_shelf_33 : decode cX5_shelf 33 = .ok (.iload_n 2, 1) := by decide +kernel
theorem dX5_shelf_34 : decode cX5_shelf 34 = .ok (.iconst 1, 1) := by decide +kernel
theorem dX5_shelf_35 : decode cX5_shelf 35 = .ok (.if_icmp .ne 12, 3) := by decide +kernel
theorem dX5_shelf_38 : decode cX5_shelf 38 = .ok (.iload_n 3, 1) := by decide +kernel
theorem dX5_shelf_39 : decode cX5_shelf 39 = .ok (.invokestatic 193, 3) := by decide +kernel
theorem dX5_shelf_42 : decode cX5_shelf 42 = .ok (.ifCond .ne 5, 3) := by decide +kernel
theorem dX5_shelf_45 : decode cX5_shelf 45 = .ok (.iconst (-1), 1) := by decide +kernel
theorem dX5_shelf_46 : decode cX5_shelf 46 = .ok (.ireturn, 1) := by decide +kernel
theorem dX5_shelf_47 : decode cX5_shelf 47 = .ok (.iload_n 2, 1) := by decide +kernel
theorem dX5_shelf_48 : decode cX5_shelf 48 = .ok (.ifCond .ne 16, 3) := by decide +kernel
theorem dX5_shelf_51 : decode cX5_shelf 51 = .ok (.aload_n 0, 1) := by decide +kernel
theorem dX5_shelf_52 : decode cX5_shelf 52 = .ok (.getfield 41, 3) := by decide +kernel
theorem dX5_shelf_55 : decode cX5_shelf 55 = .ok (.iload_n 1, 1) := by decide +kernel
theorem dX5_shelf_56 : decode cX5_shelf 56 = .ok (.aaload, 1) := by decide +kernel
theorem dX5_shelf_57 : decode cX5_shelf 57 = .ok (.iload_n 3, 1) := by decide +kernel
theorem dX5_shelf_58 : decode cX5_shelf 58 = .ok (.invokevirtual 246, 3) := by decide +kernel
theorem dX5_shelf_61 : decode cX5_shelf 61 = .ok (.goto 60, 3) := by decide +kernel
theorem dX5_shelf_64 : decode cX5_shelf 64 = .ok (.iload_n 2, 1) := by decide +kernel
theorem dX5_shelf_65 : decode cX5_shelf 65 = .ok (.iconst 1, 1) := by decide +kernel
theorem dX5_shelf_66 : decode cX5_shelf 66 = .ok (.if_icmp .ne 46, 3) := by decide +kernel
theorem dX5_shelf_69 : decode cX5_shelf 69 = .ok (.aload_n 0, 1) := by decide +kernel
theorem dX5_shelf_70 : decode cX5_shelf 70 = .ok (.getfield 35, 3) := by decide +kernel
theorem dX5_shelf_73 : decode cX5_shelf 73 = .ok (.iload_n 3, 1) := by decide +kernel
theorem dX5_shelf_74 : decode cX5_shelf 74 = .ok (.aaload, 1) := by decide +kernel
theorem dX5_shelf_75 : decode cX5_shelf 75 = .ok (.getfield 196, 3) := by decide +kernel
theorem dX5_shelf_78 : decode cX5_shelf 78 = .ok (.iconst (-1), 1) := by decide +kernel
theorem dX5_shelf_79 : decode cX5_shelf 79 = .ok (.if_icmp .eq 33, 3) := by decide +kernel
theorem dX5_shelf_82 : decode cX5_shelf 82 = .ok (.aload_n 0, 1) := by decide +kernel
theorem dX5_shelf_83 : decode cX5_shelf 83 = .ok (.getfield 41, 3) := by decide +kernel
theorem dX5_shelf_86 : decode cX5_shelf 86 = .ok (.iload_n 1, 1) := by decide +kernel
theorem dX5_shelf_87 : decode cX5_shelf 87 = .ok (.aaload, 1) := by decide +kernel
theorem dX5_shelf_88 : decode cX5_shelf 88 = .ok (.aload_n 0, 1) := by decide +kernel
theorem dX5_shelf_89 : decode cX5_shelf 89 = .ok (.getfield 35, 3) := by decide +kernel
theorem dX5_shelf_92 : decode cX5_shelf 92 = .ok (.iload_n 3, 1) := by decide +kernel
theorem dX5_shelf_93 : decode cX5_shelf 93 = .ok (.aaload, 1) := by decide +kernel
theorem dX5_shelf_94 : decode cX5_shelf 94 = .ok (.getfield 196, 3) := by decide +kernel
theorem dX5_shelf_97 : decode cX5_shelf 97 = .ok (.aload_n 0, 1) := by decide +kernel
theorem dX5_shelf_98 : decode cX5_shelf 98 = .ok (.getfield 35, 3) := by decide +kernel
theorem dX5_shelf_101 : decode cX5_shelf 101 = .ok (.iload_n 3, 1) := by decide +kernel
theorem dX5_shelf_102 : decode cX5_shelf 102 = .ok (.aaload, 1) := by decide +kernel
theorem dX5_shelf_103 : decode cX5_shelf 103 = .ok (.getfield 206, 3) := by decide +kernel
theorem dX5_shelf_106 : decode cX5_shelf 106 = .ok (.invokevirtual 249, 3) := by decide +kernel
theorem dX5_shelf_109 : decode cX5_shelf 109 = .ok (.goto 12, 3) := by decide +kernel
theorem dX5_shelf_112 : decode cX5_shelf 112 = .ok (.aload_n 0, 1) := by decide +kernel
theorem dX5_shelf_113 : decode cX5_shelf 113 = .ok (.getfield 41, 3) := by decide +kernel
theorem dX5_shelf_116 : decode cX5_shelf 116 = .ok (.iload_n 1, 1) := by decide +kernel
theorem dX5_shelf_117 : decode cX5_shelf 117 = .ok (.aaload, 1) := by decide +kernel
theorem dX5_shelf_118 : decode cX5_shelf 118 = .ok (.invokevirtual 252, 3) := by decide +kernel
theorem dX5_shelf_121 : decode cX5_shelf 121 = .ok (.iconst 1, 1) := by decide +kernel
theorem dX5_shelf_122 : decode cX5_shelf 122 = .ok (.ireturn, 1) := by decide +kernel
set_option maxRecDepth 20000 in
theorem ggX5_taken_X5_isShelf : GoodIn wsX5_taken wsX5_isShelf := goodIn_r _ [11, 12, 13, 10, 14] (by decide +kernel) (by decide +kernel)
set_option maxRecDepth 20000 in
theorem gX5_taken_X5_isShelf : GoodIn wsX5_taken (va_wsS RX5 243 yX5_isShelf wsX5_isShelf) := goodIn_app (goodIn_of _ (by decide +kernel)) ggX5_taken_X5_isShelf
set_option maxRecDepth 20000 in
theorem ggX5_taken_X5_isKind : GoodIn wsX5_taken wsX5_isKind := goodIn_r _ [17, 12, 13, 10, 14] (by decide +kernel) (by decide +kernel)
set_option maxRecDepth 20000 in
theorem gX5_taken_X5_isKind : GoodIn wsX5_taken (va_wsS RX5 92 yX5_isKind wsX5_isKind) := goodIn_app (goodIn_of _ (by decide +kernel)) ggX5_taken_X5_isKind
set_option maxRecDepth 20000 in
theorem ggX5_taken_X5_isIn : GoodIn wsX5_taken wsX5_isIn := goodIn_r _ [14] (by decide +kernel) (by decide +kernel)
set_option maxRecDepth 20000 in
theorem gX5_taken_X5_isIn : GoodIn wsX5_taken (va_wsS RX5 79 yX5_isIn wsX5_isIn) := goodIn_app (goodIn_of _ (by decide +kernel)) ggX5_taken_X5_isIn
set_option maxRecDepth 20000 in
theorem ggX5_taken_X5_holdsPerson : GoodIn wsX5_taken wsX5_holdsPerson := goodIn_r _ [21, 2, 5, 7, 22, 23, 24, 25, 26, 27, 13, 10, 14, 42, 43, 44, 45, 32, 33, 34, 35, 36, 37, 38, 39, 40, 41, 46, 47, 48, 49, 50, 51, 52, 53, 54, 55, 56, 57] (by decide +kernel) (by decide +kernel)
set_option maxRecDepth 20000 in
theorem gX5_taken_X5_holdsPerson : GoodIn wsX5_taken (wsV RX5 255 RX5 yX5_holdsPerson wsX5_holdsPerson) := goodIn_app (goodIn_of _ (by decide +kernel)) ggX5_taken_X5_holdsPerson
set_option maxRecDepth 20000 in
theorem ggX5_taken_X5_isUnder : GoodIn wsX5_taken wsX5_isUnder := goodIn_r _ [30, 31, 15, 16, 10, 17, 12, 13, 14] (by decide +kernel) (by decide +kernel)
set_option maxRecDepth 20000 in
theorem gX5_taken_X5_isUnder : GoodIn wsX5_taken (va_wsS RX5 267 yX5_isUnder wsX5_isUnder) := goodIn_app (goodIn_of _ (by decide +kernel)) ggX5_taken_X5_isUnder
theorem dX5_taken_0 : decode cX5_taken 0 = .ok (.iload_n 1, 1) := by decide +kernel
theorem dX5_taken_1 : decode cX5_taken 1 = .ok (.invokestatic 243, 3) := by decide +kernel
theorem dX5_taken_4 : decode cX5_taken 4 = .ok (.ifCond .eq 21, 3) := by decide +kernel
theorem dX5_taken_7 : decode cX5_taken 7 = .ok (.iload_n 2, 1) := by decide +kernel
theorem dX5_taken_8 : decode cX5_taken 8 = .ok (.invokestatic 92, 3) := by decide +kernel
theorem dX5_taken_11 : decode cX5_taken 11 = .ok (.ifCond .ne 16, 3) := by decide +kernel
theorem dX5_taken_14 : decode cX5_taken 14 = .ok (.iload_n 2, 1) := by decide +kernel
theorem dX5_taken_15 : decode cX5_taken 15 = .ok (.bipush 10, 2) := by decide +kernel
theorem dX5_taken_17 : decode cX5_taken 17 = .ok (.bipush 13, 2) := by decide +kernel
theorem dX5_taken_19 : decode cX5_taken 19 = .ok (.invokestatic 79, 3) := by decide +kernel
theorem dX5_taken_22 : decode cX5_taken 22 = .ok (.ifCond .ne 5, 3) := by decide +kernel
theorem dX5_taken_25 : decode cX5_taken 25 = .ok (.iconst (-1), 1) := by decide +kernel
theorem dX5_taken_26 : decode cX5_taken 26 = .ok (.ireturn, 1) := by decide +kernel
theorem dX5_taken_27 : decode cX5_taken 27 = .ok (.aload_n 0, 1) := by decide +kernel
theorem dX5_taken_28 : decode cX5_taken 28 = .ok (.getfield 41, 3) := by decide +kernel
theorem dX5_taken_31 : decode cX5_taken 31 = .ok (.iload_n 1, 1) := by decide +kernel
theorem dX5_taken_32 : decode cX5_taken 32 = .ok (.aaload, 1) := by decide +kernel
theorem dX5_taken_33 : decode cX5_taken 33 = .ok (.astore_n 3, 1) := by decide +kernel
theorem dX5_taken_34 : decode cX5_taken 34 = .ok (.aload_n 0, 1) := by decide +kernel
theorem dX5_taken_35 : decode cX5_taken 35 = .ok (.aload_n 3, 1) := by decide +kernel
theorem dX5_taken_36 : decode cX5_taken 36 = .ok (.invokevirtual 255, 3) := by decide +kernel
theorem dX5_taken_39 : decode cX5_taken 39 = .ok (.istore 4, 2) := by decide +kernel
theorem dX5_taken_41 : decode cX5_taken 41 = .ok (.iload 4, 2) := by decide +kernel
theorem dX5_taken_43 : decode cX5_taken 43 = .ok (.ifCond .ne 14, 3) := by decide +kernel
theorem dX5_taken_46 : decode cX5_taken 46 = .ok (.aload_n 3, 1) := by decide +kernel
theorem dX5_taken_47 : decode cX5_taken 47 = .ok (.getfield 259, 3) := by decide +kernel
theorem dX5_taken_50 : decode cX5_taken 50 = .ok (.iconst 1, 1) := by decide +kernel
theorem dX5_taken_51 : decode cX5_taken 51 = .ok (.if_icmp .eq 6, 3) := by decide +kernel
theorem dX5_taken_54 : decode cX5_taken 54 = .ok (.bipush (-11), 2) := by decide +kernel
theorem dX5_taken_56 : decode cX5_taken 56 = .ok (.ireturn, 1) := by decide +kernel
theorem dX5_taken_57 : decode cX5_taken 57 = .ok (.iload_n 2, 1) := by decide +kernel
theorem dX5_taken_58 : decode cX5_taken 58 = .ok (.bipush 10, 2) := by decide +kernel
theorem dX5_taken_60 : decode cX5_taken 60 = .ok (.if_icmp .lt 29, 3) := by decide +kernel
theorem dX5_taken_63 : decode cX5_taken 63 = .ok (.iload 4, 2) := by decide +kernel
theorem dX5_taken_65 : decode cX5_taken 65 = .ok (.ifCond .ne 21, 3) := by decide +kernel
theorem dX5_taken_68 : decode cX5_taken 68 = .ok (.aload_n 3, 1) := by decide +kernel
theorem dX5_taken_69 : decode cX5_taken 69 = .ok (.getfield 262, 3) := by decide +kernel
theorem dX5_taken_72 : decode cX5_taken 72 = .ok (.iload_n 2, 1) := by decide +kernel
theorem dX5_taken_73 : decode cX5_taken 73 = .ok (.bipush 10, 2) := by decide +kernel
theorem dX5_taken_75 : decode cX5_taken 75 = .ok (.isub, 1) := by decide +kernel
theorem dX5_taken_76 : decode cX5_taken 76 = .ok (.if_icmp .ne 10, 3) := by decide +kernel
theorem dX5_taken_79 : decode cX5_taken 79 = .ok (.aload_n 3, 1) := by decide +kernel
theorem dX5_taken_80 : decode cX5_taken 80 = .ok (.getfield 263, 3) := by decide +kernel
theorem dX5_taken_83 : decode cX5_taken 83 = .ok (.goto 5, 3) := by decide +kernel
theorem dX5_taken_86 : decode cX5_taken 86 = .ok (.bipush (-13), 2) := by decide +kernel
theorem dX5_taken_88 : decode cX5_taken 88 = .ok (.ireturn, 1) := by decide +kernel
theorem dX5_taken_89 : decode cX5_taken 89 = .ok (.iload 4, 2) := by decide +kernel
theorem dX5_taken_91 : decode cX5_taken 91 = .ok (.ifCond .eq 29, 3) := by decide +kernel
theorem dX5_taken_94 : decode cX5_taken 94 = .ok (.aload_n 0, 1) := by decide +kernel
theorem dX5_taken_95 : decode cX5_taken 95 = .ok (.getfield 10, 3) := by decide +kernel
theorem dX5_taken_98 : decode cX5_taken 98 = .ok (.getfield 106, 3) := by decide +kernel
theorem dX5_taken_101 : decode cX5_taken 101 = .ok (.aload_n 3, 1) := by decide +kernel
theorem dX5_taken_102 : decode cX5_taken 102 = .ok (.getfield 264, 3) := by decide +kernel
theorem dX5_taken_105 : decode cX5_taken 105 = .ok (.iaload, 1) := by decide +kernel
theorem dX5_taken_106 : decode cX5_taken 106 = .ok (.iload_n 2, 1) := by decide +kernel
theorem dX5_taken_107 : decode cX5_taken 107 = .ok (.invokestatic 267, 3) := by decide +kernel
theorem dX5_taken_110 : decode cX5_taken 110 = .ok (.ifCond .eq 10, 3) := by decide +kernel
theorem dX5_taken_113 : decode cX5_taken 113 = .ok (.aload_n 3, 1) := by decide +kernel
theorem dX5_taken_114 : decode cX5_taken 114 = .ok (.getfield 264, 3) := by decide +kernel
theorem dX5_taken_117 : decode cX5_taken 117 = .ok (.goto 5, 3) := by decide +kernel
theorem dX5_taken_120 : decode cX5_taken 120 = .ok (.bipush (-13), 2) := by decide +kernel
theorem dX5_taken_122 : decode cX5_taken 122 = .ok (.ireturn, 1) := by decide +kernel
set_option maxRecDepth 20000 in
theorem ggX5_act_X5_isShelf : GoodIn wsX5_act wsX5_isShelf := goodIn_r _ [11, 12, 13, 10, 14] (by decide +kernel) (by decide +kernel)
set_option maxRecDepth 20000 in
theorem gX5_act_X5_isShelf : GoodIn wsX5_act (va_wsS RX5 243 yX5_isShelf wsX5_isShelf) := goodIn_app (goodIn_of _ (by decide +kernel)) ggX5_act_X5_isShelf
set_option maxRecDepth 20000 in
theorem ggX5_act_X5_isIn : GoodIn wsX5_act wsX5_isIn := goodIn_r _ [14] (by decide +kernel) (by decide +kernel)
set_option maxRecDepth 20000 in
theorem gX5_act_X5_isIn : GoodIn wsX5_act (va_wsS RX5 79 yX5_isIn wsX5_isIn) := goodIn_app (goodIn_of _ (by decide +kernel)) ggX5_act_X5_isIn
set_option maxRecDepth 20000 in
theorem ggX5_act_X5_holdsPerson : GoodIn wsX5_act wsX5_holdsPerson := goodIn_r _ [18, 19, 5, 4, 20, 21, 22, 23, 24, 25, 13, 10, 14, 66, 67, 68, 69, 50, 51, 52, 53, 54, 55, 56, 57, 58, 59, 70, 71, 72, 73, 74, 75, 76, 77, 78, 79, 80, 81] (by decide +kernel) (by decide +kernel)
set_option maxRecDepth 20000 in
theorem gX5_act_X5_holdsPerson : GoodIn wsX5_act (wsV RX5 255 RX5 yX5_holdsPerson wsX5_holdsPerson) := goodIn_app (goodIn_of _ (by decide +kernel)) ggX5_act_X5_holdsPerson
set_option maxRecDepth 20000 in
theorem ggX5_act_X0_play : GoodIn wsX5_act wsX0_play := goodIn_r _ [30, 31, 32, 33, 34, 35, 36, 37, 38, 29, 39, 40, 13, 10, 14, 41, 42, 43, 44, 45, 46, 47, 48, 49, 60, 61, 62, 63, 64, 65] (by decide +kernel) (by decide +kernel)
set_option maxRecDepth 20000 in
theorem gX5_act_X0_play : GoodIn wsX5_act (wsV RX5 273 RX0 yX0_play wsX0_play) := goodIn_app (goodIn_of _ (by decide +kernel)) ggX5_act_X0_play
theorem dX5_act_0 : decode cX5_act 0 = .ok (.aload_n 0, 1) := by decide +kernel
theorem dX5_act_1 : decode cX5_act 1 = .ok (.getfield 48, 3) := by decide +kernel
theorem dX5_act_4 : decode cX5_act 4 = .ok (.iconst 0, 1) := by decide +kernel
theorem dX5_act_5 : decode cX5_act 5 = .ok (.putfield 270, 3) := by decide +kernel
theorem dX5_act_8 : decode cX5_act 8 = .ok (.iload_n 1, 1) := by decide +kernel
theorem dX5_act_9 : decode cX5_act 9 = .ok (.invokestatic 243, 3) := by decide +kernel
theorem dX5_act_12 : decode cX5_act 12 = .ok (.ifCond .eq 25, 3) := by decide +kernel
theorem dX5_act_15 : decode cX5_act 15 = .ok (.iload_n 2, 1) := by decide +kernel
theorem dX5_act_16 : decode cX5_act 16 = .ok (.iconst 0, 1) := by decide +kernel
theorem dX5_act_17 : decode cX5_act 17 = .ok (.iconst 3, 1) := by decide +kernel
theorem dX5_act_18 : decode cX5_act 18 = .ok (.invokestatic 79, 3) := by decide +kernel
theorem dX5_act_21 : decode cX5_act 21 = .ok (.ifCond .eq 16, 3) := by decide +kernel
theorem dX5_act_24 : decode cX5_act 24 = .ok (.aload_n 0, 1) := by decide +kernel
theorem dX5_act_25 : decode cX5_act 25 = .ok (.aload_n 0, 1) := by decide +kernel
theorem dX5_act_26 : decode cX5_act 26 = .ok (.getfield 41, 3) := by decide +kernel
theorem dX5_act_29 : decode cX5_act 29 = .ok (.iload_n 1, 1) := by decide +kernel
theorem dX5_act_30 : decode cX5_act 30 = .ok (.aaload, 1) := by decide +kernel
theorem dX5_act_31 : decode cX5_act 31 = .ok (.invokevirtual 255, 3) := by decide +kernel
theorem dX5_act_34 : decode cX5_act 34 = .ok (.ifCond .ne 5, 3) := by decide +kernel
theorem dX5_act_37 : decode cX5_act 37 = .ok (.iconst 0, 1) := by decide +kernel
theorem dX5_act_38 : decode cX5_act 38 = .ok (.ireturn, 1) := by decide +kernel
theorem dX5_act_39 : decode cX5_act 39 = .ok (.aload_n 0, 1) := by decide +kernel
theorem dX5_act_40 : decode cX5_act 40 = .ok (.getfield 41, 3) := by decide +kernel
theorem dX5_act_43 : decode cX5_act 43 = .ok (.iload_n 1, 1) := by decide +kernel
theorem dX5_act_44 : decode cX5_act 44 = .ok (.aaload, 1) := by decide +kernel
theorem dX5_act_45 : decode cX5_act 45 = .ok (.getfield 264, 3) := by decide +kernel
theorem dX5_act_48 : decode cX5_act 48 = .ok (.istore 4, 2) := by decide +kernel
theorem dX5_act_50 : decode cX5_act 50 = .ok (.aload_n 0, 1) := by decide +kernel
theorem dX5_act_51 : decode cX5_act 51 = .ok (.getfield 48, 3) := by decide +kernel
theorem dX5_act_54 : decode cX5_act 54 = .ok (.aload_n 0, 1) := by decide +kernel
theorem dX5_act_55 : decode cX5_act 55 = .ok (.getfield 10, 3) := by decide +kernel
theorem dX5_act_58 : decode cX5_act 58 = .ok (.getfield 106, 3) := by decide +kernel
theorem dX5_act_61 : decode cX5_act 61 = .ok (.iload 4, 2) := by decide +kernel
theorem dX5_act_63 : decode cX5_act 63 = .ok (.iaload, 1) := by decide +kernel
theorem dX5_act_64 : decode cX5_act 64 = .ok (.iload 4, 2) := by decide +kernel
theorem dX5_act_66 : decode cX5_act 66 = .ok (.aload_n 0, 1) := by decide +kernel
theorem dX5_act_67 : decode cX5_act 67 = .ok (.getfield 10, 3) := by decide +kernel
theorem dX5_act_70 : decode cX5_act 70 = .ok (.getfield 109, 3) := by decide +kernel
theorem dX5_act_73 : decode cX5_act 73 = .ok (.iload 4, 2) := by decide +kernel
theorem dX5_act_75 : decode cX5_act 75 = .ok (.iaload, 1) := by decide +kernel
theorem dX5_act_76 : decode cX5_act 76 = .ok (.iload_n 2, 1) := by decide +kernel
theorem dX5_act_77 : decode cX5_act 77 = .ok (.iload_n 3, 1) := by decide +kernel
theorem dX5_act_78 : decode cX5_act 78 = .ok (.invokevirtual 273, 3) := by decide +kernel
theorem dX5_act_81 : decode cX5_act 81 = .ok (.ireturn, 1) := by decide +kernel
set_option maxRecDepth 20000 in
theorem ggX5_trace_X5_isIn : GoodIn wsX5_trace wsX5_isIn := goodIn_r _ [7] (by decide +kernel) (by decide +kernel)
set_option maxRecDepth 20000 in
theorem gX5_trace_X5_isIn : GoodIn wsX5_trace (va_wsS RX5 79 yX5_isIn wsX5_isIn) := goodIn_app (goodIn_of _ (by decide +kernel)) ggX5_trace_X5_isIn
theorem dX5_trace_0 : decode cX5_trace 0 = .ok (.iload_n 1, 1) := by decide +kernel
theorem dX5_trace_1 : decode cX5_trace 1 = .ok (.iconst 0, 1) := by decide +kernel
theorem dX5_trace_2 : decode cX5_trace 2 = .ok (.aload_n 0, 1) := by decide +kernel
theorem dX5_trace_3 : decode cX5_trace 3 = .ok (.getfield 48, 3) := by decide +kernel
theorem dX5_trace_6 : decode cX5_trace 6 = .ok (.getfield 270, 3) := by decide +kernel
theorem dX5_trace_9 : decode cX5_trace 9 = .ok (.iconst 1, 1) := by decide +kernel
theorem dX5_trace_10 : decode cX5_trace 10 = .ok (.isub, 1) := by decide +kernel
theorem dX5_trace_11 : decode cX5_trace 11 = .ok (.invokestatic 79, 3) := by decide +kernel
theorem dX5_trace_14 : decode cX5_trace 14 = .ok (.ifCond .eq 15, 3) := by decide +kernel
theorem dX5_trace_17 : decode cX5_trace 17 = .ok (.aload_n 0, 1) := by decide +kernel
theorem dX5_trace_18 : decode cX5_trace 18 = .ok (.getfield 48, 3) := by decide +kernel
theorem dX5_trace_21 : decode cX5_trace 21 = .ok (.getfield 277, 3) := by decide +kernel
theorem dX5_trace_24 : decode cX5_trace 24 = .ok (.iload_n 1, 1) := by decide +kernel
theorem dX5_trace_25 : decode cX5_trace 25 = .ok (.iaload, 1) := by decide +kernel
theorem dX5_trace_26 : decode cX5_trace 26 = .ok (.goto 5, 3) := by decide +kernel
theorem dX5_trace_29 : decode cX5_trace 29 = .ok (.bipush (-3), 2) := by decide +kernel
theorem dX5_trace_31 : decode cX5_trace 31 = .ok (.ireturn, 1) := by decide +kernel
set_option maxRecDepth 20000 in
theorem ggX5_holdsPerson_X4_has : GoodIn wsX5_holdsPerson wsX4_has := goodIn_r _ [8, 9, 10, 11, 12, 27, 28, 29, 30, 31, 32, 33, 34, 35, 36, 37, 38] (by decide +kernel) (by decide +kernel)
set_option maxRecDepth 20000 in
theorem gX5_holdsPerson_X4_has : GoodIn wsX5_holdsPerson (wsV RX5 103 RX4 yX4_has wsX4_has) := goodIn_app (goodIn_of _ (by decide +kernel)) ggX5_holdsPerson_X4_has
theorem dX5_holdsPerson_0 : decode cX5_holdsPerson 0 = .ok (.aload_n 1, 1) := by decide +kernel
theorem dX5_holdsPerson_1 : decode cX5_holdsPerson 1 = .ok (.getfield 259, 3) := by decide +kernel
theorem dX5_holdsPerson_4 : decode cX5_holdsPerson 4 = .ok (.ifCond .ne 21, 3) := by decide +kernel
theorem dX5_holdsPerson_7 : decode cX5_holdsPerson 7 = .ok (.aload_n 0, 1) := by decide +kernel
theorem dX5_holdsPerson_8 : decode cX5_holdsPerson 8 = .ok (.getfield 10, 3) := by decide +kernel
theorem dX5_holdsPerson_11 : decode cX5_holdsPerson 11 = .ok (.aload_n 1, 1) := by decide +kernel
theorem dX5_holdsPerson_12 : decode cX5_holdsPerson 12 = .ok (.getfield 264, 3) := by decide +kernel
theorem dX5_holdsPerson_15 : decode cX5_holdsPerson 15 = .ok (.invokevirtual 103, 3) := by decide +kernel
theorem dX5_holdsPerson_18 : decode cX5_holdsPerson 18 = .ok (.ifCond .eq 7, 3) := by decide +kernel
theorem dX5_holdsPerson_21 : decode cX5_holdsPerson 21 = .ok (.iconst 1, 1) := by decide +kernel
theorem dX5_holdsPerson_22 : decode cX5_holdsPerson 22 = .ok (.goto 4, 3) := by decide +kernel
theorem dX5_holdsPerson_25 : decode cX5_holdsPerson 25 = .ok (.iconst 0, 1) := by decide +kernel
theorem dX5_holdsPerson_26 : decode cX5_holdsPerson 26 = .ok (.ireturn, 1) := by decide +kernel
set_option maxRecDepth 20000 in
theorem ggX5_isUnder_X5_isKind : GoodIn wsX5_isUnder wsX5_isKind := goodIn_r _ [5, 6, 7, 4, 8] (by decide +kernel) (by decide +kernel)
set_option maxRecDepth 20000 in
theorem gX5_isUnder_X5_isKind : GoodIn wsX5_isUnder (va_wsS RX5 92 yX5_isKind wsX5_isKind) := goodIn_app (goodIn_of _ (by decide +kernel)) ggX5_isUnder_X5_isKind
theorem dX5_isUnder_0 : decode cX5_isUnder 0 = .ok (.iload_n 0, 1) := by decide +kernel
theorem dX5_isUnder_1 : decode cX5_isUnder 1 = .ok (.istore_n 2, 1) := by decide +kernel
theorem dX5_isUnder_2 : decode cX5_isUnder 2 = .ok (.iconst 0, 1) := by decide +kernel
theorem dX5_isUnder_3 : decode cX5_isUnder 3 = .ok (.istore_n 3, 1) := by decide +kernel
theorem dX5_isUnder_4 : decode cX5_isUnder 4 = .ok (.iload_n 3, 1) := by decide +kernel
theorem dX5_isUnder_5 : decode cX5_isUnder 5 = .ok (.bipush 6, 2) := by decide +kernel
theorem dX5_isUnder_7 : decode cX5_isUnder 7 = .ok (.if_icmp .ge 29, 3) := by decide +kernel
theorem dX5_isUnder_10 : decode cX5_isUnder 10 = .ok (.iload_n 2, 1) := by decide +kernel
theorem dX5_isUnder_11 : decode cX5_isUnder 11 = .ok (.invokestatic 92, 3) := by decide +kernel
theorem dX5_isUnder_14 : decode cX5_isUnder 14 = .ok (.ifCond .eq 22, 3) := by decide +kernel
theorem dX5_isUnder_17 : decode cX5_isUnder 17 = .ok (.iload_n 2, 1) := by decide +kernel
theorem dX5_isUnder_18 : decode cX5_isUnder 18 = .ok (.iload_n 1, 1) := by decide +kernel
theorem dX5_isUnder_19 : decode cX5_isUnder 19 = .ok (.if_icmp .ne 5, 3) := by decide +kernel
theorem dX5_isUnder_22 : decode cX5_isUnder 22 = .ok (.iconst 1, 1) := by decide +kernel
theorem dX5_isUnder_23 : decode cX5_isUnder 23 = .ok (.ireturn, 1) := by decide +kernel
theorem dX5_isUnder_24 : decode cX5_isUnder 24 = .ok (.getstatic 280, 3) := by decide +kernel
theorem dX5_isUnder_27 : decode cX5_isUnder 27 = .ok (.iload_n 2, 1) := by decide +kernel
theorem dX5_isUnder_28 : decode cX5_isUnder 28 = .ok (.iaload, 1) := by decide +kernel
theorem dX5_isUnder_29 : decode cX5_isUnder 29 = .ok (.istore_n 2, 1) := by decide +kernel
theorem dX5_isUnder_30 : decode cX5_isUnder 30 = .ok (.iinc 3 1, 3) := by decide +kernel
theorem dX5_isUnder_33 : decode cX5_isUnder 33 = .ok (.goto (-29), 3) := by decide +kernel
theorem dX5_isUnder_36 : decode cX5_isUnder 36 = .ok (.iconst 0, 1) := by decide +kernel
theorem dX5_isUnder_37 : decode cX5_isUnder 37 = .ok (.ireturn, 1) := by decide +kernel
set_option maxRecDepth 20000 in
theorem ggX5_many_X4_soundingSet : GoodIn wsX5_many wsX4_soundingSet := goodIn_r _ [12, 13, 14, 15, 16, 11, 17, 18, 19, 20, 21, 22, 23, 24, 25, 26, 27, 28, 29, 30, 31, 32, 33, 34, 35, 67, 68, 69, 70, 71, 72, 73, 74, 75, 76, 77, 78] (by decide +kernel) (by decide +kernel)
set_option maxRecDepth 20000 in
theorem gX5_many_X4_soundingSet : GoodIn wsX5_many (wsV RX5 131 RX4 yX4_soundingSet wsX4_soundingSet) := goodIn_app (goodIn_of _ (by decide +kernel)) ggX5_many_X4_soundingSet
set_option maxRecDepth 20000 in
theorem ggX5_many_J6_bitCount_0f7a4 : GoodIn wsX5_many wsJ6_bitCount_0f7a4 := goodIn_r _ [39, 40, 41, 42] (by decide +kernel) (by decide +kernel)
set_option maxRecDepth 20000 in
theorem gX5_many_J6_bitCount_0f7a4 : GoodIn wsX5_many (va_wsS RX5 184 yJ6_bitCount_0f7a4 wsJ6_bitCount_0f7a4) := goodIn_app (goodIn_of _ (by decide +kernel)) ggX5_many_J6_bitCount_0f7a4
set_option maxRecDepth 20000 in
theorem ggX5_many_X4_cornersTaken : GoodIn wsX5_many wsX4_cornersTaken := goodIn_r _ [46, 47, 48, 49, 11, 50, 13, 51, 67, 68, 69, 70, 71, 72, 73, 74, 75, 76, 77, 78] (by decide +kernel) (by decide +kernel)
set_option maxRecDepth 20000 in
theorem gX5_many_X4_cornersTaken : GoodIn wsX5_many (wsV RX5 283 RX4 yX4_cornersTaken wsX4_cornersTaken) := goodIn_app (goodIn_of _ (by decide +kernel)) ggX5_many_X4_cornersTaken
set_option maxRecDepth 20000 in
theorem ggX5_many_X4_thoseWithNoise : GoodIn wsX5_many wsX4_thoseWithNoise := goodIn_r _ [55, 13, 56, 67, 68, 69, 70, 71, 72, 73, 74, 75, 76, 77, 78] (by decide +kernel) (by decide +kernel)
set_option maxRecDepth 20000 in
theorem gX5_many_X4_thoseWithNoise : GoodIn wsX5_many (wsV RX5 286 RX4 yX4_thoseWithNoise wsX4_thoseWithNoise) := goodIn_app (goodIn_of _ (by decide +kernel)) ggX5_many_X4_thoseWithNoise
theorem dX5_many_0 : decode cX5_many 0 = .ok (.iload_n 1, 1) := by decide +kernel
theorem dX5_many_1 : decode cX5_many 1 = .ok (.tableswitch 99 0 6 #[43, 51, 62, 70, 78, 83, 91], 43) := by decide +kernel
theorem dX5_many_44 : decode cX5_many 44 = .ok (.aload_n 0, 1) := by decide +kernel
theorem dX5_many_45 : decode cX5_many 45 = .ok (.getfield 10, 3) := by decide +kernel
theorem dX5_many_48 : decode cX5_many 48 = .ok (.getfield 76, 3) := by decide +kernel
theorem dX5_many_51 : decode cX5_many 51 = .ok (.ireturn, 1) := by decide +kernel
theorem dX5_many_52 : decode cX5_many 52 = .ok (.aload_n 0, 1) := by decide +kernel
theorem dX5_many_53 : decode cX5_many 53 = .ok (.getfield 10, 3) := by decide +kernel
theorem dX5_many_56 : decode cX5_many 56 = .ok (.invokevirtual 131, 3) := by decide +kernel
theorem dX5_many_59 : decode cX5_many 59 = .ok (.invokestatic 184, 3) := by decide +kernel
theorem dX5_many_62 : decode cX5_many 62 = .ok (.ireturn, 1) := by decide +kernel
theorem dX5_many_63 : decode cX5_many 63 = .ok (.aload_n 0, 1) := by decide +kernel
theorem dX5_many_64 : decode cX5_many 64 = .ok (.getfield 10, 3) := by decide +kernel
theorem dX5_many_67 : decode cX5_many 67 = .ok (.invokevirtual 283, 3) := by decide +kernel
theorem dX5_many_70 : decode cX5_many 70 = .ok (.ireturn, 1) := by decide +kernel
theorem dX5_many_71 : decode cX5_many 71 = .ok (.aload_n 0, 1) := by decide +kernel
theorem dX5_many_72 : decode cX5_many 72 = .ok (.getfield 10, 3) := by decide +kernel
theorem dX5_many_75 : decode cX5_many 75 = .ok (.invokevirtual 286, 3) := by decide +kernel
theorem dX5_many_78 : decode cX5_many 78 = .ok (.ireturn, 1) := by decide +kernel
theorem dX5_many_79 : decode cX5_many 79 = .ok (.aload_n 0, 1) := by decide +kernel
theorem dX5_many_80 : decode cX5_many 80 = .ok (.getfield 73, 3) := by decide +kernel
theorem dX5_many_83 : decode cX5_many 83 = .ok (.ireturn, 1) := by decide +kernel
theorem dX5_many_84 : decode cX5_many 84 = .ok (.aload_n 0, 1) := by decide +kernel
theorem dX5_many_85 : decode cX5_many 85 = .ok (.getfield 25, 3) := by decide +kernel
theorem dX5_many_88 : decode cX5_many 88 = .ok (.getfield 54, 3) := by decide +kernel
theorem dX5_many_91 : decode cX5_many 91 = .ok (.ireturn, 1) := by decide +kernel
theorem dX5_many_92 : decode cX5_many 92 = .ok (.aload_n 0, 1) := by decide +kernel
theorem dX5_many_93 : decode cX5_many 93 = .ok (.getfield 48, 3) := by decide +kernel
theorem dX5_many_96 : decode cX5_many 96 = .ok (.getfield 270, 3) := by decide +kernel
theorem dX5_many_99 : decode cX5_many 99 = .ok (.ireturn, 1) := by decide +kernel
theorem dX5_many_100 : decode cX5_many 100 = .ok (.iconst (-1), 1) := by decide +kernel
theorem dX5_many_101 : decode cX5_many 101 = .ok (.ireturn, 1) := by decide +kernel
set_option maxRecDepth 20000 in
theorem ggX5_keep_X4_copyFrom : GoodIn wsX5_keep wsX4_copyFrom := goodIn_r _ [8, 9, 10, 11, 12, 13, 14, 15, 16, 17, 18, 19, 20, 21, 22, 23, 24, 35, 36, 37, 38, 39, 40, 41, 42, 43, 44, 45, 46] (by decide +kernel) (by decide +kernel)
set_option maxRecDepth 20000 in
theorem gX5_keep_X4_copyFrom : GoodIn wsX5_keep (wsV RX5 62 RX4 yX4_copyFrom wsX4_copyFrom) := goodIn_app (goodIn_of _ (by decide +kernel)) ggX5_keep_X4_copyFrom
theorem dX5_keep_0 : decode cX5_keep 0 = .ok (.aload_n 0, 1) := by decide +kernel
theorem dX5_keep_1 : decode cX5_keep 1 = .ok (.getfield 19, 3) := by decide +kernel
theorem dX5_keep_4 : decode cX5_keep 4 = .ok (.aload_n 0, 1) := by decide +kernel
theorem dX5_keep_5 : decode cX5_keep 5 = .ok (.getfield 10, 3) := by decide +kernel
theorem dX5_keep_8 : decode cX5_keep 8 = .ok (.invokevirtual 62, 3) := by decide +kernel
theorem dX5_keep_11 : decode cX5_keep 11 = .ok (.aload_n 0, 1) := by decide +kernel
theorem dX5_keep_12 : decode cX5_keep 12 = .ok (.iconst 1, 1) := by decide +kernel
theorem dX5_keep_13 : decode cX5_keep 13 = .ok (.putfield 289, 3) := by decide +kernel
theorem dX5_keep_16 : decode cX5_keep 16 = .ok (.iconst 1, 1) := by decide +kernel
theorem dX5_keep_17 : decode cX5_keep 17 = .ok (.ireturn, 1) := by decide +kernel
set_option maxRecDepth 20000 in
theorem ggX5_again_X4_copyFrom : GoodIn wsX5_again wsX4_copyFrom := goodIn_r _ [9, 10, 11, 12, 13, 14, 15, 16, 17, 18, 19, 20, 21, 22, 23, 24, 25, 36, 37, 38, 39, 40, 41, 42, 43, 44, 45, 46, 47] (by decide +kernel) (by decide +kernel)
set_option maxRecDepth 20000 in
theorem gX5_again_X4_copyFrom : GoodIn wsX5_again (wsV RX5 62 RX4 yX4_copyFrom wsX4_copyFrom) := goodIn_app (goodIn_of _ (by decide +kernel)) ggX5_again_X4_copyFrom
theorem dX5_again_0 : decode cX5_again 0 = .ok (.aload_n 0, 1) := by decide +kernel
theorem dX5_again_1 : decode cX5_again 1 = .ok (.getfield 289, 3) := by decide +kernel
theorem dX5_again_4 : decode cX5_again 4 = .ok (.ifCond .ne 6, 3) := by decide +kernel
theorem dX5_again_7 : decode cX5_again 7 = .ok (.bipush (-3), 2) := by decide +kernel
theorem dX5_again_9 : decode cX5_again 9 = .ok (.ireturn, 1) := by decide +kernel
theorem dX5_again_10 : decode cX5_again 10 = .ok (.aload_n 0, 1) := by decide +kernel
theorem dX5_again_11 : decode cX5_again 11 = .ok (.getfield 10, 3) := by decide +kernel
theorem dX5_again_14 : decode cX5_again 14 = .ok (.aload_n 0, 1) := by decide +kernel
theorem dX5_again_15 : decode cX5_again 15 = .ok (.getfield 19, 3) := by decide +kernel
theorem dX5_again_18 : decode cX5_again 18 = .ok (.invokevirtual 62, 3) := by decide +kernel
theorem dX5_again_21 : decode cX5_again 21 = .ok (.aload_n 0, 1) := by decide +kernel
theorem dX5_again_22 : decode cX5_again 22 = .ok (.getfield 10, 3) := by decide +kernel
theorem dX5_again_25 : decode cX5_again 25 = .ok (.getfield 76, 3) := by decide +kernel
theorem dX5_again_28 : decode cX5_again 28 = .ok (.ireturn, 1) := by decide +kernel
theorem dX5_isIn_0 : decode cX5_isIn 0 = .ok (.iload_n 0, 1) := by decide +kernel
theorem dX5_isIn_1 : decode cX5_isIn 1 = .ok (.iload_n 1, 1) := by decide +kernel
theorem dX5_isIn_2 : decode cX5_isIn 2 = .ok (.if_icmp .lt 12, 3) := by decide +kernel
theorem dX5_isIn_5 : decode cX5_isIn 5 = .ok (.iload_n 0, 1) := by decide +kernel
theorem dX5_isIn_6 : decode cX5_isIn 6 = .ok (.iload_n 2, 1) := by decide +kernel
theorem dX5_isIn_7 : decode cX5_isIn 7 = .ok (.if_icmp .gt 7, 3) := by decide +kernel
theorem dX5_isIn_10 : decode cX5_isIn 10 = .ok (.iconst 1, 1) := by decide +kernel
theorem dX5_isIn_11 : decode cX5_isIn 11 = .ok (.goto 4, 3) := by decide +kernel
theorem dX5_isIn_14 : decode cX5_isIn 14 = .ok (.iconst 0, 1) := by decide +kernel
theorem dX5_isIn_15 : decode cX5_isIn 15 = .ok (.ireturn, 1) := by decide +kernel
set_option maxRecDepth 20000 in
theorem ggX5_isKind_X5_isIn : GoodIn wsX5_isKind wsX5_isIn := goodIn_r _ [4] (by decide +kernel) (by decide +kernel)
set_option maxRecDepth 20000 in
theorem gX5_isKind_X5_isIn : GoodIn wsX5_isKind (va_wsS RX5 79 yX5_isIn wsX5_isIn) := goodIn_app (goodIn_of _ (by decide +kernel)) ggX5_isKind_X5_isIn
theorem dX5_isKind_0 : decode cX5_isKind 0 = .ok (.iload_n 0, 1) := by decide +kernel
theorem dX5_isKind_1 : decode cX5_isKind 1 = .ok (.iconst 0, 1) := by decide +kernel
theorem dX5_isKind_2 : decode cX5_isKind 2 = .ok (.iconst 5, 1) := by decide +kernel
theorem dX5_isKind_3 : decode cX5_isKind 3 = .ok (.invokestatic 79, 3) := by decide +kernel
theorem dX5_isKind_6 : decode cX5_isKind 6 = .ok (.ireturn, 1) := by decide +kernel
set_option maxRecDepth 20000 in
theorem ggX5_isCorner_X5_isIn : GoodIn wsX5_isCorner wsX5_isIn := goodIn_r _ [4] (by decide +kernel) (by decide +kernel)
set_option maxRecDepth 20000 in
theorem gX5_isCorner_X5_isIn : GoodIn wsX5_isCorner (va_wsS RX5 79 yX5_isIn wsX5_isIn) := goodIn_app (goodIn_of _ (by decide +kernel)) ggX5_isCorner_X5_isIn
theorem dX5_isCorner_0 : decode cX5_isCorner 0 = .ok (.iload_n 0, 1) := by decide +kernel
theorem dX5_isCorner_1 : decode cX5_isCorner 1 = .ok (.iconst 0, 1) := by decide +kernel
theorem dX5_isCorner_2 : decode cX5_isCorner 2 = .ok (.bipush 11, 2) := by decide +kernel
theorem dX5_isCorner_4 : decode cX5_isCorner 4 = .ok (.invokestatic 79, 3) := by decide +kernel
theorem dX5_isCorner_7 : decode cX5_isCorner 7 = .ok (.ireturn, 1) := by decide +kernel
set_option maxRecDepth 20000 in
theorem ggX5_isSheet_X5_isIn : GoodIn wsX5_isSheet wsX5_isIn := goodIn_r _ [4] (by decide +kernel) (by decide +kernel)
set_option maxRecDepth 20000 in
theorem gX5_isSheet_X5_isIn : GoodIn wsX5_isSheet (va_wsS RX5 79 yX5_isIn wsX5_isIn) := goodIn_app (goodIn_of _ (by decide +kernel)) ggX5_isSheet_X5_isIn
theorem dX5_isSheet_0 : decode cX5_isSheet 0 = .ok (.iload_n 0, 1) := by decide +kernel
theorem dX5_isSheet_1 : decode cX5_isSheet 1 = .ok (.iconst 0, 1) := by decide +kernel
theorem dX5_isSheet_2 : decode cX5_isSheet 2 = .ok (.iconst 3, 1) := by decide +kernel
theorem dX5_isSheet_3 : decode cX5_isSheet 3 = .ok (.invokestatic 79, 3) := by decide +kernel
theorem dX5_isSheet_6 : decode cX5_isSheet 6 = .ok (.ireturn, 1) := by decide +kernel
set_option maxRecDepth 20000 in
theorem ggX5_isShelf_X5_isIn : GoodIn wsX5_isShelf wsX5_isIn := goodIn_r _ [4] (by decide +kernel) (by decide +kernel)
set_option maxRecDepth 20000 in
theorem gX5_isShelf_X5_isIn : GoodIn wsX5_isShelf (va_wsS RX5 79 yX5_isIn wsX5_isIn) := goodIn_app (goodIn_of _ (by decide +kernel)) ggX5_isShelf_X5_isIn
theorem dX5_isShelf_0 : decode cX5_isShelf 0 = .ok (.iload_n 0, 1) := by decide +kernel
theorem dX5_isShelf_1 : decode cX5_isShelf 1 = .ok (.iconst 0, 1) := by decide +kernel
theorem dX5_isShelf_2 : decode cX5_isShelf 2 = .ok (.iconst 3, 1) := by decide +kernel
theorem dX5_isShelf_3 : decode cX5_isShelf 3 = .ok (.invokestatic 79, 3) := by decide +kernel
theorem dX5_isShelf_6 : decode cX5_isShelf 6 = .ok (.ireturn, 1) := by decide +kernel
set_option maxRecDepth 20000 in
theorem ggX5_isTrial_X4_has : GoodIn wsX5_isTrial wsX4_has := goodIn_r _ [6, 7, 8, 9, 10, 22, 23, 24, 25, 26, 27, 28, 29, 30, 31, 32, 33] (by decide +kernel) (by decide +kernel)
set_option maxRecDepth 20000 in
theorem gX5_isTrial_X4_has : GoodIn wsX5_isTrial (wsV RX5 103 RX4 yX4_has wsX4_has) := goodIn_app (goodIn_of _ (by decide +kernel)) ggX5_isTrial_X4_has
set_option maxRecDepth 20000 in
theorem ggX5_isTrial_X5_isIn : GoodIn wsX5_isTrial wsX5_isIn := goodIn_r _ [10] (by decide +kernel) (by decide +kernel)
set_option maxRecDepth 20000 in
theorem gX5_isTrial_X5_isIn : GoodIn wsX5_isTrial (va_wsS RX5 79 yX5_isIn wsX5_isIn) := goodIn_app (goodIn_of _ (by decide +kernel)) ggX5_isTrial_X5_isIn
theorem dX5_isTrial_0 : decode cX5_isTrial 0 = .ok (.aload_n 0, 1) := by decide +kernel
theorem dX5_isTrial_1 : decode cX5_isTrial 1 = .ok (.getfield 10, 3) := by decide +kernel
theorem dX5_isTrial_4 : decode cX5_isTrial 4 = .ok (.iload_n 1, 1) := by decide +kernel
theorem dX5_isTrial_5 : decode cX5_isTrial 5 = .ok (.invokevirtual 103, 3) := by decide +kernel
theorem dX5_isTrial_8 : decode cX5_isTrial 8 = .ok (.ifCond .eq 16, 3) := by decide +kernel
theorem dX5_isTrial_11 : decode cX5_isTrial 11 = .ok (.iload_n 2, 1) := by decide +kernel
theorem dX5_isTrial_12 : decode cX5_isTrial 12 = .ok (.iconst 1, 1) := by decide +kernel
theorem dX5_isTrial_13 : decode cX5_isTrial 13 = .ok (.iload_n 3, 1) := by decide +kernel
theorem dX5_isTrial_14 : decode cX5_isTrial 14 = .ok (.invokestatic 79, 3) := by decide +kernel
theorem dX5_isTrial_17 : decode cX5_isTrial 17 = .ok (.ifCond .eq 7, 3) := by decide +kernel
theorem dX5_isTrial_20 : decode cX5_isTrial 20 = .ok (.iconst 1, 1) := by decide +kernel
theorem dX5_isTrial_21 : decode cX5_isTrial 21 = .ok (.goto 4, 3) := by decide +kernel
theorem dX5_isTrial_24 : decode cX5_isTrial 24 = .ok (.iconst 0, 1) := by decide +kernel
theorem dX5_isTrial_25 : decode cX5_isTrial 25 = .ok (.ireturn, 1) := by decide +kernel
