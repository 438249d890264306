/-! Decode rows. -/
theorem d_Own_copy_225 : decode prog_14_method_2_code 225 = .ok (.iload_n 2, 1) := by decide +kernel
theorem d_Own_copy_226 : decode prog_14_method_2_code 226 = .ok (.aload_n 0, 1) := by decide +kernel
theorem d_Own_copy_227 : decode prog_14_method_2_code 227 = .ok (.getfield 28, 3) := by decide +kernel
theorem d_Own_copy_230 : decode prog_14_method_2_code 230 = .ok (.iload_n 2, 1) := by decide +kernel
theorem d_Own_copy_231 : decode prog_14_method_2_code 231 = .ok (.iaload, 1) := by decide +kernel
theorem d_Own_copy_232 : decode prog_14_method_2_code 232 = .ok (.iastore, 1) := by decide +kernel
theorem d_Own_copy_233 : decode prog_14_method_2_code 233 = .ok (.iinc 2 1, 3) := by decide +kernel
theorem d_Own_copy_236 : decode prog_14_method_2_code 236 = .ok (.goto (-68), 3) := by decide +kernel
theorem d_Own_copy_239 : decode prog_14_method_2_code 239 = .ok (.iconst 0, 1) := by decide +kernel
theorem d_Own_copy_240 : decode prog_14_method_2_code 240 = .ok (.istore_n 2, 1) := by decide +kernel
theorem d_Own_copy_241 : decode prog_14_method_2_code 241 = .ok (.iload_n 2, 1) := by decide +kernel
theorem d_Own_copy_242 : decode prog_14_method_2_code 242 = .ok (.aload_n 0, 1) := by decide +kernel
theorem d_Own_copy_243 : decode prog_14_method_2_code 243 = .ok (.getfield 103, 3) := by decide +kernel
theorem d_Own_copy_246 : decode prog_14_method_2_code 246 = .ok (.if_icmp .ge 129, 3) := by decide +kernel
theorem d_Own_copy_249 : decode prog_14_method_2_code 249 = .ok (.aload_n 1, 1) := by decide +kernel
theorem d_Own_copy_250 : decode prog_14_method_2_code 250 = .ok (.getfield 31, 3) := by decide +kernel
theorem d_Own_copy_253 : decode prog_14_method_2_code 253 = .ok (.iload_n 2, 1) := by decide +kernel
theorem d_Own_copy_254 : decode prog_14_method_2_code 254 = .ok (.aload_n 0, 1) := by decide +kernel
theorem d_Own_copy_255 : decode prog_14_method_2_code 255 = .ok (.getfield 31, 3) := by decide +kernel
theorem d_Own_copy_258 : decode prog_14_method_2_code 258 = .ok (.iload_n 2, 1) := by decide +kernel
theorem d_Own_copy_259 : decode prog_14_method_2_code 259 = .ok (.iaload, 1) := by decide +kernel
theorem d_Own_copy_260 : decode prog_14_method_2_code 260 = .ok (.iastore, 1) := by decide +kernel
theorem d_Own_copy_261 : decode prog_14_method_2_code 261 = .ok (.aload_n 1, 1) := by decide +kernel
theorem d_Own_copy_262 : decode prog_14_method_2_code 262 = .ok (.getfield 34, 3) := by decide +kernel
theorem d_Own_copy_265 : decode prog_14_method_2_code 265 = .ok (.iload_n 2, 1) := by decide +kernel
theorem d_Own_copy_266 : decode prog_14_method_2_code 266 = .ok (.aload_n 0, 1) := by decide +kernel
theorem d_Own_copy_267 : decode prog_14_method_2_code 267 = .ok (.getfield 34, 3) := by decide +kernel
theorem d_Own_copy_270 : decode prog_14_method_2_code 270 = .ok (.iload_n 2, 1) := by decide +kernel
theorem d_Own_copy_271 : decode prog_14_method_2_code 271 = .ok (.iaload, 1) := by decide +kernel
theorem d_Own_copy_272 : decode prog_14_method_2_code 272 = .ok (.iastore, 1) := by decide +kernel
theorem d_Own_copy_273 : decode prog_14_method_2_code 273 = .ok (.aload_n 1, 1) := by decide +kernel
theorem d_Own_copy_274 : decode prog_14_method_2_code 274 = .ok (.getfield 37, 3) := by decide +kernel
theorem d_Own_copy_277 : decode prog_14_method_2_code 277 = .ok (.iload_n 2, 1) := by decide +kernel
theorem d_Own_copy_278 : decode prog_14_method_2_code 278 = .ok (.aload_n 0, 1) := by decide +kernel
theorem d_Own_copy_279 : decode prog_14_method_2_code 279 = .ok (.getfield 37, 3) := by decide +kernel
theorem d_Own_copy_282 : decode prog_14_method_2_code 282 = .ok (.iload_n 2, 1) := by decide +kernel
theorem d_Own_copy_283 : decode prog_14_method_2_code 283 = .ok (.iaload, 1) := by decide +kernel
theorem d_Own_copy_284 : decode prog_14_method_2_code 284 = .ok (.iastore, 1) := by decide +kernel
theorem d_Own_copy_285 : decode prog_14_method_2_code 285 = .ok (.aload_n 1, 1) := by decide +kernel
theorem d_Own_copy_286 : decode prog_14_method_2_code 286 = .ok (.getfield 40, 3) := by decide +kernel
theorem d_Own_copy_289 : decode prog_14_method_2_code 289 = .ok (.iload_n 2, 1) := by decide +kernel
theorem d_Own_copy_290 : decode prog_14_method_2_code 290 = .ok (.aload_n 0, 1) := by decide +kernel
theorem d_Own_copy_291 : decode prog_14_method_2_code 291 = .ok (.getfield 40, 3) := by decide +kernel
theorem d_Own_copy_294 : decode prog_14_method_2_code 294 = .ok (.iload_n 2, 1) := by decide +kernel
theorem d_Own_copy_295 : decode prog_14_method_2_code 295 = .ok (.iaload, 1) := by decide +kernel
theorem d_Own_copy_296 : decode prog_14_method_2_code 296 = .ok (.iastore, 1) := by decide +kernel
theorem d_Own_copy_297 : decode prog_14_method_2_code 297 = .ok (.aload_n 1, 1) := by decide +kernel
theorem d_Own_copy_298 : decode prog_14_method_2_code 298 = .ok (.getfield 43, 3) := by decide +kernel
theorem d_Own_copy_301 : decode prog_14_method_2_code 301 = .ok (.iload_n 2, 1) := by decide +kernel
theorem d_Own_copy_302 : decode prog_14_method_2_code 302 = .ok (.aload_n 0, 1) := by decide +kernel
theorem d_Own_copy_303 : decode prog_14_method_2_code 303 = .ok (.getfield 43, 3) := by decide +kernel
theorem d_Own_copy_306 : decode prog_14_method_2_code 306 = .ok (.iload_n 2, 1) := by decide +kernel
theorem d_Own_copy_307 : decode prog_14_method_2_code 307 = .ok (.iaload, 1) := by decide +kernel
theorem d_Own_copy_308 : decode prog_14_method_2_code 308 = .ok (.iastore, 1) := by decide +kernel
theorem d_Own_copy_309 : decode prog_14_method_2_code 309 = .ok (.aload_n 1, 1) := by decide +kernel
theorem d_Own_copy_310 : decode prog_14_method_2_code 310 = .ok (.getfield 46, 3) := by decide +kernel
theorem d_Own_copy_313 : decode prog_14_method_2_code 313 = .ok (.iload_n 2, 1) := by decide +kernel
theorem d_Own_copy_314 : decode prog_14_method_2_code 314 = .ok (.aload_n 0, 1) := by decide +kernel
theorem d_Own_copy_315 : decode prog_14_method_2_code 315 = .ok (.getfield 46, 3) := by decide +kernel
theorem d_Own_copy_318 : decode prog_14_method_2_code 318 = .ok (.iload_n 2, 1) := by decide +kernel
theorem d_Own_copy_319 : decode prog_14_method_2_code 319 = .ok (.iaload, 1) := by decide +kernel
theorem d_Own_copy_320 : decode prog_14_method_2_code 320 = .ok (.iastore, 1) := by decide +kernel
theorem d_Own_copy_321 : decode prog_14_method_2_code 321 = .ok (.aload_n 1, 1) := by decide +kernel
theorem d_Own_copy_322 : decode prog_14_method_2_code 322 = .ok (.getfield 49, 3) := by decide +kernel
theorem d_Own_copy_325 : decode prog_14_method_2_code 325 = .ok (.iload_n 2, 1) := by decide +kernel
theorem d_Own_copy_326 : decode prog_14_method_2_code 326 = .ok (.aload_n 0, 1) := by decide +kernel
theorem d_Own_copy_327 : decode prog_14_method_2_code 327 = .ok (.getfield 49, 3) := by decide +kernel
theorem d_Own_copy_330 : decode prog_14_method_2_code 330 = .ok (.iload_n 2, 1) := by decide +kernel
theorem d_Own_copy_331 : decode prog_14_method_2_code 331 = .ok (.iaload, 1) := by decide +kernel
theorem d_Own_copy_332 : decode prog_14_method_2_code 332 = .ok (.iastore, 1) := by decide +kernel
theorem d_Own_copy_333 : decode prog_14_method_2_code 333 = .ok (.aload_n 1, 1) := by decide +kernel
theorem d_Own_copy_334 : decode prog_14_method_2_code 334 = .ok (.getfield 52, 3) := by decide +kernel
theorem d_Own_copy_337 : decode prog_14_method_2_code 337 = .ok (.iload_n 2, 1) := by decide +kernel
theorem d_Own_copy_338 : decode prog_14_method_2_code 338 = .ok (.aload_n 0, 1) := by decide +kernel
theorem d_Own_copy_339 : decode prog_14_method_2_code 339 = .ok (.getfield 52, 3) := by decide +kernel
theorem d_Own_copy_342 : decode prog_14_method_2_code 342 = .ok (.iload_n 2, 1) := by decide +kernel
theorem d_Own_copy_343 : decode prog_14_method_2_code 343 = .ok (.iaload, 1) := by decide +kernel
theorem d_Own_copy_344 : decode prog_14_method_2_code 344 = .ok (.iastore, 1) := by decide +kernel
theorem d_Own_copy_345 : decode prog_14_method_2_code 345 = .ok (.aload_n 1, 1) := by decide +kernel
theorem d_Own_copy_346 : decode prog_14_method_2_code 346 = .ok (.getfield 55, 3) := by decide +kernel
theorem d_Own_copy_349 : decode prog_14_method_2_code 349 = .ok (.iload_n 2, 1) := by decide +kernel
theorem d_Own_copy_350 : decode prog_14_method_2_code 350 = .ok (.aload_n 0, 1) := by decide +kernel
theorem d_Own_copy_351 : decode prog_14_method_2_code 351 = .ok (.getfield 55, 3) := by decide +kernel
theorem d_Own_copy_354 : decode prog_14_method_2_code 354 = .ok (.iload_n 2, 1) := by decide +kernel
theorem d_Own_copy_355 : decode prog_14_method_2_code 355 = .ok (.iaload, 1) := by decide +kernel
theorem d_Own_copy_356 : decode prog_14_method_2_code 356 = .ok (.iastore, 1) := by decide +kernel
theorem d_Own_copy_357 : decode prog_14_method_2_code 357 = .ok (.aload_n 1, 1) := by decide +kernel
theorem d_Own_copy_358 : decode prog_14_method_2_code 358 = .ok (.getfield 61, 3) := by decide +kernel
theorem d_Own_copy_361 : decode prog_14_method_2_code 361 = .ok (.iload_n 2, 1) := by decide +kernel
theorem d_Own_copy_362 : decode prog_14_method_2_code 362 = .ok (.aload_n 0, 1) := by decide +kernel
theorem d_Own_copy_363 : decode prog_14_method_2_code 363 = .ok (.getfield 61, 3) := by decide +kernel
theorem d_Own_copy_366 : decode prog_14_method_2_code 366 = .ok (.iload_n 2, 1) := by decide +kernel
theorem d_Own_copy_367 : decode prog_14_method_2_code 367 = .ok (.baload, 1) := by decide +kernel
theorem d_Own_copy_368 : decode prog_14_method_2_code 368 = .ok (.bastore, 1) := by decide +kernel
theorem d_Own_copy_369 : decode prog_14_method_2_code 369 = .ok (.iinc 2 1, 3) := by decide +kernel
theorem d_Own_copy_372 : decode prog_14_method_2_code 372 = .ok (.goto (-131), 3) := by decide +kernel
theorem d_Own_copy_375 : decode prog_14_method_2_code 375 = .ok (.iconst 0, 1) := by decide +kernel
theorem d_Own_copy_376 : decode prog_14_method_2_code 376 = .ok (.istore_n 2, 1) := by decide +kernel
theorem d_Own_copy_377 : decode prog_14_method_2_code 377 = .ok (.iload_n 2, 1) := by decide +kernel
theorem d_Own_copy_378 : decode prog_14_method_2_code 378 = .ok (.aload_n 0, 1) := by decide +kernel
theorem d_Own_copy_379 : decode prog_14_method_2_code 379 = .ok (.getfield 109, 3) := by decide +kernel
theorem d_Own_copy_382 : decode prog_14_method_2_code 382 = .ok (.if_icmp .ge 21, 3) := by decide +kernel
theorem d_Own_copy_385 : decode prog_14_method_2_code 385 = .ok (.aload_n 1, 1) := by decide +kernel
theorem d_Own_copy_386 : decode prog_14_method_2_code 386 = .ok (.getfield 58, 3) := by decide +kernel
theorem d_Own_copy_389 : decode prog_14_method_2_code 389 = .ok (.iload_n 2, 1) := by decide +kernel
theorem d_Own_copy_390 : decode prog_14_method_2_code 390 = .ok (.aload_n 0, 1) := by decide +kernel
theorem d_Own_copy_391 : decode prog_14_method_2_code 391 = .ok (.getfield 58, 3) := by decide +kernel
theorem d_Own_copy_394 : decode prog_14_method_2_code 394 = .ok (.iload_n 2, 1) := by decide +kernel
theorem d_Own_copy_395 : decode prog_14_method_2_code 395 = .ok (.iaload, 1) := by decide +kernel
theorem d_Own_copy_396 : decode prog_14_method_2_code 396 = .ok (.iastore, 1) := by decide +kernel
theorem d_Own_copy_397 : decode prog_14_method_2_code 397 = .ok (.iinc 2 1, 3) := by decide +kernel
theorem d_Own_copy_400 : decode prog_14_method_2_code 400 = .ok (.goto (-23), 3) := by decide +kernel
theorem d_Own_copy_403 : decode prog_14_method_2_code 403 = .ok (.iconst 0, 1) := by decide +kernel
theorem d_Own_copy_404 : decode prog_14_method_2_code 404 = .ok (.istore_n 2, 1) := by decide +kernel
theorem d_Own_copy_405 : decode prog_14_method_2_code 405 = .ok (.iload_n 2, 1) := by decide +kernel
theorem d_Own_copy_406 : decode prog_14_method_2_code 406 = .ok (.aload_n 0, 1) := by decide +kernel
theorem d_Own_copy_407 : decode prog_14_method_2_code 407 = .ok (.getfield 106, 3) := by decide +kernel
theorem d_Own_copy_410 : decode prog_14_method_2_code 410 = .ok (.if_icmp .ge 33, 3) := by decide +kernel
theorem d_Own_copy_413 : decode prog_14_method_2_code 413 = .ok (.aload_n 1, 1) := by decide +kernel
theorem d_Own_copy_414 : decode prog_14_method_2_code 414 = .ok (.getfield 65, 3) := by decide +kernel
theorem d_Own_copy_417 : decode prog_14_method_2_code 417 = .ok (.iload_n 2, 1) := by decide +kernel
theorem d_Own_copy_418 : decode prog_14_method_2_code 418 = .ok (.aload_n 0, 1) := by decide +kernel
theorem d_Own_copy_419 : decode prog_14_method_2_code 419 = .ok (.getfield 65, 3) := by decide +kernel
theorem d_Own_copy_422 : decode prog_14_method_2_code 422 = .ok (.iload_n 2, 1) := by decide +kernel
theorem d_Own_copy_423 : decode prog_14_method_2_code 423 = .ok (.iaload, 1) := by decide +kernel
theorem d_Own_copy_424 : decode prog_14_method_2_code 424 = .ok (.iastore, 1) := by decide +kernel
theorem d_Own_copy_425 : decode prog_14_method_2_code 425 = .ok (.aload_n 1, 1) := by decide +kernel
theorem d_Own_copy_426 : decode prog_14_method_2_code 426 = .ok (.getfield 68, 3) := by decide +kernel
theorem d_Own_copy_429 : decode prog_14_method_2_code 429 = .ok (.iload_n 2, 1) := by decide +kernel
theorem d_Own_copy_430 : decode prog_14_method_2_code 430 = .ok (.aload_n 0, 1) := by decide +kernel
theorem d_Own_copy_431 : decode prog_14_method_2_code 431 = .ok (.getfield 68, 3) := by decide +kernel
theorem d_Own_copy_434 : decode prog_14_method_2_code 434 = .ok (.iload_n 2, 1) := by decide +kernel
theorem d_Own_copy_435 : decode prog_14_method_2_code 435 = .ok (.iaload, 1) := by decide +kernel
theorem d_Own_copy_436 : decode prog_14_method_2_code 436 = .ok (.iastore, 1) := by decide +kernel
theorem d_Own_copy_437 : decode prog_14_method_2_code 437 = .ok (.iinc 2 1, 3) := by decide +kernel
theorem d_Own_copy_440 : decode prog_14_method_2_code 440 = .ok (.goto (-35), 3) := by decide +kernel
theorem d_Own_copy_443 : decode prog_14_method_2_code 443 = .ok (.aload_n 1, 1) := by decide +kernel
theorem d_Own_copy_444 : decode prog_14_method_2_code 444 = .ok (.areturn, 1) := by decide +kernel
theorem d_PL_cell_0 : decode method_2_code 0 = .ok (.aload_n 0, 1) := by decide +kernel
theorem d_PL_cell_1 : decode method_2_code 1 = .ok (.arraylength, 1) := by decide +kernel
theorem d_PL_cell_2 : decode method_2_code 2 = .ok (.ifCond .ne 7, 3) := by decide +kernel
theorem d_PL_cell_5 : decode method_2_code 5 = .ok (.iconst 0, 1) := by decide +kernel
theorem d_PL_cell_6 : decode method_2_code 6 = .ok (.goto 17, 3) := by decide +kernel
theorem d_PL_cell_9 : decode method_2_code 9 = .ok (.aload_n 0, 1) := by decide +kernel
theorem d_PL_cell_10 : decode method_2_code 10 = .ok (.iload_n 1, 1) := by decide +kernel
theorem d_PL_cell_11 : decode method_2_code 11 = .ok (.aload_n 0, 1) := by decide +kernel
theorem d_PL_cell_12 : decode method_2_code 12 = .ok (.arraylength, 1) := by decide +kernel
theorem d_PL_cell_13 : decode method_2_code 13 = .ok (.irem, 1) := by decide +kernel
theorem d_PL_cell_14 : decode method_2_code 14 = .ok (.iaload, 1) := by decide +kernel
theorem d_PL_cell_15 : decode method_2_code 15 = .ok (.ldc 7, 2) := by decide +kernel
theorem d_PL_cell_17 : decode method_2_code 17 = .ok (.iload_n 1, 1) := by decide +kernel
theorem d_PL_cell_18 : decode method_2_code 18 = .ok (.aload_n 0, 1) := by decide +kernel
theorem d_PL_cell_19 : decode method_2_code 19 = .ok (.arraylength, 1) := by decide +kernel
theorem d_PL_cell_20 : decode method_2_code 20 = .ok (.idiv, 1) := by decide +kernel
theorem d_PL_cell_21 : decode method_2_code 21 = .ok (.imul, 1) := by decide +kernel
theorem d_PL_cell_22 : decode method_2_code 22 = .ok (.ixor, 1) := by decide +kernel
theorem d_PL_cell_23 : decode method_2_code 23 = .ok (.ireturn, 1) := by decide +kernel
theorem d_PL_pick_0 : decode method_3_code 0 = .ok (.aload_n 0, 1) := by decide +kernel
theorem d_PL_pick_1 : decode method_3_code 1 = .ok (.iload_n 1, 1) := by decide +kernel
theorem d_PL_pick_2 : decode method_3_code 2 = .ok (.invokestatic 8, 3) := by decide +kernel
theorem d_PL_pick_5 : decode method_3_code 5 = .ok (.ldc 14, 2) := by decide +kernel
theorem d_PL_pick_7 : decode method_3_code 7 = .ok (.iand, 1) := by decide +kernel
theorem d_PL_pick_8 : decode method_3_code 8 = .ok (.iload_n 2, 1) := by decide +kernel
theorem d_PL_pick_9 : decode method_3_code 9 = .ok (.irem, 1) := by decide +kernel
theorem d_PL_pick_10 : decode method_3_code 10 = .ok (.ireturn, 1) := by decide +kernel
theorem d_PL_four_0 : decode method_4_code 0 = .ok (.iconst 0, 1) := by decide +kernel
theorem d_PL_four_1 : decode method_4_code 1 = .ok (.istore_n 2, 1) := by decide +kernel
theorem d_PL_four_2 : decode method_4_code 2 = .ok (.iload_n 1, 1) := by decide +kernel
theorem d_PL_four_3 : decode method_4_code 3 = .ok (.istore_n 3, 1) := by decide +kernel
theorem d_PL_four_4 : decode method_4_code 4 = .ok (.iload_n 3, 1) := by decide +kernel
theorem d_PL_four_5 : decode method_4_code 5 = .ok (.iload_n 1, 1) := by decide +kernel
theorem d_PL_four_6 : decode method_4_code 6 = .ok (.iconst 4, 1) := by decide +kernel
theorem d_PL_four_7 : decode method_4_code 7 = .ok (.iadd, 1) := by decide +kernel
theorem d_PL_four_8 : decode method_4_code 8 = .ok (.if_icmp .ge 32, 3) := by decide +kernel
theorem d_PL_four_11 : decode method_4_code 11 = .ok (.iload_n 2, 1) := by decide +kernel
theorem d_PL_four_12 : decode method_4_code 12 = .ok (.bipush 8, 2) := by decide +kernel
theorem d_PL_four_14 : decode method_4_code 14 = .ok (.ishl, 1) := by decide +kernel
theorem d_PL_four_15 : decode method_4_code 15 = .ok (.iload_n 3, 1) := by decide +kernel
theorem d_PL_four_16 : decode method_4_code 16 = .ok (.aload_n 0, 1) := by decide +kernel
theorem d_PL_four_17 : decode method_4_code 17 = .ok (.invokevirtual 15, 3) := by decide +kernel
theorem d_PL_four_20 : decode method_4_code 20 = .ok (.if_icmp .ge 11, 3) := by decide +kernel
theorem d_PL_four_23 : decode method_4_code 23 = .ok (.aload_n 0, 1) := by decide +kernel
theorem d_PL_four_24 : decode method_4_code 24 = .ok (.iload_n 3, 1) := by decide +kernel
theorem d_PL_four_25 : decode method_4_code 25 = .ok (.invokevirtual 21, 3) := by decide +kernel
theorem d_PL_four_28 : decode method_4_code 28 = .ok (.goto 4, 3) := by decide +kernel
theorem d_PL_four_31 : decode method_4_code 31 = .ok (.iconst 0, 1) := by decide +kernel
theorem d_PL_four_32 : decode method_4_code 32 = .ok (.ior, 1) := by decide +kernel
theorem d_PL_four_33 : decode method_4_code 33 = .ok (.istore_n 2, 1) := by decide +kernel
theorem d_PL_four_34 : decode method_4_code 34 = .ok (.iinc 3 1, 3) := by decide +kernel
theorem d_PL_four_37 : decode method_4_code 37 = .ok (.goto (-33), 3) := by decide +kernel
theorem d_PL_four_40 : decode method_4_code 40 = .ok (.iload_n 2, 1) := by decide +kernel
theorem d_PL_four_41 : decode method_4_code 41 = .ok (.ireturn, 1) := by decide +kernel
theorem d_PL_feeds_0 : decode method_5_code 0 = .ok (.iconst 0, 1) := by decide +kernel
theorem d_PL_feeds_1 : decode method_5_code 1 = .ok (.istore_n 2, 1) := by decide +kernel
theorem d_PL_feeds_2 : decode method_5_code 2 = .ok (.iconst 0, 1) := by decide +kernel
theorem d_PL_feeds_3 : decode method_5_code 3 = .ok (.istore_n 3, 1) := by decide +kernel
theorem d_PL_feeds_4 : decode method_5_code 4 = .ok (.iload_n 3, 1) := by decide +kernel
theorem d_PL_feeds_5 : decode method_5_code 5 = .ok (.aload_n 1, 1) := by decide +kernel
theorem d_PL_feeds_6 : decode method_5_code 6 = .ok (.invokevirtual 15, 3) := by decide +kernel
theorem d_PL_feeds_9 : decode method_5_code 9 = .ok (.if_icmp .ge 50, 3) := by decide +kernel
theorem d_PL_feeds_12 : decode method_5_code 12 = .ok (.aload_n 0, 1) := by decide +kernel
theorem d_PL_feeds_13 : decode method_5_code 13 = .ok (.aload_n 1, 1) := by decide +kernel
theorem d_PL_feeds_14 : decode method_5_code 14 = .ok (.iload_n 3, 1) := by decide +kernel
theorem d_PL_feeds_15 : decode method_5_code 15 = .ok (.invokestatic 25, 3) := by decide +kernel
theorem d_PL_feeds_18 : decode method_5_code 18 = .ok (.aload_n 1, 1) := by decide +kernel
theorem d_PL_feeds_19 : decode method_5_code 19 = .ok (.iload_n 3, 1) := by decide +kernel
theorem d_PL_feeds_20 : decode method_5_code 20 = .ok (.iconst 4, 1) := by decide +kernel
theorem d_PL_feeds_21 : decode method_5_code 21 = .ok (.iadd, 1) := by decide +kernel
theorem d_PL_feeds_22 : decode method_5_code 22 = .ok (.invokestatic 25, 3) := by decide +kernel
theorem d_PL_feeds_25 : decode method_5_code 25 = .ok (.aload_n 1, 1) := by decide +kernel
theorem d_PL_feeds_26 : decode method_5_code 26 = .ok (.iload_n 3, 1) := by decide +kernel
theorem d_PL_feeds_27 : decode method_5_code 27 = .ok (.bipush 8, 2) := by decide +kernel
theorem d_PL_feeds_29 : decode method_5_code 29 = .ok (.iadd, 1) := by decide +kernel
theorem d_PL_feeds_30 : decode method_5_code 30 = .ok (.invokestatic 25, 3) := by decide +kernel
theorem d_PL_feeds_33 : decode method_5_code 33 = .ok (.aload_n 1, 1) := by decide +kernel
theorem d_PL_feeds_34 : decode method_5_code 34 = .ok (.iload_n 3, 1) := by decide +kernel
theorem d_PL_feeds_35 : decode method_5_code 35 = .ok (.bipush 12, 2) := by decide +kernel
theorem d_PL_feeds_37 : decode method_5_code 37 = .ok (.iadd, 1) := by decide +kernel
theorem d_PL_feeds_38 : decode method_5_code 38 = .ok (.invokestatic 25, 3) := by decide +kernel
theorem d_PL_feeds_41 : decode method_5_code 41 = .ok (.aload_n 1, 1) := by decide +kernel
theorem d_PL_feeds_42 : decode method_5_code 42 = .ok (.iload_n 3, 1) := by decide +kernel
theorem d_PL_feeds_43 : decode method_5_code 43 = .ok (.bipush 16, 2) := by decide +kernel
theorem d_PL_feeds_45 : decode method_5_code 45 = .ok (.iadd, 1) := by decide +kernel
theorem d_PL_feeds_46 : decode method_5_code 46 = .ok (.invokestatic 25, 3) := by decide +kernel
theorem d_PL_feeds_49 : decode method_5_code 49 = .ok (.invokevirtual 29, 3) := by decide +kernel
theorem d_PL_feeds_52 : decode method_5_code 52 = .ok (.istore_n 2, 1) := by decide +kernel
theorem d_PL_feeds_53 : decode method_5_code 53 = .ok (.iinc 3 20, 3) := by decide +kernel
theorem d_PL_feeds_56 : decode method_5_code 56 = .ok (.goto (-52), 3) := by decide +kernel
theorem d_PL_feeds_59 : decode method_5_code 59 = .ok (.iload_n 2, 1) := by decide +kernel
theorem d_PL_feeds_60 : decode method_5_code 60 = .ok (.aload_n 1, 1) := by decide +kernel
theorem d_PL_feeds_61 : decode method_5_code 61 = .ok (.invokevirtual 15, 3) := by decide +kernel
theorem d_PL_feeds_64 : decode method_5_code 64 = .ok (.if_icmp .ne 7, 3) := by decide +kernel
theorem d_PL_feeds_67 : decode method_5_code 67 = .ok (.iconst 1, 1) := by decide +kernel
theorem d_PL_feeds_68 : decode method_5_code 68 = .ok (.goto 4, 3) := by decide +kernel
theorem d_PL_feeds_71 : decode method_5_code 71 = .ok (.iconst 0, 1) := by decide +kernel
theorem d_PL_feeds_72 : decode method_5_code 72 = .ok (.ireturn, 1) := by decide +kernel
theorem d_PL_name_0 : decode method_6_code 0 = .ok (.new 35, 3) := by decide +kernel
theorem d_PL_name_3 : decode method_6_code 3 = .ok (.dup, 1) := by decide +kernel
theorem d_PL_name_4 : decode method_6_code 4 = .ok (.invokespecial 37, 3) := by decide +kernel
theorem d_PL_name_7 : decode method_6_code 7 = .ok (.aload_n 0, 1) := by decide +kernel
theorem d_PL_name_8 : decode method_6_code 8 = .ok (.invokevirtual 38, 3) := by decide +kernel
theorem d_PL_name_11 : decode method_6_code 11 = .ok (.bipush 97, 2) := by decide +kernel
theorem d_PL_name_13 : decode method_6_code 13 = .ok (.iload_n 1, 1) := by decide +kernel
theorem d_PL_name_14 : decode method_6_code 14 = .ok (.iadd, 1) := by decide +kernel
theorem d_PL_name_15 : decode method_6_code 15 = .ok (.i2c, 1) := by decide +kernel
theorem d_PL_name_16 : decode method_6_code 16 = .ok (.invokevirtual 41, 3) := by decide +kernel
theorem d_PL_name_19 : decode method_6_code 19 = .ok (.invokevirtual 44, 3) := by decide +kernel
theorem d_PL_name_22 : decode method_6_code 22 = .ok (.areturn, 1) := by decide +kernel
theorem d_PL_isOutput_0 : decode method_7_code 0 = .ok (.iload_n 1, 1) := by decide +kernel
theorem d_PL_isOutput_1 : decode method_7_code 1 = .ok (.aload_n 2, 1) := by decide +kernel
theorem d_PL_isOutput_2 : decode method_7_code 2 = .ok (.invokevirtual 15, 3) := by decide +kernel
theorem d_PL_isOutput_5 : decode method_7_code 5 = .ok (.if_icmp .eq 5, 3) := by decide +kernel
theorem d_PL_isOutput_8 : decode method_7_code 8 = .ok (.iconst 0, 1) := by decide +kernel
theorem d_PL_isOutput_9 : decode method_7_code 9 = .ok (.ireturn, 1) := by decide +kernel
theorem d_PL_isOutput_10 : decode method_7_code 10 = .ok (.iconst 0, 1) := by decide +kernel
theorem d_PL_isOutput_11 : decode method_7_code 11 = .ok (.istore_n 3, 1) := by decide +kernel
theorem d_PL_isOutput_12 : decode method_7_code 12 = .ok (.iload_n 3, 1) := by decide +kernel
theorem d_PL_isOutput_13 : decode method_7_code 13 = .ok (.iload_n 1, 1) := by decide +kernel
theorem d_PL_isOutput_14 : decode method_7_code 14 = .ok (.if_icmp .gt 33, 3) := by decide +kernel
theorem d_PL_isOutput_17 : decode method_7_code 17 = .ok (.aload_n 0, 1) := by decide +kernel
theorem d_PL_isOutput_18 : decode method_7_code 18 = .ok (.iload_n 3, 1) := by decide +kernel
theorem d_PL_isOutput_19 : decode method_7_code 19 = .ok (.invokevirtual 48, 3) := by decide +kernel
theorem d_PL_isOutput_22 : decode method_7_code 22 = .ok (.iload_n 3, 1) := by decide +kernel
theorem d_PL_isOutput_23 : decode method_7_code 23 = .ok (.iload_n 1, 1) := by decide +kernel
theorem d_PL_isOutput_24 : decode method_7_code 24 = .ok (.if_icmp .ne 7, 3) := by decide +kernel
theorem d_PL_isOutput_27 : decode method_7_code 27 = .ok (.iconst (-1), 1) := by decide +kernel
theorem d_PL_isOutput_28 : decode method_7_code 28 = .ok (.goto 8, 3) := by decide +kernel
theorem d_PL_isOutput_31 : decode method_7_code 31 = .ok (.aload_n 2, 1) := by decide +kernel
theorem d_PL_isOutput_32 : decode method_7_code 32 = .ok (.iload_n 3, 1) := by decide +kernel
theorem d_PL_isOutput_33 : decode method_7_code 33 = .ok (.invokevirtual 21, 3) := by decide +kernel
theorem d_PL_isOutput_36 : decode method_7_code 36 = .ok (.if_icmp .eq 5, 3) := by decide +kernel
theorem d_PL_isOutput_39 : decode method_7_code 39 = .ok (.iconst 0, 1) := by decide +kernel
theorem d_PL_isOutput_40 : decode method_7_code 40 = .ok (.ireturn, 1) := by decide +kernel
theorem d_PL_isOutput_41 : decode method_7_code 41 = .ok (.iinc 3 1, 3) := by decide +kernel
theorem d_PL_isOutput_44 : decode method_7_code 44 = .ok (.goto (-32), 3) := by decide +kernel
theorem d_PL_isOutput_47 : decode method_7_code 47 = .ok (.iconst 1, 1) := by decide +kernel
theorem d_PL_isOutput_48 : decode method_7_code 48 = .ok (.ireturn, 1) := by decide +kernel
theorem d_PL_isProphecy_0 : decode method_8_code 0 = .ok (.new 35, 3) := by decide +kernel
theorem d_PL_isProphecy_3 : decode method_8_code 3 = .ok (.dup, 1) := by decide +kernel
theorem d_PL_isProphecy_4 : decode method_8_code 4 = .ok (.invokespecial 37, 3) := by decide +kernel
theorem d_PL_isProphecy_7 : decode method_8_code 7 = .ok (.ldc 52, 2) := by decide +kernel
theorem d_PL_isProphecy_9 : decode method_8_code 9 = .ok (.aload_n 1, 1) := by decide +kernel
theorem d_PL_isProphecy_10 : decode method_8_code 10 = .ok (.getfield 54, 3) := by decide +kernel
theorem d_PL_isProphecy_13 : decode method_8_code 13 = .ok (.iload_n 2, 1) := by decide +kernel
theorem d_PL_isProphecy_14 : decode method_8_code 14 = .ok (.iaload, 1) := by decide +kernel
theorem d_PL_isProphecy_15 : decode method_8_code 15 = .ok (.invokestatic 60, 3) := by decide +kernel
theorem d_PL_isProphecy_18 : decode method_8_code 18 = .ok (.invokevirtual 38, 3) := by decide +kernel
theorem d_PL_isProphecy_21 : decode method_8_code 21 = .ok (.aload_n 1, 1) := by decide +kernel
theorem d_PL_isProphecy_22 : decode method_8_code 22 = .ok (.getfield 64, 3) := by decide +kernel
theorem d_PL_isProphecy_25 : decode method_8_code 25 = .ok (.iload_n 2, 1) := by decide +kernel
theorem d_PL_isProphecy_26 : decode method_8_code 26 = .ok (.baload, 1) := by decide +kernel
theorem d_PL_isProphecy_27 : decode method_8_code 27 = .ok (.ifCond .eq 8, 3) := by decide +kernel
theorem d_PL_isProphecy_30 : decode method_8_code 30 = .ok (.ldc 68, 2) := by decide +kernel
theorem d_PL_isProphecy_32 : decode method_8_code 32 = .ok (.goto 5, 3) := by decide +kernel
theorem d_PL_isProphecy_35 : decode method_8_code 35 = .ok (.ldc 70, 2) := by decide +kernel
theorem d_PL_isProphecy_37 : decode method_8_code 37 = .ok (.invokevirtual 38, 3) := by decide +kernel
theorem d_PL_isProphecy_40 : decode method_8_code 40 = .ok (.ldc 72, 2) := by decide +kernel
theorem d_PL_isProphecy_42 : decode method_8_code 42 = .ok (.aload_n 1, 1) := by decide +kernel
theorem d_PL_isProphecy_43 : decode method_8_code 43 = .ok (.getfield 74, 3) := by decide +kernel
theorem d_PL_isProphecy_46 : decode method_8_code 46 = .ok (.iload_n 2, 1) := by decide +kernel
theorem d_PL_isProphecy_47 : decode method_8_code 47 = .ok (.iaload, 1) := by decide +kernel
theorem d_PL_isProphecy_48 : decode method_8_code 48 = .ok (.invokestatic 60, 3) := by decide +kernel
theorem d_PL_isProphecy_51 : decode method_8_code 51 = .ok (.invokevirtual 38, 3) := by decide +kernel
theorem d_PL_isProphecy_54 : decode method_8_code 54 = .ok (.bipush 64, 2) := by decide +kernel
theorem d_PL_isProphecy_56 : decode method_8_code 56 = .ok (.invokevirtual 41, 3) := by decide +kernel
theorem d_PL_isProphecy_59 : decode method_8_code 59 = .ok (.aload_n 1, 1) := by decide +kernel
theorem d_PL_isProphecy_60 : decode method_8_code 60 = .ok (.getfield 77, 3) := by decide +kernel
theorem d_PL_isProphecy_63 : decode method_8_code 63 = .ok (.iload_n 2, 1) := by decide +kernel
theorem d_PL_isProphecy_64 : decode method_8_code 64 = .ok (.iaload, 1) := by decide +kernel
theorem d_PL_isProphecy_65 : decode method_8_code 65 = .ok (.ifCond .ge 8, 3) := by decide +kernel
theorem d_PL_isProphecy_68 : decode method_8_code 68 = .ok (.ldc 80, 2) := by decide +kernel
theorem d_PL_isProphecy_70 : decode method_8_code 70 = .ok (.goto 14, 3) := by decide +kernel
theorem d_PL_isProphecy_73 : decode method_8_code 73 = .ok (.ldc 82, 2) := by decide +kernel
theorem d_PL_isProphecy_75 : decode method_8_code 75 = .ok (.aload_n 1, 1) := by decide +kernel
theorem d_PL_isProphecy_76 : decode method_8_code 76 = .ok (.getfield 77, 3) := by decide +kernel
theorem d_PL_isProphecy_79 : decode method_8_code 79 = .ok (.iload_n 2, 1) := by decide +kernel
theorem d_PL_isProphecy_80 : decode method_8_code 80 = .ok (.iaload, 1) := by decide +kernel
theorem d_PL_isProphecy_81 : decode method_8_code 81 = .ok (.invokestatic 60, 3) := by decide +kernel
theorem d_PL_isProphecy_84 : decode method_8_code 84 = .ok (.invokevirtual 38, 3) := by decide +kernel
theorem d_PL_isProphecy_87 : decode method_8_code 87 = .ok (.bipush 32, 2) := by decide +kernel
theorem d_PL_isProphecy_89 : decode method_8_code 89 = .ok (.invokevirtual 41, 3) := by decide +kernel
theorem d_PL_isProphecy_92 : decode method_8_code 92 = .ok (.aload_n 1, 1) := by decide +kernel
theorem d_PL_isProphecy_93 : decode method_8_code 93 = .ok (.getfield 84, 3) := by decide +kernel
theorem d_PL_isProphecy_96 : decode method_8_code 96 = .ok (.iload_n 2, 1) := by decide +kernel
theorem d_PL_isProphecy_97 : decode method_8_code 97 = .ok (.iaload, 1) := by decide +kernel
theorem d_PL_isProphecy_98 : decode method_8_code 98 = .ok (.invokevirtual 87, 3) := by decide +kernel
theorem d_PL_isProphecy_101 : decode method_8_code 101 = .ok (.bipush 45, 2) := by decide +kernel
theorem d_PL_isProphecy_103 : decode method_8_code 103 = .ok (.invokevirtual 41, 3) := by decide +kernel
theorem d_PL_isProphecy_106 : decode method_8_code 106 = .ok (.aload_n 1, 1) := by decide +kernel
theorem d_PL_isProphecy_107 : decode method_8_code 107 = .ok (.getfield 90, 3) := by decide +kernel
theorem d_PL_isProphecy_110 : decode method_8_code 110 = .ok (.iload_n 2, 1) := by decide +kernel
theorem d_PL_isProphecy_111 : decode method_8_code 111 = .ok (.iaload, 1) := by decide +kernel
theorem d_PL_isProphecy_112 : decode method_8_code 112 = .ok (.invokevirtual 87, 3) := by decide +kernel
theorem d_PL_isProphecy_115 : decode method_8_code 115 = .ok (.astore_n 3, 1) := by decide +kernel
theorem d_PL_isProphecy_116 : decode method_8_code 116 = .ok (.aload_n 0, 1) := by decide +kernel
theorem d_PL_isProphecy_117 : decode method_8_code 117 = .ok (.iload_n 2, 1) := by decide +kernel
theorem d_PL_isProphecy_118 : decode method_8_code 118 = .ok (.invokevirtual 93, 3) := by decide +kernel
theorem d_PL_isProphecy_121 : decode method_8_code 121 = .ok (.aload_n 1, 1) := by decide +kernel
theorem d_PL_isProphecy_122 : decode method_8_code 122 = .ok (.getfield 54, 3) := by decide +kernel
theorem d_PL_isProphecy_125 : decode method_8_code 125 = .ok (.iload_n 2, 1) := by decide +kernel
theorem d_PL_isProphecy_126 : decode method_8_code 126 = .ok (.iaload, 1) := by decide +kernel
theorem d_PL_isProphecy_127 : decode method_8_code 127 = .ok (.if_icmp .ne 127, 3) := by decide +kernel
theorem d_PL_isProphecy_130 : decode method_8_code 130 = .ok (.aload_n 0, 1) := by decide +kernel
theorem d_PL_isProphecy_131 : decode method_8_code 131 = .ok (.iload_n 2, 1) := by decide +kernel
theorem d_PL_isProphecy_132 : decode method_8_code 132 = .ok (.invokevirtual 96, 3) := by decide +kernel
theorem d_PL_isProphecy_135 : decode method_8_code 135 = .ok (.aload_n 1, 1) := by decide +kernel
theorem d_PL_isProphecy_136 : decode method_8_code 136 = .ok (.getfield 74, 3) := by decide +kernel
theorem d_PL_isProphecy_139 : decode method_8_code 139 = .ok (.iload_n 2, 1) := by decide +kernel
theorem d_PL_isProphecy_140 : decode method_8_code 140 = .ok (.iaload, 1) := by decide +kernel
theorem d_PL_isProphecy_141 : decode method_8_code 141 = .ok (.if_icmp .ne 113, 3) := by decide +kernel
theorem d_PL_isProphecy_144 : decode method_8_code 144 = .ok (.aload_n 0, 1) := by decide +kernel
theorem d_PL_isProphecy_145 : decode method_8_code 145 = .ok (.iload_n 2, 1) := by decide +kernel
theorem d_PL_isProphecy_146 : decode method_8_code 146 = .ok (.invokevirtual 99, 3) := by decide +kernel
theorem d_PL_isProphecy_149 : decode method_8_code 149 = .ok (.aload_n 1, 1) := by decide +kernel
theorem d_PL_isProphecy_150 : decode method_8_code 150 = .ok (.getfield 77, 3) := by decide +kernel
theorem d_PL_isProphecy_153 : decode method_8_code 153 = .ok (.iload_n 2, 1) := by decide +kernel
theorem d_PL_isProphecy_154 : decode method_8_code 154 = .ok (.iaload, 1) := by decide +kernel
theorem d_PL_isProphecy_155 : decode method_8_code 155 = .ok (.if_icmp .ne 99, 3) := by decide +kernel
theorem d_PL_isProphecy_158 : decode method_8_code 158 = .ok (.aload_n 0, 1) := by decide +kernel
theorem d_PL_isProphecy_159 : decode method_8_code 159 = .ok (.iload_n 2, 1) := by decide +kernel
theorem d_PL_isProphecy_160 : decode method_8_code 160 = .ok (.invokevirtual 102, 3) := by decide +kernel
theorem d_PL_isProphecy_163 : decode method_8_code 163 = .ok (.aload_n 1, 1) := by decide +kernel
theorem d_PL_isProphecy_164 : decode method_8_code 164 = .ok (.getfield 64, 3) := by decide +kernel
theorem d_PL_isProphecy_167 : decode method_8_code 167 = .ok (.iload_n 2, 1) := by decide +kernel
theorem d_PL_isProphecy_168 : decode method_8_code 168 = .ok (.baload, 1) := by decide +kernel
theorem d_PL_isProphecy_169 : decode method_8_code 169 = .ok (.if_icmp .ne 85, 3) := by decide +kernel
theorem d_PL_isProphecy_172 : decode method_8_code 172 = .ok (.aload_n 0, 1) := by decide +kernel
theorem d_PL_isProphecy_173 : decode method_8_code 173 = .ok (.iload_n 2, 1) := by decide +kernel
theorem d_PL_isProphecy_174 : decode method_8_code 174 = .ok (.invokevirtual 106, 3) := by decide +kernel
theorem d_PL_isProphecy_177 : decode method_8_code 177 = .ok (.aload_n 1, 1) := by decide +kernel
theorem d_PL_isProphecy_178 : decode method_8_code 178 = .ok (.getfield 84, 3) := by decide +kernel
theorem d_PL_isProphecy_181 : decode method_8_code 181 = .ok (.iload_n 2, 1) := by decide +kernel
theorem d_PL_isProphecy_182 : decode method_8_code 182 = .ok (.iaload, 1) := by decide +kernel
theorem d_PL_isProphecy_183 : decode method_8_code 183 = .ok (.if_icmp .ne 71, 3) := by decide +kernel
theorem d_PL_isProphecy_186 : decode method_8_code 186 = .ok (.aload_n 0, 1) := by decide +kernel
theorem d_PL_isProphecy_187 : decode method_8_code 187 = .ok (.iload_n 2, 1) := by decide +kernel
theorem d_PL_isProphecy_188 : decode method_8_code 188 = .ok (.invokevirtual 109, 3) := by decide +kernel
theorem d_PL_isProphecy_191 : decode method_8_code 191 = .ok (.aload_n 1, 1) := by decide +kernel
theorem d_PL_isProphecy_192 : decode method_8_code 192 = .ok (.getfield 90, 3) := by decide +kernel
theorem d_PL_isProphecy_195 : decode method_8_code 195 = .ok (.iload_n 2, 1) := by decide +kernel
theorem d_PL_isProphecy_196 : decode method_8_code 196 = .ok (.iaload, 1) := by decide +kernel
theorem d_PL_isProphecy_197 : decode method_8_code 197 = .ok (.if_icmp .ne 57, 3) := by decide +kernel
theorem d_PL_isProphecy_200 : decode method_8_code 200 = .ok (.aload_n 0, 1) := by decide +kernel
theorem d_PL_isProphecy_201 : decode method_8_code 201 = .ok (.iload_n 2, 1) := by decide +kernel
theorem d_PL_isProphecy_202 : decode method_8_code 202 = .ok (.invokevirtual 112, 3) := by decide +kernel
theorem d_PL_isProphecy_205 : decode method_8_code 205 = .ok (.aload_n 1, 1) := by decide +kernel
theorem d_PL_isProphecy_206 : decode method_8_code 206 = .ok (.getfield 115, 3) := by decide +kernel
theorem d_PL_isProphecy_209 : decode method_8_code 209 = .ok (.iload_n 2, 1) := by decide +kernel
theorem d_PL_isProphecy_210 : decode method_8_code 210 = .ok (.iaload, 1) := by decide +kernel
theorem d_PL_isProphecy_211 : decode method_8_code 211 = .ok (.if_icmp .ne 43, 3) := by decide +kernel
theorem d_PL_isProphecy_214 : decode method_8_code 214 = .ok (.aload_n 1, 1) := by decide +kernel
theorem d_PL_isProphecy_215 : decode method_8_code 215 = .ok (.getfield 115, 3) := by decide +kernel
theorem d_PL_isProphecy_218 : decode method_8_code 218 = .ok (.iload_n 2, 1) := by decide +kernel
theorem d_PL_isProphecy_219 : decode method_8_code 219 = .ok (.iaload, 1) := by decide +kernel
theorem d_PL_isProphecy_220 : decode method_8_code 220 = .ok (.ifCond .eq 17, 3) := by decide +kernel
theorem d_PL_isProphecy_223 : decode method_8_code 223 = .ok (.aload_n 0, 1) := by decide +kernel
theorem d_PL_isProphecy_224 : decode method_8_code 224 = .ok (.iload_n 2, 1) := by decide +kernel
theorem d_PL_isProphecy_225 : decode method_8_code 225 = .ok (.invokevirtual 118, 3) := by decide +kernel
theorem d_PL_isProphecy_228 : decode method_8_code 228 = .ok (.aload_n 1, 1) := by decide +kernel
theorem d_PL_isProphecy_229 : decode method_8_code 229 = .ok (.getfield 121, 3) := by decide +kernel
theorem d_PL_isProphecy_232 : decode method_8_code 232 = .ok (.iload_n 2, 1) := by decide +kernel
theorem d_PL_isProphecy_233 : decode method_8_code 233 = .ok (.iaload, 1) := by decide +kernel
theorem d_PL_isProphecy_234 : decode method_8_code 234 = .ok (.if_icmp .ne 20, 3) := by decide +kernel
theorem d_PL_isProphecy_237 : decode method_8_code 237 = .ok (.aload_n 0, 1) := by decide +kernel
theorem d_PL_isProphecy_238 : decode method_8_code 238 = .ok (.iload_n 2, 1) := by decide +kernel
theorem d_PL_isProphecy_239 : decode method_8_code 239 = .ok (.invokevirtual 124, 3) := by decide +kernel
theorem d_PL_isProphecy_242 : decode method_8_code 242 = .ok (.aload_n 1, 1) := by decide +kernel
theorem d_PL_isProphecy_243 : decode method_8_code 243 = .ok (.iload_n 2, 1) := by decide +kernel
theorem d_PL_isProphecy_244 : decode method_8_code 244 = .ok (.invokevirtual 127, 3) := by decide +kernel
theorem d_PL_isProphecy_247 : decode method_8_code 247 = .ok (.if_icmp .ne 7, 3) := by decide +kernel
theorem d_PL_isProphecy_250 : decode method_8_code 250 = .ok (.iconst 1, 1) := by decide +kernel
theorem d_PL_isProphecy_251 : decode method_8_code 251 = .ok (.goto 4, 3) := by decide +kernel
theorem d_PL_isProphecy_254 : decode method_8_code 254 = .ok (.iconst 0, 1) := by decide +kernel
theorem d_PL_isProphecy_255 : decode method_8_code 255 = .ok (.istore 4, 2) := by decide +kernel
theorem d_PL_isProphecy_257 : decode method_8_code 257 = .ok (.iload 4, 2) := by decide +kernel
theorem d_PL_isProphecy_259 : decode method_8_code 259 = .ok (.ifCond .eq 81, 3) := by decide +kernel
theorem d_PL_isProphecy_262 : decode method_8_code 262 = .ok (.aload_n 0, 1) := by decide +kernel
theorem d_PL_isProphecy_263 : decode method_8_code 263 = .ok (.iload_n 2, 1) := by decide +kernel
theorem d_PL_isProphecy_264 : decode method_8_code 264 = .ok (.invokevirtual 130, 3) := by decide +kernel
theorem d_PL_isProphecy_267 : decode method_8_code 267 = .ok (.aload_n 1, 1) := by decide +kernel
theorem d_PL_isProphecy_268 : decode method_8_code 268 = .ok (.iload_n 2, 1) := by decide +kernel
theorem d_PL_isProphecy_269 : decode method_8_code 269 = .ok (.invokevirtual 133, 3) := by decide +kernel
theorem d_PL_isProphecy_272 : decode method_8_code 272 = .ok (.if_icmp .ne 68, 3) := by decide +kernel
theorem d_PL_isProphecy_275 : decode method_8_code 275 = .ok (.aload_n 0, 1) := by decide +kernel
theorem d_PL_isProphecy_276 : decode method_8_code 276 = .ok (.iload_n 2, 1) := by decide +kernel
theorem d_PL_isProphecy_277 : decode method_8_code 277 = .ok (.invokevirtual 136, 3) := by decide +kernel
theorem d_PL_isProphecy_280 : decode method_8_code 280 = .ok (.aload_n 1, 1) := by decide +kernel
theorem d_PL_isProphecy_281 : decode method_8_code 281 = .ok (.getfield 139, 3) := by decide +kernel
theorem d_PL_isProphecy_284 : decode method_8_code 284 = .ok (.iload_n 2, 1) := by decide +kernel
theorem d_PL_isProphecy_285 : decode method_8_code 285 = .ok (.iaload, 1) := by decide +kernel
theorem d_PL_isProphecy_286 : decode method_8_code 286 = .ok (.if_icmp .ne 54, 3) := by decide +kernel
theorem d_PL_isProphecy_289 : decode method_8_code 289 = .ok (.aload_n 0, 1) := by decide +kernel
theorem d_PL_isProphecy_290 : decode method_8_code 290 = .ok (.iload_n 2, 1) := by decide +kernel
theorem d_PL_isProphecy_291 : decode method_8_code 291 = .ok (.invokevirtual 142, 3) := by decide +kernel
theorem d_PL_isProphecy_294 : decode method_8_code 294 = .ok (.aload_n 1, 1) := by decide +kernel
theorem d_PL_isProphecy_295 : decode method_8_code 295 = .ok (.iload_n 2, 1) := by decide +kernel
theorem d_PL_isProphecy_296 : decode method_8_code 296 = .ok (.invokevirtual 145, 3) := by decide +kernel
theorem d_PL_isProphecy_299 : decode method_8_code 299 = .ok (.if_icmp .ne 41, 3) := by decide +kernel
theorem d_PL_isProphecy_302 : decode method_8_code 302 = .ok (.aload_n 0, 1) := by decide +kernel
theorem d_PL_isProphecy_303 : decode method_8_code 303 = .ok (.iload_n 2, 1) := by decide +kernel
theorem d_PL_isProphecy_304 : decode method_8_code 304 = .ok (.invokevirtual 148, 3) := by decide +kernel
theorem d_PL_isProphecy_307 : decode method_8_code 307 = .ok (.aload_n 1, 1) := by decide +kernel
theorem d_PL_isProphecy_308 : decode method_8_code 308 = .ok (.getfield 115, 3) := by decide +kernel
theorem d_PL_isProphecy_311 : decode method_8_code 311 = .ok (.iload_n 2, 1) := by decide +kernel
theorem d_PL_isProphecy_312 : decode method_8_code 312 = .ok (.iaload, 1) := by decide +kernel
theorem d_PL_isProphecy_313 : decode method_8_code 313 = .ok (.ifCond .ne 19, 3) := by decide +kernel
theorem d_PL_isProphecy_316 : decode method_8_code 316 = .ok (.aload_n 1, 1) := by decide +kernel
theorem d_PL_isProphecy_317 : decode method_8_code 317 = .ok (.getfield 90, 3) := by decide +kernel
theorem d_PL_isProphecy_320 : decode method_8_code 320 = .ok (.iload_n 2, 1) := by decide +kernel
theorem d_PL_isProphecy_321 : decode method_8_code 321 = .ok (.iaload, 1) := by decide +kernel
theorem d_PL_isProphecy_322 : decode method_8_code 322 = .ok (.aload_n 1, 1) := by decide +kernel
theorem d_PL_isProphecy_323 : decode method_8_code 323 = .ok (.getfield 151, 3) := by decide +kernel
theorem d_PL_isProphecy_326 : decode method_8_code 326 = .ok (.isub, 1) := by decide +kernel
theorem d_PL_isProphecy_327 : decode method_8_code 327 = .ok (.iconst 1, 1) := by decide +kernel
theorem d_PL_isProphecy_328 : decode method_8_code 328 = .ok (.iadd, 1) := by decide +kernel
theorem d_PL_isProphecy_329 : decode method_8_code 329 = .ok (.goto 4, 3) := by decide +kernel
theorem d_PL_isProphecy_332 : decode method_8_code 332 = .ok (.iconst 0, 1) := by decide +kernel
theorem d_PL_isProphecy_333 : decode method_8_code 333 = .ok (.if_icmp .ne 7, 3) := by decide +kernel
theorem d_PL_isProphecy_336 : decode method_8_code 336 = .ok (.iconst 1, 1) := by decide +kernel
theorem d_PL_isProphecy_337 : decode method_8_code 337 = .ok (.goto 4, 3) := by decide +kernel
theorem d_PL_isProphecy_340 : decode method_8_code 340 = .ok (.iconst 0, 1) := by decide +kernel
theorem d_PL_isProphecy_341 : decode method_8_code 341 = .ok (.istore 4, 2) := by decide +kernel
theorem d_PL_isProphecy_343 : decode method_8_code 343 = .ok (.iload 4, 2) := by decide +kernel
theorem d_PL_isProphecy_345 : decode method_8_code 345 = .ok (.ifCond .eq 23, 3) := by decide +kernel
theorem d_PL_isProphecy_348 : decode method_8_code 348 = .ok (.aload_n 0, 1) := by decide +kernel
theorem d_PL_isProphecy_349 : decode method_8_code 349 = .ok (.aload_n 0, 1) := by decide +kernel
theorem d_PL_isProphecy_350 : decode method_8_code 350 = .ok (.iload_n 2, 1) := by decide +kernel
theorem d_PL_isProphecy_351 : decode method_8_code 351 = .ok (.invokevirtual 155, 3) := by decide +kernel
theorem d_PL_isProphecy_354 : decode method_8_code 354 = .ok (.aload_n 3, 1) := by decide +kernel
theorem d_PL_isProphecy_355 : decode method_8_code 355 = .ok (.invokevirtual 44, 3) := by decide +kernel
theorem d_PL_isProphecy_358 : decode method_8_code 358 = .ok (.invokestatic 158, 3) := by decide +kernel
theorem d_PL_isProphecy_361 : decode method_8_code 361 = .ok (.ifCond .eq 7, 3) := by decide +kernel
theorem d_PL_isProphecy_364 : decode method_8_code 364 = .ok (.iconst 1, 1) := by decide +kernel
theorem d_PL_isProphecy_365 : decode method_8_code 365 = .ok (.goto 4, 3) := by decide +kernel
theorem d_PL_isProphecy_368 : decode method_8_code 368 = .ok (.iconst 0, 1) := by decide +kernel
theorem d_PL_isProphecy_369 : decode method_8_code 369 = .ok (.ireturn, 1) := by decide +kernel
theorem d_PL_areEvents_0 : decode method_9_code 0 = .ok (.iconst 0, 1) := by decide +kernel
theorem d_PL_areEvents_1 : decode method_9_code 1 = .ok (.istore_n 3, 1) := by decide +kernel
theorem d_PL_areEvents_2 : decode method_9_code 2 = .ok (.iconst 0, 1) := by decide +kernel
theorem d_PL_areEvents_3 : decode method_9_code 3 = .ok (.istore 4, 2) := by decide +kernel
theorem d_PL_areEvents_5 : decode method_9_code 5 = .ok (.iconst 0, 1) := by decide +kernel
theorem d_PL_areEvents_6 : decode method_9_code 6 = .ok (.istore 5, 2) := by decide +kernel
theorem d_PL_areEvents_8 : decode method_9_code 8 = .ok (.iload 5, 2) := by decide +kernel
theorem d_PL_areEvents_10 : decode method_9_code 10 = .ok (.aload_n 1, 1) := by decide +kernel
theorem d_PL_areEvents_11 : decode method_9_code 11 = .ok (.getfield 162, 3) := by decide +kernel
theorem d_PL_areEvents_14 : decode method_9_code 14 = .ok (.if_icmp .ge 135, 3) := by decide +kernel
theorem d_PL_areEvents_17 : decode method_9_code 17 = .ok (.iconst 0, 1) := by decide +kernel
theorem d_PL_areEvents_18 : decode method_9_code 18 = .ok (.istore 6, 2) := by decide +kernel
theorem d_PL_areEvents_20 : decode method_9_code 20 = .ok (.iconst 0, 1) := by decide +kernel
theorem d_PL_areEvents_21 : decode method_9_code 21 = .ok (.istore 7, 2) := by decide +kernel
theorem d_PL_areEvents_23 : decode method_9_code 23 = .ok (.iload 7, 2) := by decide +kernel
theorem d_PL_areEvents_25 : decode method_9_code 25 = .ok (.aload_n 1, 1) := by decide +kernel
theorem d_PL_areEvents_26 : decode method_9_code 26 = .ok (.getfield 165, 3) := by decide +kernel
theorem d_PL_areEvents_29 : decode method_9_code 29 = .ok (.if_icmp .ge 91, 3) := by decide +kernel
theorem d_PL_areEvents_32 : decode method_9_code 32 = .ok (.iload 6, 2) := by decide +kernel
theorem d_PL_areEvents_34 : decode method_9_code 34 = .ok (.aload_n 1, 1) := by decide +kernel
theorem d_PL_areEvents_35 : decode method_9_code 35 = .ok (.iload 7, 2) := by decide +kernel
theorem d_PL_areEvents_37 : decode method_9_code 37 = .ok (.iload 5, 2) := by decide +kernel
theorem d_PL_areEvents_39 : decode method_9_code 39 = .ok (.invokevirtual 168, 3) := by decide +kernel
theorem d_PL_areEvents_42 : decode method_9_code 42 = .ok (.iadd, 1) := by decide +kernel
theorem d_PL_areEvents_43 : decode method_9_code 43 = .ok (.istore 6, 2) := by decide +kernel
theorem d_PL_areEvents_45 : decode method_9_code 45 = .ok (.aload_n 0, 1) := by decide +kernel
theorem d_PL_areEvents_46 : decode method_9_code 46 = .ok (.iload 7, 2) := by decide +kernel
theorem d_PL_areEvents_48 : decode method_9_code 48 = .ok (.iload 5, 2) := by decide +kernel
theorem d_PL_areEvents_50 : decode method_9_code 50 = .ok (.invokevirtual 172, 3) := by decide +kernel
theorem d_PL_areEvents_53 : decode method_9_code 53 = .ok (.aload_n 1, 1) := by decide +kernel
theorem d_PL_areEvents_54 : decode method_9_code 54 = .ok (.iload 7, 2) := by decide +kernel
theorem d_PL_areEvents_56 : decode method_9_code 56 = .ok (.iload 5, 2) := by decide +kernel
theorem d_PL_areEvents_58 : decode method_9_code 58 = .ok (.invokevirtual 168, 3) := by decide +kernel
theorem d_PL_areEvents_61 : decode method_9_code 61 = .ok (.if_icmp .ne 51, 3) := by decide +kernel
theorem d_PL_areEvents_64 : decode method_9_code 64 = .ok (.aload_n 0, 1) := by decide +kernel
theorem d_PL_areEvents_65 : decode method_9_code 65 = .ok (.iload 7, 2) := by decide +kernel
theorem d_PL_areEvents_67 : decode method_9_code 67 = .ok (.iload 5, 2) := by decide +kernel
theorem d_PL_areEvents_69 : decode method_9_code 69 = .ok (.aload_n 1, 1) := by decide +kernel
theorem d_PL_areEvents_70 : decode method_9_code 70 = .ok (.getfield 151, 3) := by decide +kernel
theorem d_PL_areEvents_73 : decode method_9_code 73 = .ok (.invokevirtual 175, 3) := by decide +kernel
theorem d_PL_areEvents_76 : decode method_9_code 76 = .ok (.aload_n 1, 1) := by decide +kernel
theorem d_PL_areEvents_77 : decode method_9_code 77 = .ok (.iload 7, 2) := by decide +kernel
theorem d_PL_areEvents_79 : decode method_9_code 79 = .ok (.iload 5, 2) := by decide +kernel
theorem d_PL_areEvents_81 : decode method_9_code 81 = .ok (.aload_n 1, 1) := by decide +kernel
theorem d_PL_areEvents_82 : decode method_9_code 82 = .ok (.getfield 151, 3) := by decide +kernel
theorem d_PL_areEvents_85 : decode method_9_code 85 = .ok (.invokevirtual 179, 3) := by decide +kernel
theorem d_PL_areEvents_88 : decode method_9_code 88 = .ok (.if_icmp .ne 24, 3) := by decide +kernel
theorem d_PL_areEvents_91 : decode method_9_code 91 = .ok (.aload_n 0, 1) := by decide +kernel
theorem d_PL_areEvents_92 : decode method_9_code 92 = .ok (.iload 7, 2) := by decide +kernel
theorem d_PL_areEvents_94 : decode method_9_code 94 = .ok (.iload 5, 2) := by decide +kernel
theorem d_PL_areEvents_96 : decode method_9_code 96 = .ok (.iload_n 2, 1) := by decide +kernel
theorem d_PL_areEvents_97 : decode method_9_code 97 = .ok (.invokevirtual 175, 3) := by decide +kernel
theorem d_PL_areEvents_100 : decode method_9_code 100 = .ok (.aload_n 1, 1) := by decide +kernel
theorem d_PL_areEvents_101 : decode method_9_code 101 = .ok (.iload 7, 2) := by decide +kernel
theorem d_PL_areEvents_103 : decode method_9_code 103 = .ok (.iload 5, 2) := by decide +kernel
theorem d_PL_areEvents_105 : decode method_9_code 105 = .ok (.iload_n 2, 1) := by decide +kernel
theorem d_PL_areEvents_106 : decode method_9_code 106 = .ok (.invokevirtual 179, 3) := by decide +kernel
theorem d_PL_areEvents_109 : decode method_9_code 109 = .ok (.if_icmp .eq 5, 3) := by decide +kernel
theorem d_PL_areEvents_112 : decode method_9_code 112 = .ok (.iconst 0, 1) := by decide +kernel
theorem d_PL_areEvents_113 : decode method_9_code 113 = .ok (.ireturn, 1) := by decide +kernel
theorem d_PL_areEvents_114 : decode method_9_code 114 = .ok (.iinc 7 1, 3) := by decide +kernel
theorem d_PL_areEvents_117 : decode method_9_code 117 = .ok (.goto (-94), 3) := by decide +kernel
theorem d_PL_areEvents_120 : decode method_9_code 120 = .ok (.iload 6, 2) := by decide +kernel
theorem d_PL_areEvents_122 : decode method_9_code 122 = .ok (.iload 4, 2) := by decide +kernel
theorem d_PL_areEvents_124 : decode method_9_code 124 = .ok (.if_icmp .le 8, 3) := by decide +kernel
theorem d_PL_areEvents_127 : decode method_9_code 127 = .ok (.iload 5, 2) := by decide +kernel
theorem d_PL_areEvents_129 : decode method_9_code 129 = .ok (.goto 4, 3) := by decide +kernel
theorem d_PL_areEvents_132 : decode method_9_code 132 = .ok (.iload_n 3, 1) := by decide +kernel
theorem d_PL_areEvents_133 : decode method_9_code 133 = .ok (.istore_n 3, 1) := by decide +kernel
theorem d_PL_areEvents_134 : decode method_9_code 134 = .ok (.iload 6, 2) := by decide +kernel
theorem d_PL_areEvents_136 : decode method_9_code 136 = .ok (.iload 4, 2) := by decide +kernel
theorem d_PL_areEvents_138 : decode method_9_code 138 = .ok (.invokestatic 182, 3) := by decide +kernel
theorem d_PL_areEvents_141 : decode method_9_code 141 = .ok (.istore 4, 2) := by decide +kernel
theorem d_PL_areEvents_143 : decode method_9_code 143 = .ok (.iinc 5 1, 3) := by decide +kernel
theorem d_PL_areEvents_146 : decode method_9_code 146 = .ok (.goto (-138), 3) := by decide +kernel
theorem d_PL_areEvents_149 : decode method_9_code 149 = .ok (.aload_n 0, 1) := by decide +kernel
theorem d_PL_areEvents_150 : decode method_9_code 150 = .ok (.invokevirtual 187, 3) := by decide +kernel
theorem d_PL_areEvents_153 : decode method_9_code 153 = .ok (.iload_n 3, 1) := by decide +kernel
theorem d_PL_areEvents_154 : decode method_9_code 154 = .ok (.if_icmp .ne 7, 3) := by decide +kernel
theorem d_PL_areEvents_157 : decode method_9_code 157 = .ok (.iconst 1, 1) := by decide +kernel
theorem d_PL_areEvents_158 : decode method_9_code 158 = .ok (.goto 4, 3) := by decide +kernel
theorem d_PL_areEvents_161 : decode method_9_code 161 = .ok (.iconst 0, 1) := by decide +kernel
theorem d_PL_areEvents_162 : decode method_9_code 162 = .ok (.ireturn, 1) := by decide +kernel
theorem d_PL_isAs_0 : decode method_10_code 0 = .ok (.new 35, 3) := by decide +kernel
theorem d_PL_isAs_3 : decode method_10_code 3 = .ok (.dup, 1) := by decide +kernel
theorem d_PL_isAs_4 : decode method_10_code 4 = .ok (.invokespecial 37, 3) := by decide +kernel
theorem d_PL_isAs_7 : decode method_10_code 7 = .ok (.astore_n 3, 1) := by decide +kernel
theorem d_PL_isAs_8 : decode method_10_code 8 = .ok (.iconst 0, 1) := by decide +kernel
theorem d_PL_isAs_9 : decode method_10_code 9 = .ok (.istore 4, 2) := by decide +kernel
theorem d_PL_isAs_11 : decode method_10_code 11 = .ok (.aload_n 1, 1) := by decide +kernel
theorem d_PL_isAs_12 : decode method_10_code 12 = .ok (.getfield 190, 3) := by decide +kernel
theorem d_PL_isAs_15 : decode method_10_code 15 = .ok (.aload_n 1, 1) := by decide +kernel
theorem d_PL_isAs_16 : decode method_10_code 16 = .ok (.iconst 0, 1) := by decide +kernel
theorem d_PL_isAs_17 : decode method_10_code 17 = .ok (.invokevirtual 193, 3) := by decide +kernel
theorem d_PL_isAs_20 : decode method_10_code 20 = .ok (.isub, 1) := by decide +kernel
theorem d_PL_isAs_21 : decode method_10_code 21 = .ok (.istore 5, 2) := by decide +kernel
theorem d_PL_isAs_23 : decode method_10_code 23 = .ok (.iconst 0, 1) := by decide +kernel
theorem d_PL_isAs_24 : decode method_10_code 24 = .ok (.istore 6, 2) := by decide +kernel
theorem d_PL_isAs_26 : decode method_10_code 26 = .ok (.iload 6, 2) := by decide +kernel
theorem d_PL_isAs_28 : decode method_10_code 28 = .ok (.aload_n 1, 1) := by decide +kernel
theorem d_PL_isAs_29 : decode method_10_code 29 = .ok (.getfield 190, 3) := by decide +kernel
theorem d_PL_isAs_32 : decode method_10_code 32 = .ok (.if_icmp .ge 33, 3) := by decide +kernel
theorem d_PL_isAs_35 : decode method_10_code 35 = .ok (.iload 4, 2) := by decide +kernel
theorem d_PL_isAs_37 : decode method_10_code 37 = .ok (.aload_n 1, 1) := by decide +kernel
theorem d_PL_isAs_38 : decode method_10_code 38 = .ok (.getfield 196, 3) := by decide +kernel
theorem d_PL_isAs_41 : decode method_10_code 41 = .ok (.iload 6, 2) := by decide +kernel
theorem d_PL_isAs_43 : decode method_10_code 43 = .ok (.iaload, 1) := by decide +kernel
theorem d_PL_isAs_44 : decode method_10_code 44 = .ok (.iadd, 1) := by decide +kernel
theorem d_PL_isAs_45 : decode method_10_code 45 = .ok (.istore 4, 2) := by decide +kernel
theorem d_PL_isAs_47 : decode method_10_code 47 = .ok (.aload_n 0, 1) := by decide +kernel
theorem d_PL_isAs_48 : decode method_10_code 48 = .ok (.aload_n 1, 1) := by decide +kernel
theorem d_PL_isAs_49 : decode method_10_code 49 = .ok (.iload 6, 2) := by decide +kernel
theorem d_PL_isAs_51 : decode method_10_code 51 = .ok (.invokestatic 199, 3) := by decide +kernel
theorem d_PL_isAs_54 : decode method_10_code 54 = .ok (.ifCond .ne 5, 3) := by decide +kernel
theorem d_PL_isAs_57 : decode method_10_code 57 = .ok (.iconst 0, 1) := by decide +kernel
theorem d_PL_isAs_58 : decode method_10_code 58 = .ok (.ireturn, 1) := by decide +kernel
theorem d_PL_isAs_59 : decode method_10_code 59 = .ok (.iinc 6 1, 3) := by decide +kernel
theorem d_PL_isAs_62 : decode method_10_code 62 = .ok (.goto (-36), 3) := by decide +kernel
theorem d_PL_isAs_65 : decode method_10_code 65 = .ok (.iconst 0, 1) := by decide +kernel
theorem d_PL_isAs_66 : decode method_10_code 66 = .ok (.istore 6, 2) := by decide +kernel
theorem d_PL_isAs_68 : decode method_10_code 68 = .ok (.iload 6, 2) := by decide +kernel
theorem d_PL_isAs_70 : decode method_10_code 70 = .ok (.aload_n 1, 1) := by decide +kernel
theorem d_PL_isAs_71 : decode method_10_code 71 = .ok (.getfield 203, 3) := by decide +kernel
theorem d_PL_isAs_74 : decode method_10_code 74 = .ok (.if_icmp .ge 27, 3) := by decide +kernel
theorem d_PL_isAs_77 : decode method_10_code 77 = .ok (.aload_n 0, 1) := by decide +kernel
theorem d_PL_isAs_78 : decode method_10_code 78 = .ok (.iload 6, 2) := by decide +kernel
theorem d_PL_isAs_80 : decode method_10_code 80 = .ok (.invokevirtual 206, 3) := by decide +kernel
theorem d_PL_isAs_83 : decode method_10_code 83 = .ok (.aload_n 1, 1) := by decide +kernel
theorem d_PL_isAs_84 : decode method_10_code 84 = .ok (.getfield 209, 3) := by decide +kernel
theorem d_PL_isAs_87 : decode method_10_code 87 = .ok (.iload 6, 2) := by decide +kernel
theorem d_PL_isAs_89 : decode method_10_code 89 = .ok (.iaload, 1) := by decide +kernel
theorem d_PL_isAs_90 : decode method_10_code 90 = .ok (.if_icmp .eq 5, 3) := by decide +kernel
theorem d_PL_isAs_93 : decode method_10_code 93 = .ok (.iconst 0, 1) := by decide +kernel
theorem d_PL_isAs_94 : decode method_10_code 94 = .ok (.ireturn, 1) := by decide +kernel
theorem d_PL_isAs_95 : decode method_10_code 95 = .ok (.iinc 6 1, 3) := by decide +kernel
theorem d_PL_isAs_98 : decode method_10_code 98 = .ok (.goto (-30), 3) := by decide +kernel
theorem d_PL_isAs_101 : decode method_10_code 101 = .ok (.iconst 0, 1) := by decide +kernel
theorem d_PL_isAs_102 : decode method_10_code 102 = .ok (.istore 6, 2) := by decide +kernel
theorem d_PL_isAs_104 : decode method_10_code 104 = .ok (.iload 6, 2) := by decide +kernel
theorem d_PL_isAs_106 : decode method_10_code 106 = .ok (.aload_n 1, 1) := by decide +kernel
theorem d_PL_isAs_107 : decode method_10_code 107 = .ok (.getfield 211, 3) := by decide +kernel
theorem d_PL_isAs_110 : decode method_10_code 110 = .ok (.if_icmp .ge 43, 3) := by decide +kernel
theorem d_PL_isAs_113 : decode method_10_code 113 = .ok (.aload_n 0, 1) := by decide +kernel
theorem d_PL_isAs_114 : decode method_10_code 114 = .ok (.iload 6, 2) := by decide +kernel
theorem d_PL_isAs_116 : decode method_10_code 116 = .ok (.invokevirtual 214, 3) := by decide +kernel
theorem d_PL_isAs_119 : decode method_10_code 119 = .ok (.aload_n 1, 1) := by decide +kernel
theorem d_PL_isAs_120 : decode method_10_code 120 = .ok (.getfield 217, 3) := by decide +kernel
theorem d_PL_isAs_123 : decode method_10_code 123 = .ok (.iload 6, 2) := by decide +kernel
theorem d_PL_isAs_125 : decode method_10_code 125 = .ok (.iaload, 1) := by decide +kernel
theorem d_PL_isAs_126 : decode method_10_code 126 = .ok (.if_icmp .ne 19, 3) := by decide +kernel
theorem d_PL_isAs_129 : decode method_10_code 129 = .ok (.aload_n 0, 1) := by decide +kernel
theorem d_PL_isAs_130 : decode method_10_code 130 = .ok (.iload 6, 2) := by decide +kernel
theorem d_PL_isAs_132 : decode method_10_code 132 = .ok (.invokevirtual 220, 3) := by decide +kernel
theorem d_PL_isAs_135 : decode method_10_code 135 = .ok (.aload_n 1, 1) := by decide +kernel
theorem d_PL_isAs_136 : decode method_10_code 136 = .ok (.getfield 223, 3) := by decide +kernel
theorem d_PL_isAs_139 : decode method_10_code 139 = .ok (.iload 6, 2) := by decide +kernel
theorem d_PL_isAs_141 : decode method_10_code 141 = .ok (.iaload, 1) := by decide +kernel
theorem d_PL_isAs_142 : decode method_10_code 142 = .ok (.if_icmp .eq 5, 3) := by decide +kernel
theorem d_PL_isAs_145 : decode method_10_code 145 = .ok (.iconst 0, 1) := by decide +kernel
theorem d_PL_isAs_146 : decode method_10_code 146 = .ok (.ireturn, 1) := by decide +kernel
theorem d_PL_isAs_147 : decode method_10_code 147 = .ok (.iinc 6 1, 3) := by decide +kernel
theorem d_PL_isAs_150 : decode method_10_code 150 = .ok (.goto (-46), 3) := by decide +kernel
theorem d_PL_isAs_153 : decode method_10_code 153 = .ok (.iconst 0, 1) := by decide +kernel
theorem d_PL_isAs_154 : decode method_10_code 154 = .ok (.istore 6, 2) := by decide +kernel
theorem d_PL_isAs_156 : decode method_10_code 156 = .ok (.iload 6, 2) := by decide +kernel
theorem d_PL_isAs_158 : decode method_10_code 158 = .ok (.iconst 4, 1) := by decide +kernel
theorem d_PL_isAs_159 : decode method_10_code 159 = .ok (.if_icmp .ge 26, 3) := by decide +kernel
theorem d_PL_isAs_162 : decode method_10_code 162 = .ok (.aload_n 0, 1) := by decide +kernel
theorem d_PL_isAs_163 : decode method_10_code 163 = .ok (.iload 6, 2) := by decide +kernel
theorem d_PL_isAs_165 : decode method_10_code 165 = .ok (.invokevirtual 226, 3) := by decide +kernel
theorem d_PL_isAs_168 : decode method_10_code 168 = .ok (.aload_n 1, 1) := by decide +kernel
theorem d_PL_isAs_169 : decode method_10_code 169 = .ok (.iload 6, 2) := by decide +kernel
theorem d_PL_isAs_171 : decode method_10_code 171 = .ok (.invokevirtual 193, 3) := by decide +kernel
theorem d_PL_isAs_174 : decode method_10_code 174 = .ok (.if_icmp .eq 5, 3) := by decide +kernel
theorem d_PL_isAs_177 : decode method_10_code 177 = .ok (.iconst 0, 1) := by decide +kernel
theorem d_PL_isAs_178 : decode method_10_code 178 = .ok (.ireturn, 1) := by decide +kernel
theorem d_PL_isAs_179 : decode method_10_code 179 = .ok (.iinc 6 1, 3) := by decide +kernel
theorem d_PL_isAs_182 : decode method_10_code 182 = .ok (.goto (-26), 3) := by decide +kernel
theorem d_PL_isAs_185 : decode method_10_code 185 = .ok (.iconst 0, 1) := by decide +kernel
theorem d_PL_isAs_186 : decode method_10_code 186 = .ok (.istore 6, 2) := by decide +kernel
theorem d_PL_isAs_188 : decode method_10_code 188 = .ok (.iload 6, 2) := by decide +kernel
theorem d_PL_isAs_190 : decode method_10_code 190 = .ok (.aload_n 1, 1) := by decide +kernel
theorem d_PL_isAs_191 : decode method_10_code 191 = .ok (.getfield 229, 3) := by decide +kernel
theorem d_PL_isAs_194 : decode method_10_code 194 = .ok (.if_icmp .ge 36, 3) := by decide +kernel
theorem d_PL_isAs_197 : decode method_10_code 197 = .ok (.aload_n 3, 1) := by decide +kernel
theorem d_PL_isAs_198 : decode method_10_code 198 = .ok (.iload 6, 2) := by decide +kernel
theorem d_PL_isAs_200 : decode method_10_code 200 = .ok (.ifCond .le 8, 3) := by decide +kernel
theorem d_PL_isAs_203 : decode method_10_code 203 = .ok (.ldc 232, 2) := by decide +kernel
theorem d_PL_isAs_205 : decode method_10_code 205 = .ok (.goto 5, 3) := by decide +kernel
theorem d_PL_isAs_208 : decode method_10_code 208 = .ok (.ldc 234, 2) := by decide +kernel
theorem d_PL_isAs_210 : decode method_10_code 210 = .ok (.invokevirtual 38, 3) := by decide +kernel
theorem d_PL_isAs_213 : decode method_10_code 213 = .ok (.aload_n 1, 1) := by decide +kernel
theorem d_PL_isAs_214 : decode method_10_code 214 = .ok (.getfield 236, 3) := by decide +kernel
theorem d_PL_isAs_217 : decode method_10_code 217 = .ok (.iload 6, 2) := by decide +kernel
theorem d_PL_isAs_219 : decode method_10_code 219 = .ok (.iaload, 1) := by decide +kernel
theorem d_PL_isAs_220 : decode method_10_code 220 = .ok (.invokevirtual 87, 3) := by decide +kernel
theorem d_PL_isAs_223 : decode method_10_code 223 = .ok (.pop, 1) := by decide +kernel
theorem d_PL_isAs_224 : decode method_10_code 224 = .ok (.iinc 6 1, 3) := by decide +kernel
theorem d_PL_isAs_227 : decode method_10_code 227 = .ok (.goto (-39), 3) := by decide +kernel
theorem d_PL_isAs_230 : decode method_10_code 230 = .ok (.aload_n 0, 1) := by decide +kernel
theorem d_PL_isAs_231 : decode method_10_code 231 = .ok (.invokevirtual 239, 3) := by decide +kernel
theorem d_PL_isAs_234 : decode method_10_code 234 = .ok (.aload_n 1, 1) := by decide +kernel
theorem d_PL_isAs_235 : decode method_10_code 235 = .ok (.getfield 151, 3) := by decide +kernel
theorem d_PL_isAs_238 : decode method_10_code 238 = .ok (.if_icmp .ne 106, 3) := by decide +kernel
theorem d_PL_isAs_241 : decode method_10_code 241 = .ok (.aload_n 0, 1) := by decide +kernel
theorem d_PL_isAs_242 : decode method_10_code 242 = .ok (.invokevirtual 241, 3) := by decide +kernel
theorem d_PL_isAs_245 : decode method_10_code 245 = .ok (.aload_n 1, 1) := by decide +kernel
theorem d_PL_isAs_246 : decode method_10_code 246 = .ok (.getfield 244, 3) := by decide +kernel
theorem d_PL_isAs_249 : decode method_10_code 249 = .ok (.if_icmp .ne 95, 3) := by decide +kernel
theorem d_PL_isAs_252 : decode method_10_code 252 = .ok (.aload_n 0, 1) := by decide +kernel
theorem d_PL_isAs_253 : decode method_10_code 253 = .ok (.invokevirtual 246, 3) := by decide +kernel
theorem d_PL_isAs_256 : decode method_10_code 256 = .ok (.aload_n 1, 1) := by decide +kernel
theorem d_PL_isAs_257 : decode method_10_code 257 = .ok (.getfield 165, 3) := by decide +kernel
theorem d_PL_isAs_260 : decode method_10_code 260 = .ok (.if_icmp .ne 84, 3) := by decide +kernel
theorem d_PL_isAs_263 : decode method_10_code 263 = .ok (.aload_n 0, 1) := by decide +kernel
theorem d_PL_isAs_264 : decode method_10_code 264 = .ok (.invokevirtual 249, 3) := by decide +kernel
theorem d_PL_isAs_267 : decode method_10_code 267 = .ok (.aload_n 1, 1) := by decide +kernel
theorem d_PL_isAs_268 : decode method_10_code 268 = .ok (.getfield 162, 3) := by decide +kernel
theorem d_PL_isAs_271 : decode method_10_code 271 = .ok (.if_icmp .ne 73, 3) := by decide +kernel
theorem d_PL_isAs_274 : decode method_10_code 274 = .ok (.aload_n 0, 1) := by decide +kernel
theorem d_PL_isAs_275 : decode method_10_code 275 = .ok (.invokevirtual 252, 3) := by decide +kernel
theorem d_PL_isAs_278 : decode method_10_code 278 = .ok (.aload_n 1, 1) := by decide +kernel
theorem d_PL_isAs_279 : decode method_10_code 279 = .ok (.getfield 203, 3) := by decide +kernel
theorem d_PL_isAs_282 : decode method_10_code 282 = .ok (.if_icmp .ne 62, 3) := by decide +kernel
theorem d_PL_isAs_285 : decode method_10_code 285 = .ok (.aload_n 0, 1) := by decide +kernel
theorem d_PL_isAs_286 : decode method_10_code 286 = .ok (.invokevirtual 255, 3) := by decide +kernel
theorem d_PL_isAs_289 : decode method_10_code 289 = .ok (.aload_n 1, 1) := by decide +kernel
theorem d_PL_isAs_290 : decode method_10_code 290 = .ok (.getfield 190, 3) := by decide +kernel
theorem d_PL_isAs_293 : decode method_10_code 293 = .ok (.if_icmp .ne 51, 3) := by decide +kernel
theorem d_PL_isAs_296 : decode method_10_code 296 = .ok (.aload_n 0, 1) := by decide +kernel
theorem d_PL_isAs_297 : decode method_10_code 297 = .ok (.invokevirtual 258, 3) := by decide +kernel
theorem d_PL_isAs_300 : decode method_10_code 300 = .ok (.aload_n 1, 1) := by decide +kernel
theorem d_PL_isAs_301 : decode method_10_code 301 = .ok (.getfield 229, 3) := by decide +kernel
theorem d_PL_isAs_304 : decode method_10_code 304 = .ok (.if_icmp .ne 40, 3) := by decide +kernel
theorem d_PL_isAs_307 : decode method_10_code 307 = .ok (.aload_n 0, 1) := by decide +kernel
theorem d_PL_isAs_308 : decode method_10_code 308 = .ok (.invokevirtual 261, 3) := by decide +kernel
theorem d_PL_isAs_311 : decode method_10_code 311 = .ok (.aload_n 1, 1) := by decide +kernel
theorem d_PL_isAs_312 : decode method_10_code 312 = .ok (.invokevirtual 264, 3) := by decide +kernel
theorem d_PL_isAs_315 : decode method_10_code 315 = .ok (.if_icmp .ne 29, 3) := by decide +kernel
theorem d_PL_isAs_318 : decode method_10_code 318 = .ok (.aload_n 0, 1) := by decide +kernel
theorem d_PL_isAs_319 : decode method_10_code 319 = .ok (.invokevirtual 267, 3) := by decide +kernel
theorem d_PL_isAs_322 : decode method_10_code 322 = .ok (.aload_n 1, 1) := by decide +kernel
theorem d_PL_isAs_323 : decode method_10_code 323 = .ok (.getfield 270, 3) := by decide +kernel
theorem d_PL_isAs_326 : decode method_10_code 326 = .ok (.if_icmp .ne 18, 3) := by decide +kernel
theorem d_PL_isAs_329 : decode method_10_code 329 = .ok (.aload_n 0, 1) := by decide +kernel
theorem d_PL_isAs_330 : decode method_10_code 330 = .ok (.invokevirtual 273, 3) := by decide +kernel
theorem d_PL_isAs_333 : decode method_10_code 333 = .ok (.aload_n 1, 1) := by decide +kernel
theorem d_PL_isAs_334 : decode method_10_code 334 = .ok (.getfield 276, 3) := by decide +kernel
theorem d_PL_isAs_337 : decode method_10_code 337 = .ok (.if_icmp .ne 7, 3) := by decide +kernel
theorem d_PL_isAs_340 : decode method_10_code 340 = .ok (.iconst 1, 1) := by decide +kernel
theorem d_PL_isAs_341 : decode method_10_code 341 = .ok (.goto 4, 3) := by decide +kernel
theorem d_PL_isAs_344 : decode method_10_code 344 = .ok (.iconst 0, 1) := by decide +kernel
theorem d_PL_isAs_345 : decode method_10_code 345 = .ok (.istore 6, 2) := by decide +kernel
theorem d_PL_isAs_347 : decode method_10_code 347 = .ok (.iload 6, 2) := by decide +kernel
theorem d_PL_isAs_349 : decode method_10_code 349 = .ok (.ifCond .eq 74, 3) := by decide +kernel
theorem d_PL_isAs_352 : decode method_10_code 352 = .ok (.aload_n 0, 1) := by decide +kernel
theorem d_PL_isAs_353 : decode method_10_code 353 = .ok (.invokevirtual 279, 3) := by decide +kernel
theorem d_PL_isAs_356 : decode method_10_code 356 = .ok (.invokestatic 283, 3) := by decide +kernel
theorem d_PL_isAs_359 : decode method_10_code 359 = .ok (.iload 5, 2) := by decide +kernel
theorem d_PL_isAs_361 : decode method_10_code 361 = .ok (.ifCond .ne 7, 3) := by decide +kernel
theorem d_PL_isAs_364 : decode method_10_code 364 = .ok (.fconst 0, 1) := by decide +kernel
theorem d_PL_isAs_365 : decode method_10_code 365 = .ok (.goto 13, 3) := by decide +kernel
theorem d_PL_isAs_368 : decode method_10_code 368 = .ok (.aload_n 1, 1) := by decide +kernel
theorem d_PL_isAs_369 : decode method_10_code 369 = .ok (.iconst 1, 1) := by decide +kernel
theorem d_PL_isAs_370 : decode method_10_code 370 = .ok (.invokevirtual 193, 3) := by decide +kernel
theorem d_PL_isAs_373 : decode method_10_code 373 = .ok (.i2f, 1) := by decide +kernel
theorem d_PL_isAs_374 : decode method_10_code 374 = .ok (.iload 5, 2) := by decide +kernel
theorem d_PL_isAs_376 : decode method_10_code 376 = .ok (.i2f, 1) := by decide +kernel
theorem d_PL_isAs_377 : decode method_10_code 377 = .ok (.fdiv, 1) := by decide +kernel
theorem d_PL_isAs_378 : decode method_10_code 378 = .ok (.invokestatic 283, 3) := by decide +kernel
theorem d_PL_isAs_381 : decode method_10_code 381 = .ok (.if_icmp .ne 42, 3) := by decide +kernel
theorem d_PL_isAs_384 : decode method_10_code 384 = .ok (.aload_n 0, 1) := by decide +kernel
theorem d_PL_isAs_385 : decode method_10_code 385 = .ok (.invokevirtual 289, 3) := by decide +kernel
theorem d_PL_isAs_388 : decode method_10_code 388 = .ok (.aload_n 1, 1) := by decide +kernel
theorem d_PL_isAs_389 : decode method_10_code 389 = .ok (.getfield 190, 3) := by decide +kernel
theorem d_PL_isAs_392 : decode method_10_code 392 = .ok (.ifCond .ne 7, 3) := by decide +kernel
theorem d_PL_isAs_395 : decode method_10_code 395 = .ok (.dconst 0, 1) := by decide +kernel
theorem d_PL_isAs_396 : decode method_10_code 396 = .ok (.goto 12, 3) := by decide +kernel
theorem d_PL_isAs_399 : decode method_10_code 399 = .ok (.iload 4, 2) := by decide +kernel
theorem d_PL_isAs_401 : decode method_10_code 401 = .ok (.i2d, 1) := by decide +kernel
theorem d_PL_isAs_402 : decode method_10_code 402 = .ok (.aload_n 1, 1) := by decide +kernel
theorem d_PL_isAs_403 : decode method_10_code 403 = .ok (.getfield 190, 3) := by decide +kernel
theorem d_PL_isAs_406 : decode method_10_code 406 = .ok (.i2d, 1) := by decide +kernel
theorem d_PL_isAs_407 : decode method_10_code 407 = .ok (.ddiv, 1) := by decide +kernel
theorem d_PL_isAs_408 : decode method_10_code 408 = .ok (.dcmp .l, 1) := by decide +kernel
theorem d_PL_isAs_409 : decode method_10_code 409 = .ok (.ifCond .ne 14, 3) := by decide +kernel
theorem d_PL_isAs_412 : decode method_10_code 412 = .ok (.aload_n 0, 1) := by decide +kernel
theorem d_PL_isAs_413 : decode method_10_code 413 = .ok (.invokevirtual 293, 3) := by decide +kernel
theorem d_PL_isAs_416 : decode method_10_code 416 = .ok (.ifCond .ne 7, 3) := by decide +kernel
theorem d_PL_isAs_419 : decode method_10_code 419 = .ok (.iconst 1, 1) := by decide +kernel
theorem d_PL_isAs_420 : decode method_10_code 420 = .ok (.goto 4, 3) := by decide +kernel
theorem d_PL_isAs_423 : decode method_10_code 423 = .ok (.iconst 0, 1) := by decide +kernel
theorem d_PL_isAs_424 : decode method_10_code 424 = .ok (.istore 6, 2) := by decide +kernel
theorem d_PL_isAs_426 : decode method_10_code 426 = .ok (.iload 6, 2) := by decide +kernel
theorem d_PL_isAs_428 : decode method_10_code 428 = .ok (.ifCond .eq 31, 3) := by decide +kernel
theorem d_PL_isAs_431 : decode method_10_code 431 = .ok (.aload_n 0, 1) := by decide +kernel
theorem d_PL_isAs_432 : decode method_10_code 432 = .ok (.aload_n 1, 1) := by decide +kernel
theorem d_PL_isAs_433 : decode method_10_code 433 = .ok (.iload_n 2, 1) := by decide +kernel
theorem d_PL_isAs_434 : decode method_10_code 434 = .ok (.invokestatic 296, 3) := by decide +kernel
theorem d_PL_isAs_437 : decode method_10_code 437 = .ok (.ifCond .eq 22, 3) := by decide +kernel
theorem d_PL_isAs_440 : decode method_10_code 440 = .ok (.aload_n 0, 1) := by decide +kernel
theorem d_PL_isAs_441 : decode method_10_code 441 = .ok (.aload_n 0, 1) := by decide +kernel
theorem d_PL_isAs_442 : decode method_10_code 442 = .ok (.invokevirtual 299, 3) := by decide +kernel
theorem d_PL_isAs_445 : decode method_10_code 445 = .ok (.aload_n 3, 1) := by decide +kernel
theorem d_PL_isAs_446 : decode method_10_code 446 = .ok (.invokevirtual 44, 3) := by decide +kernel
theorem d_PL_isAs_449 : decode method_10_code 449 = .ok (.invokestatic 158, 3) := by decide +kernel
theorem d_PL_isAs_452 : decode method_10_code 452 = .ok (.ifCond .eq 7, 3) := by decide +kernel
theorem d_PL_isAs_455 : decode method_10_code 455 = .ok (.iconst 1, 1) := by decide +kernel
theorem d_PL_isAs_456 : decode method_10_code 456 = .ok (.goto 4, 3) := by decide +kernel
theorem d_PL_isAs_459 : decode method_10_code 459 = .ok (.iconst 0, 1) := by decide +kernel
theorem d_PL_isAs_460 : decode method_10_code 460 = .ok (.ireturn, 1) := by decide +kernel
theorem d_PL_isForetold_0 : decode method_11_code 0 = .ok (.aload_n 1, 1) := by decide +kernel
theorem d_PL_isForetold_1 : decode method_11_code 1 = .ok (.invokevirtual 302, 3) := by decide +kernel
