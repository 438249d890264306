/-! The law's own instructions. -/
theorem d_law_0 : decode code 0 = .ok (.new 8, 3) := by decide +kernel
theorem d_law_3 : decode code 3 = .ok (.dup, 1) := by decide +kernel
theorem d_law_4 : decode code 4 = .ok (.invokespecial 123, 3) := by decide +kernel
theorem d_law_7 : decode code 7 = .ok (.astore_n 1, 1) := by decide +kernel
theorem d_law_8 : decode code 8 = .ok (.new 124, 3) := by decide +kernel
theorem d_law_11 : decode code 11 = .ok (.dup, 1) := by decide +kernel
theorem d_law_12 : decode code 12 = .ok (.invokespecial 126, 3) := by decide +kernel
theorem d_law_15 : decode code 15 = .ok (.astore_n 2, 1) := by decide +kernel
theorem d_law_16 : decode code 16 = .ok (.iconst 1, 1) := by decide +kernel
theorem d_law_17 : decode code 17 = .ok (.newarray .long, 2) := by decide +kernel
theorem d_law_19 : decode code 19 = .ok (.astore_n 3, 1) := by decide +kernel
theorem d_law_20 : decode code 20 = .ok (.iconst 0, 1) := by decide +kernel
theorem d_law_21 : decode code 21 = .ok (.istore 4, 2) := by decide +kernel
theorem d_law_23 : decode code 23 = .ok (.iload 4, 2) := by decide +kernel
theorem d_law_25 : decode code 25 = .ok (.aload_n 0, 1) := by decide +kernel
theorem d_law_26 : decode code 26 = .ok (.arraylength, 1) := by decide +kernel
theorem d_law_27 : decode code 27 = .ok (.bipush 7, 2) := by decide +kernel
theorem d_law_29 : decode code 29 = .ok (.isub, 1) := by decide +kernel
theorem d_law_30 : decode code 30 = .ok (.if_icmp .gt 2726, 3) := by decide +kernel
theorem d_law_33 : decode code 33 = .ok (.aload_n 0, 1) := by decide +kernel
theorem d_law_34 : decode code 34 = .ok (.iload 4, 2) := by decide +kernel
theorem d_law_36 : decode code 36 = .ok (.iaload, 1) := by decide +kernel
theorem d_law_37 : decode code 37 = .ok (.bipush 63, 2) := by decide +kernel
theorem d_law_39 : decode code 39 = .ok (.iand, 1) := by decide +kernel
theorem d_law_40 : decode code 40 = .ok (.tableswitch 2710 0 54 #[236, 340, 396, 409, 422, 435, 448, 461, 474, 487, 500, 513, 526, 582, 650, 737, 750, 763, 819, 875, 931, 994, 1050, 1106, 1162, 1218, 1274, 1287, 1343, 1399, 1455, 1468, 1524, 1580, 1636, 1649, 1662, 1705, 1746, 1759, 1815, 1871, 1927, 2045, 2149, 2267, 2335, 2391, 2447, 2503, 2516, 2541, 2554, 2598, 2654], 236) := by decide +kernel
theorem d_law_276 : decode code 276 = .ok (.aload_n 1, 1) := by decide +kernel
theorem d_law_277 : decode code 277 = .ok (.aload_n 0, 1) := by decide +kernel
theorem d_law_278 : decode code 278 = .ok (.iload 4, 2) := by decide +kernel
theorem d_law_280 : decode code 280 = .ok (.iconst 1, 1) := by decide +kernel
theorem d_law_281 : decode code 281 = .ok (.iadd, 1) := by decide +kernel
theorem d_law_282 : decode code 282 = .ok (.iaload, 1) := by decide +kernel
theorem d_law_283 : decode code 283 = .ok (.aload_n 0, 1) := by decide +kernel
theorem d_law_284 : decode code 284 = .ok (.iload 4, 2) := by decide +kernel
theorem d_law_286 : decode code 286 = .ok (.iconst 2, 1) := by decide +kernel
theorem d_law_287 : decode code 287 = .ok (.iadd, 1) := by decide +kernel
theorem d_law_288 : decode code 288 = .ok (.iaload, 1) := by decide +kernel
theorem d_law_289 : decode code 289 = .ok (.aload_n 0, 1) := by decide +kernel
theorem d_law_290 : decode code 290 = .ok (.iload 4, 2) := by decide +kernel
theorem d_law_292 : decode code 292 = .ok (.iconst 3, 1) := by decide +kernel
theorem d_law_293 : decode code 293 = .ok (.iadd, 1) := by decide +kernel
theorem d_law_294 : decode code 294 = .ok (.iaload, 1) := by decide +kernel
theorem d_law_295 : decode code 295 = .ok (.aload_n 0, 1) := by decide +kernel
theorem d_law_296 : decode code 296 = .ok (.iload 4, 2) := by decide +kernel
theorem d_law_298 : decode code 298 = .ok (.iconst 4, 1) := by decide +kernel
theorem d_law_299 : decode code 299 = .ok (.iadd, 1) := by decide +kernel
theorem d_law_300 : decode code 300 = .ok (.iaload, 1) := by decide +kernel
theorem d_law_301 : decode code 301 = .ok (.aload_n 0, 1) := by decide +kernel
theorem d_law_302 : decode code 302 = .ok (.iload 4, 2) := by decide +kernel
theorem d_law_304 : decode code 304 = .ok (.iconst 5, 1) := by decide +kernel
theorem d_law_305 : decode code 305 = .ok (.iadd, 1) := by decide +kernel
theorem d_law_306 : decode code 306 = .ok (.iaload, 1) := by decide +kernel
theorem d_law_307 : decode code 307 = .ok (.aload_n 3, 1) := by decide +kernel
theorem d_law_308 : decode code 308 = .ok (.invokestatic 127, 3) := by decide +kernel
theorem d_law_311 : decode code 311 = .ok (.istore 5, 2) := by decide +kernel
theorem d_law_313 : decode code 313 = .ok (.aload_n 2, 1) := by decide +kernel
theorem d_law_314 : decode code 314 = .ok (.aload_n 0, 1) := by decide +kernel
theorem d_law_315 : decode code 315 = .ok (.iload 4, 2) := by decide +kernel
theorem d_law_317 : decode code 317 = .ok (.iconst 1, 1) := by decide +kernel
theorem d_law_318 : decode code 318 = .ok (.iadd, 1) := by decide +kernel
theorem d_law_319 : decode code 319 = .ok (.iaload, 1) := by decide +kernel
theorem d_law_320 : decode code 320 = .ok (.aload_n 0, 1) := by decide +kernel
theorem d_law_321 : decode code 321 = .ok (.iload 4, 2) := by decide +kernel
theorem d_law_323 : decode code 323 = .ok (.iconst 2, 1) := by decide +kernel
theorem d_law_324 : decode code 324 = .ok (.iadd, 1) := by decide +kernel
theorem d_law_325 : decode code 325 = .ok (.iaload, 1) := by decide +kernel
theorem d_law_326 : decode code 326 = .ok (.aload_n 0, 1) := by decide +kernel
theorem d_law_327 : decode code 327 = .ok (.iload 4, 2) := by decide +kernel
theorem d_law_329 : decode code 329 = .ok (.iconst 3, 1) := by decide +kernel
theorem d_law_330 : decode code 330 = .ok (.iadd, 1) := by decide +kernel
theorem d_law_331 : decode code 331 = .ok (.iaload, 1) := by decide +kernel
theorem d_law_332 : decode code 332 = .ok (.aload_n 0, 1) := by decide +kernel
theorem d_law_333 : decode code 333 = .ok (.iload 4, 2) := by decide +kernel
theorem d_law_335 : decode code 335 = .ok (.iconst 4, 1) := by decide +kernel
theorem d_law_336 : decode code 336 = .ok (.iadd, 1) := by decide +kernel
theorem d_law_337 : decode code 337 = .ok (.iaload, 1) := by decide +kernel
theorem d_law_338 : decode code 338 = .ok (.aload_n 0, 1) := by decide +kernel
theorem d_law_339 : decode code 339 = .ok (.iload 4, 2) := by decide +kernel
theorem d_law_341 : decode code 341 = .ok (.iconst 5, 1) := by decide +kernel
theorem d_law_342 : decode code 342 = .ok (.iadd, 1) := by decide +kernel
theorem d_law_343 : decode code 343 = .ok (.iaload, 1) := by decide +kernel
theorem d_law_344 : decode code 344 = .ok (.invokevirtual 132, 3) := by decide +kernel
theorem d_law_347 : decode code 347 = .ok (.istore 6, 2) := by decide +kernel
theorem d_law_349 : decode code 349 = .ok (.aload_n 2, 1) := by decide +kernel
theorem d_law_350 : decode code 350 = .ok (.invokevirtual 133, 3) := by decide +kernel
theorem d_law_353 : decode code 353 = .ok (.iload 5, 2) := by decide +kernel
theorem d_law_355 : decode code 355 = .ok (.if_icmp .eq 5, 3) := by decide +kernel
theorem d_law_358 : decode code 358 = .ok (.iconst 0, 1) := by decide +kernel
theorem d_law_359 : decode code 359 = .ok (.ireturn, 1) := by decide +kernel
theorem d_law_360 : decode code 360 = .ok (.iload 5, 2) := by decide +kernel
theorem d_law_362 : decode code 362 = .ok (.ifCond .ne 15, 3) := by decide +kernel
theorem d_law_365 : decode code 365 = .ok (.aload_n 3, 1) := by decide +kernel
theorem d_law_366 : decode code 366 = .ok (.iconst 0, 1) := by decide +kernel
theorem d_law_367 : decode code 367 = .ok (.laload, 1) := by decide +kernel
theorem d_law_368 : decode code 368 = .ok (.iload 6, 2) := by decide +kernel
theorem d_law_370 : decode code 370 = .ok (.i2l, 1) := by decide +kernel
theorem d_law_371 : decode code 371 = .ok (.lcmp, 1) := by decide +kernel
theorem d_law_372 : decode code 372 = .ok (.ifCond .eq 5, 3) := by decide +kernel
theorem d_law_375 : decode code 375 = .ok (.iconst 0, 1) := by decide +kernel
theorem d_law_376 : decode code 376 = .ok (.ireturn, 1) := by decide +kernel
theorem d_law_377 : decode code 377 = .ok (.goto 2373, 3) := by decide +kernel
theorem d_law_380 : decode code 380 = .ok (.aload_n 1, 1) := by decide +kernel
theorem d_law_381 : decode code 381 = .ok (.aload_n 0, 1) := by decide +kernel
theorem d_law_382 : decode code 382 = .ok (.iload 4, 2) := by decide +kernel
theorem d_law_384 : decode code 384 = .ok (.iconst 1, 1) := by decide +kernel
theorem d_law_385 : decode code 385 = .ok (.iadd, 1) := by decide +kernel
theorem d_law_386 : decode code 386 = .ok (.iaload, 1) := by decide +kernel
theorem d_law_387 : decode code 387 = .ok (.aload_n 3, 1) := by decide +kernel
theorem d_law_388 : decode code 388 = .ok (.invokestatic 136, 3) := by decide +kernel
theorem d_law_391 : decode code 391 = .ok (.istore 5, 2) := by decide +kernel
theorem d_law_393 : decode code 393 = .ok (.aload_n 2, 1) := by decide +kernel
theorem d_law_394 : decode code 394 = .ok (.aload_n 0, 1) := by decide +kernel
theorem d_law_395 : decode code 395 = .ok (.iload 4, 2) := by decide +kernel
theorem d_law_397 : decode code 397 = .ok (.iconst 1, 1) := by decide +kernel
theorem d_law_398 : decode code 398 = .ok (.iadd, 1) := by decide +kernel
theorem d_law_399 : decode code 399 = .ok (.iaload, 1) := by decide +kernel
theorem d_law_400 : decode code 400 = .ok (.invokevirtual 139, 3) := by decide +kernel
theorem d_law_403 : decode code 403 = .ok (.istore 6, 2) := by decide +kernel
theorem d_law_405 : decode code 405 = .ok (.aload_n 2, 1) := by decide +kernel
theorem d_law_406 : decode code 406 = .ok (.invokevirtual 133, 3) := by decide +kernel
theorem d_law_409 : decode code 409 = .ok (.iload 5, 2) := by decide +kernel
theorem d_law_411 : decode code 411 = .ok (.if_icmp .eq 5, 3) := by decide +kernel
theorem d_law_414 : decode code 414 = .ok (.iconst 0, 1) := by decide +kernel
theorem d_law_415 : decode code 415 = .ok (.ireturn, 1) := by decide +kernel
theorem d_law_416 : decode code 416 = .ok (.iload 5, 2) := by decide +kernel
theorem d_law_418 : decode code 418 = .ok (.ifCond .ne 15, 3) := by decide +kernel
theorem d_law_421 : decode code 421 = .ok (.aload_n 3, 1) := by decide +kernel
theorem d_law_422 : decode code 422 = .ok (.iconst 0, 1) := by decide +kernel
theorem d_law_423 : decode code 423 = .ok (.laload, 1) := by decide +kernel
theorem d_law_424 : decode code 424 = .ok (.iload 6, 2) := by decide +kernel
theorem d_law_426 : decode code 426 = .ok (.i2l, 1) := by decide +kernel
theorem d_law_427 : decode code 427 = .ok (.lcmp, 1) := by decide +kernel
theorem d_law_428 : decode code 428 = .ok (.ifCond .eq 5, 3) := by decide +kernel
theorem d_law_431 : decode code 431 = .ok (.iconst 0, 1) := by decide +kernel
theorem d_law_432 : decode code 432 = .ok (.ireturn, 1) := by decide +kernel
theorem d_law_433 : decode code 433 = .ok (.goto 2317, 3) := by decide +kernel
theorem d_law_436 : decode code 436 = .ok (.aload_n 1, 1) := by decide +kernel
theorem d_law_437 : decode code 437 = .ok (.invokevirtual 140, 3) := by decide +kernel
theorem d_law_440 : decode code 440 = .ok (.aload_n 2, 1) := by decide +kernel
theorem d_law_441 : decode code 441 = .ok (.invokevirtual 143, 3) := by decide +kernel
theorem d_law_444 : decode code 444 = .ok (.if_icmp .eq 2306, 3) := by decide +kernel
theorem d_law_447 : decode code 447 = .ok (.iconst 0, 1) := by decide +kernel
theorem d_law_448 : decode code 448 = .ok (.ireturn, 1) := by decide +kernel
theorem d_law_449 : decode code 449 = .ok (.aload_n 1, 1) := by decide +kernel
theorem d_law_450 : decode code 450 = .ok (.invokevirtual 144, 3) := by decide +kernel
theorem d_law_453 : decode code 453 = .ok (.aload_n 2, 1) := by decide +kernel
theorem d_law_454 : decode code 454 = .ok (.invokevirtual 147, 3) := by decide +kernel
theorem d_law_457 : decode code 457 = .ok (.if_icmp .eq 2293, 3) := by decide +kernel
theorem d_law_460 : decode code 460 = .ok (.iconst 0, 1) := by decide +kernel
theorem d_law_461 : decode code 461 = .ok (.ireturn, 1) := by decide +kernel
theorem d_law_462 : decode code 462 = .ok (.aload_n 1, 1) := by decide +kernel
theorem d_law_463 : decode code 463 = .ok (.invokevirtual 148, 3) := by decide +kernel
theorem d_law_466 : decode code 466 = .ok (.aload_n 2, 1) := by decide +kernel
theorem d_law_467 : decode code 467 = .ok (.invokevirtual 151, 3) := by decide +kernel
theorem d_law_470 : decode code 470 = .ok (.if_icmp .eq 2280, 3) := by decide +kernel
theorem d_law_473 : decode code 473 = .ok (.iconst 0, 1) := by decide +kernel
theorem d_law_474 : decode code 474 = .ok (.ireturn, 1) := by decide +kernel
theorem d_law_475 : decode code 475 = .ok (.aload_n 1, 1) := by decide +kernel
theorem d_law_476 : decode code 476 = .ok (.invokevirtual 152, 3) := by decide +kernel
theorem d_law_479 : decode code 479 = .ok (.aload_n 2, 1) := by decide +kernel
theorem d_law_480 : decode code 480 = .ok (.invokevirtual 155, 3) := by decide +kernel
theorem d_law_483 : decode code 483 = .ok (.if_icmp .eq 2267, 3) := by decide +kernel
theorem d_law_486 : decode code 486 = .ok (.iconst 0, 1) := by decide +kernel
theorem d_law_487 : decode code 487 = .ok (.ireturn, 1) := by decide +kernel
theorem d_law_488 : decode code 488 = .ok (.aload_n 1, 1) := by decide +kernel
theorem d_law_489 : decode code 489 = .ok (.invokevirtual 156, 3) := by decide +kernel
theorem d_law_492 : decode code 492 = .ok (.aload_n 2, 1) := by decide +kernel
theorem d_law_493 : decode code 493 = .ok (.invokevirtual 159, 3) := by decide +kernel
theorem d_law_496 : decode code 496 = .ok (.if_icmp .eq 2254, 3) := by decide +kernel
theorem d_law_499 : decode code 499 = .ok (.iconst 0, 1) := by decide +kernel
theorem d_law_500 : decode code 500 = .ok (.ireturn, 1) := by decide +kernel
theorem d_law_501 : decode code 501 = .ok (.aload_n 1, 1) := by decide +kernel
theorem d_law_502 : decode code 502 = .ok (.invokevirtual 160, 3) := by decide +kernel
theorem d_law_505 : decode code 505 = .ok (.aload_n 2, 1) := by decide +kernel
theorem d_law_506 : decode code 506 = .ok (.invokevirtual 163, 3) := by decide +kernel
theorem d_law_509 : decode code 509 = .ok (.if_icmp .eq 2241, 3) := by decide +kernel
theorem d_law_512 : decode code 512 = .ok (.iconst 0, 1) := by decide +kernel
theorem d_law_513 : decode code 513 = .ok (.ireturn, 1) := by decide +kernel
theorem d_law_514 : decode code 514 = .ok (.aload_n 1, 1) := by decide +kernel
theorem d_law_515 : decode code 515 = .ok (.invokevirtual 164, 3) := by decide +kernel
theorem d_law_518 : decode code 518 = .ok (.aload_n 2, 1) := by decide +kernel
theorem d_law_519 : decode code 519 = .ok (.invokevirtual 167, 3) := by decide +kernel
theorem d_law_522 : decode code 522 = .ok (.if_icmp .eq 2228, 3) := by decide +kernel
theorem d_law_525 : decode code 525 = .ok (.iconst 0, 1) := by decide +kernel
theorem d_law_526 : decode code 526 = .ok (.ireturn, 1) := by decide +kernel
theorem d_law_527 : decode code 527 = .ok (.aload_n 1, 1) := by decide +kernel
theorem d_law_528 : decode code 528 = .ok (.invokevirtual 168, 3) := by decide +kernel
theorem d_law_531 : decode code 531 = .ok (.aload_n 2, 1) := by decide +kernel
theorem d_law_532 : decode code 532 = .ok (.invokevirtual 171, 3) := by decide +kernel
theorem d_law_535 : decode code 535 = .ok (.if_icmp .eq 2215, 3) := by decide +kernel
theorem d_law_538 : decode code 538 = .ok (.iconst 0, 1) := by decide +kernel
theorem d_law_539 : decode code 539 = .ok (.ireturn, 1) := by decide +kernel
theorem d_law_540 : decode code 540 = .ok (.aload_n 1, 1) := by decide +kernel
theorem d_law_541 : decode code 541 = .ok (.invokevirtual 172, 3) := by decide +kernel
theorem d_law_544 : decode code 544 = .ok (.aload_n 2, 1) := by decide +kernel
theorem d_law_545 : decode code 545 = .ok (.invokevirtual 175, 3) := by decide +kernel
theorem d_law_548 : decode code 548 = .ok (.if_icmp .eq 2202, 3) := by decide +kernel
theorem d_law_551 : decode code 551 = .ok (.iconst 0, 1) := by decide +kernel
theorem d_law_552 : decode code 552 = .ok (.ireturn, 1) := by decide +kernel
theorem d_law_553 : decode code 553 = .ok (.aload_n 1, 1) := by decide +kernel
theorem d_law_554 : decode code 554 = .ok (.invokevirtual 176, 3) := by decide +kernel
theorem d_law_557 : decode code 557 = .ok (.aload_n 2, 1) := by decide +kernel
theorem d_law_558 : decode code 558 = .ok (.invokevirtual 179, 3) := by decide +kernel
theorem d_law_561 : decode code 561 = .ok (.if_icmp .eq 2189, 3) := by decide +kernel
theorem d_law_564 : decode code 564 = .ok (.iconst 0, 1) := by decide +kernel
theorem d_law_565 : decode code 565 = .ok (.ireturn, 1) := by decide +kernel
theorem d_law_566 : decode code 566 = .ok (.aload_n 1, 1) := by decide +kernel
theorem d_law_567 : decode code 567 = .ok (.aload_n 0, 1) := by decide +kernel
theorem d_law_568 : decode code 568 = .ok (.iload 4, 2) := by decide +kernel
theorem d_law_570 : decode code 570 = .ok (.iconst 1, 1) := by decide +kernel
theorem d_law_571 : decode code 571 = .ok (.iadd, 1) := by decide +kernel
theorem d_law_572 : decode code 572 = .ok (.iaload, 1) := by decide +kernel
theorem d_law_573 : decode code 573 = .ok (.aload_n 3, 1) := by decide +kernel
theorem d_law_574 : decode code 574 = .ok (.invokestatic 180, 3) := by decide +kernel
theorem d_law_577 : decode code 577 = .ok (.istore 5, 2) := by decide +kernel
theorem d_law_579 : decode code 579 = .ok (.aload_n 2, 1) := by decide +kernel
theorem d_law_580 : decode code 580 = .ok (.aload_n 0, 1) := by decide +kernel
theorem d_law_581 : decode code 581 = .ok (.iload 4, 2) := by decide +kernel
theorem d_law_583 : decode code 583 = .ok (.iconst 1, 1) := by decide +kernel
theorem d_law_584 : decode code 584 = .ok (.iadd, 1) := by decide +kernel
theorem d_law_585 : decode code 585 = .ok (.iaload, 1) := by decide +kernel
theorem d_law_586 : decode code 586 = .ok (.invokevirtual 182, 3) := by decide +kernel
theorem d_law_589 : decode code 589 = .ok (.istore 6, 2) := by decide +kernel
theorem d_law_591 : decode code 591 = .ok (.aload_n 2, 1) := by decide +kernel
theorem d_law_592 : decode code 592 = .ok (.invokevirtual 133, 3) := by decide +kernel
theorem d_law_595 : decode code 595 = .ok (.iload 5, 2) := by decide +kernel
theorem d_law_597 : decode code 597 = .ok (.if_icmp .eq 5, 3) := by decide +kernel
theorem d_law_600 : decode code 600 = .ok (.iconst 0, 1) := by decide +kernel
theorem d_law_601 : decode code 601 = .ok (.ireturn, 1) := by decide +kernel
theorem d_law_602 : decode code 602 = .ok (.iload 5, 2) := by decide +kernel
theorem d_law_604 : decode code 604 = .ok (.ifCond .ne 15, 3) := by decide +kernel
theorem d_law_607 : decode code 607 = .ok (.aload_n 3, 1) := by decide +kernel
theorem d_law_608 : decode code 608 = .ok (.iconst 0, 1) := by decide +kernel
theorem d_law_609 : decode code 609 = .ok (.laload, 1) := by decide +kernel
theorem d_law_610 : decode code 610 = .ok (.iload 6, 2) := by decide +kernel
theorem d_law_612 : decode code 612 = .ok (.i2l, 1) := by decide +kernel
theorem d_law_613 : decode code 613 = .ok (.lcmp, 1) := by decide +kernel
theorem d_law_614 : decode code 614 = .ok (.ifCond .eq 5, 3) := by decide +kernel
theorem d_law_617 : decode code 617 = .ok (.iconst 0, 1) := by decide +kernel
theorem d_law_618 : decode code 618 = .ok (.ireturn, 1) := by decide +kernel
theorem d_law_619 : decode code 619 = .ok (.goto 2131, 3) := by decide +kernel
theorem d_law_622 : decode code 622 = .ok (.aload_n 1, 1) := by decide +kernel
theorem d_law_623 : decode code 623 = .ok (.aload_n 0, 1) := by decide +kernel
theorem d_law_624 : decode code 624 = .ok (.iload 4, 2) := by decide +kernel
theorem d_law_626 : decode code 626 = .ok (.iconst 1, 1) := by decide +kernel
theorem d_law_627 : decode code 627 = .ok (.iadd, 1) := by decide +kernel
theorem d_law_628 : decode code 628 = .ok (.iaload, 1) := by decide +kernel
theorem d_law_629 : decode code 629 = .ok (.aload_n 0, 1) := by decide +kernel
theorem d_law_630 : decode code 630 = .ok (.iload 4, 2) := by decide +kernel
theorem d_law_632 : decode code 632 = .ok (.iconst 2, 1) := by decide +kernel
theorem d_law_633 : decode code 633 = .ok (.iadd, 1) := by decide +kernel
theorem d_law_634 : decode code 634 = .ok (.iaload, 1) := by decide +kernel
theorem d_law_635 : decode code 635 = .ok (.aload_n 3, 1) := by decide +kernel
theorem d_law_636 : decode code 636 = .ok (.invokestatic 183, 3) := by decide +kernel
theorem d_law_639 : decode code 639 = .ok (.istore 5, 2) := by decide +kernel
theorem d_law_641 : decode code 641 = .ok (.aload_n 2, 1) := by decide +kernel
theorem d_law_642 : decode code 642 = .ok (.aload_n 0, 1) := by decide +kernel
theorem d_law_643 : decode code 643 = .ok (.iload 4, 2) := by decide +kernel
theorem d_law_645 : decode code 645 = .ok (.iconst 1, 1) := by decide +kernel
theorem d_law_646 : decode code 646 = .ok (.iadd, 1) := by decide +kernel
theorem d_law_647 : decode code 647 = .ok (.iaload, 1) := by decide +kernel
theorem d_law_648 : decode code 648 = .ok (.aload_n 0, 1) := by decide +kernel
theorem d_law_649 : decode code 649 = .ok (.iload 4, 2) := by decide +kernel
theorem d_law_651 : decode code 651 = .ok (.iconst 2, 1) := by decide +kernel
theorem d_law_652 : decode code 652 = .ok (.iadd, 1) := by decide +kernel
theorem d_law_653 : decode code 653 = .ok (.iaload, 1) := by decide +kernel
theorem d_law_654 : decode code 654 = .ok (.invokevirtual 186, 3) := by decide +kernel
theorem d_law_657 : decode code 657 = .ok (.istore 6, 2) := by decide +kernel
theorem d_law_659 : decode code 659 = .ok (.aload_n 2, 1) := by decide +kernel
theorem d_law_660 : decode code 660 = .ok (.invokevirtual 133, 3) := by decide +kernel
theorem d_law_663 : decode code 663 = .ok (.iload 5, 2) := by decide +kernel
theorem d_law_665 : decode code 665 = .ok (.if_icmp .eq 5, 3) := by decide +kernel
theorem d_law_668 : decode code 668 = .ok (.iconst 0, 1) := by decide +kernel
theorem d_law_669 : decode code 669 = .ok (.ireturn, 1) := by decide +kernel
theorem d_law_670 : decode code 670 = .ok (.iload 5, 2) := by decide +kernel
theorem d_law_672 : decode code 672 = .ok (.ifCond .ne 15, 3) := by decide +kernel
theorem d_law_675 : decode code 675 = .ok (.aload_n 3, 1) := by decide +kernel
theorem d_law_676 : decode code 676 = .ok (.iconst 0, 1) := by decide +kernel
theorem d_law_677 : decode code 677 = .ok (.laload, 1) := by decide +kernel
theorem d_law_678 : decode code 678 = .ok (.iload 6, 2) := by decide +kernel
theorem d_law_680 : decode code 680 = .ok (.i2l, 1) := by decide +kernel
theorem d_law_681 : decode code 681 = .ok (.lcmp, 1) := by decide +kernel
theorem d_law_682 : decode code 682 = .ok (.ifCond .eq 5, 3) := by decide +kernel
theorem d_law_685 : decode code 685 = .ok (.iconst 0, 1) := by decide +kernel
theorem d_law_686 : decode code 686 = .ok (.ireturn, 1) := by decide +kernel
theorem d_law_687 : decode code 687 = .ok (.goto 2063, 3) := by decide +kernel
theorem d_law_690 : decode code 690 = .ok (.aload_n 1, 1) := by decide +kernel
theorem d_law_691 : decode code 691 = .ok (.aload_n 0, 1) := by decide +kernel
theorem d_law_692 : decode code 692 = .ok (.iload 4, 2) := by decide +kernel
theorem d_law_694 : decode code 694 = .ok (.iconst 1, 1) := by decide +kernel
theorem d_law_695 : decode code 695 = .ok (.iadd, 1) := by decide +kernel
theorem d_law_696 : decode code 696 = .ok (.iaload, 1) := by decide +kernel
theorem d_law_697 : decode code 697 = .ok (.aload_n 0, 1) := by decide +kernel
theorem d_law_698 : decode code 698 = .ok (.iload 4, 2) := by decide +kernel
theorem d_law_700 : decode code 700 = .ok (.iconst 2, 1) := by decide +kernel
theorem d_law_701 : decode code 701 = .ok (.iadd, 1) := by decide +kernel
theorem d_law_702 : decode code 702 = .ok (.iaload, 1) := by decide +kernel
theorem d_law_703 : decode code 703 = .ok (.aload_n 0, 1) := by decide +kernel
theorem d_law_704 : decode code 704 = .ok (.iload 4, 2) := by decide +kernel
theorem d_law_706 : decode code 706 = .ok (.iconst 3, 1) := by decide +kernel
theorem d_law_707 : decode code 707 = .ok (.iadd, 1) := by decide +kernel
theorem d_law_708 : decode code 708 = .ok (.iaload, 1) := by decide +kernel
theorem d_law_709 : decode code 709 = .ok (.aload_n 3, 1) := by decide +kernel
theorem d_law_710 : decode code 710 = .ok (.invokestatic 187, 3) := by decide +kernel
theorem d_law_713 : decode code 713 = .ok (.istore 5, 2) := by decide +kernel
theorem d_law_715 : decode code 715 = .ok (.aload_n 2, 1) := by decide +kernel
theorem d_law_716 : decode code 716 = .ok (.aload_n 0, 1) := by decide +kernel
theorem d_law_717 : decode code 717 = .ok (.iload 4, 2) := by decide +kernel
theorem d_law_719 : decode code 719 = .ok (.iconst 1, 1) := by decide +kernel
theorem d_law_720 : decode code 720 = .ok (.iadd, 1) := by decide +kernel
theorem d_law_721 : decode code 721 = .ok (.iaload, 1) := by decide +kernel
theorem d_law_722 : decode code 722 = .ok (.aload_n 0, 1) := by decide +kernel
theorem d_law_723 : decode code 723 = .ok (.iload 4, 2) := by decide +kernel
theorem d_law_725 : decode code 725 = .ok (.iconst 2, 1) := by decide +kernel
theorem d_law_726 : decode code 726 = .ok (.iadd, 1) := by decide +kernel
theorem d_law_727 : decode code 727 = .ok (.iaload, 1) := by decide +kernel
theorem d_law_728 : decode code 728 = .ok (.aload_n 0, 1) := by decide +kernel
theorem d_law_729 : decode code 729 = .ok (.iload 4, 2) := by decide +kernel
theorem d_law_731 : decode code 731 = .ok (.iconst 3, 1) := by decide +kernel
theorem d_law_732 : decode code 732 = .ok (.iadd, 1) := by decide +kernel
theorem d_law_733 : decode code 733 = .ok (.iaload, 1) := by decide +kernel
theorem d_law_734 : decode code 734 = .ok (.invokevirtual 190, 3) := by decide +kernel
theorem d_law_737 : decode code 737 = .ok (.istore 6, 2) := by decide +kernel
theorem d_law_739 : decode code 739 = .ok (.aload_n 2, 1) := by decide +kernel
theorem d_law_740 : decode code 740 = .ok (.invokevirtual 133, 3) := by decide +kernel
theorem d_law_743 : decode code 743 = .ok (.iload 5, 2) := by decide +kernel
theorem d_law_745 : decode code 745 = .ok (.if_icmp .eq 5, 3) := by decide +kernel
theorem d_law_748 : decode code 748 = .ok (.iconst 0, 1) := by decide +kernel
theorem d_law_749 : decode code 749 = .ok (.ireturn, 1) := by decide +kernel
theorem d_law_750 : decode code 750 = .ok (.iload 5, 2) := by decide +kernel
theorem d_law_752 : decode code 752 = .ok (.ifCond .ne 22, 3) := by decide +kernel
theorem d_law_755 : decode code 755 = .ok (.aload_n 3, 1) := by decide +kernel
theorem d_law_756 : decode code 756 = .ok (.iconst 0, 1) := by decide +kernel
theorem d_law_757 : decode code 757 = .ok (.laload, 1) := by decide +kernel
theorem d_law_758 : decode code 758 = .ok (.iload 6, 2) := by decide +kernel
theorem d_law_760 : decode code 760 = .ok (.ifCond .eq 7, 3) := by decide +kernel
theorem d_law_763 : decode code 763 = .ok (.lconst 1, 1) := by decide +kernel
theorem d_law_764 : decode code 764 = .ok (.goto 4, 3) := by decide +kernel
theorem d_law_767 : decode code 767 = .ok (.lconst 0, 1) := by decide +kernel
theorem d_law_768 : decode code 768 = .ok (.lcmp, 1) := by decide +kernel
theorem d_law_769 : decode code 769 = .ok (.ifCond .eq 5, 3) := by decide +kernel
theorem d_law_772 : decode code 772 = .ok (.iconst 0, 1) := by decide +kernel
theorem d_law_773 : decode code 773 = .ok (.ireturn, 1) := by decide +kernel
theorem d_law_774 : decode code 774 = .ok (.goto 1976, 3) := by decide +kernel
theorem d_law_777 : decode code 777 = .ok (.aload_n 1, 1) := by decide +kernel
theorem d_law_778 : decode code 778 = .ok (.invokevirtual 191, 3) := by decide +kernel
theorem d_law_781 : decode code 781 = .ok (.aload_n 2, 1) := by decide +kernel
theorem d_law_782 : decode code 782 = .ok (.invokevirtual 194, 3) := by decide +kernel
theorem d_law_785 : decode code 785 = .ok (.if_icmp .eq 1965, 3) := by decide +kernel
theorem d_law_788 : decode code 788 = .ok (.iconst 0, 1) := by decide +kernel
theorem d_law_789 : decode code 789 = .ok (.ireturn, 1) := by decide +kernel
theorem d_law_790 : decode code 790 = .ok (.aload_n 1, 1) := by decide +kernel
theorem d_law_791 : decode code 791 = .ok (.invokevirtual 195, 3) := by decide +kernel
theorem d_law_794 : decode code 794 = .ok (.aload_n 2, 1) := by decide +kernel
theorem d_law_795 : decode code 795 = .ok (.invokevirtual 198, 3) := by decide +kernel
theorem d_law_798 : decode code 798 = .ok (.if_icmp .eq 1952, 3) := by decide +kernel
theorem d_law_801 : decode code 801 = .ok (.iconst 0, 1) := by decide +kernel
theorem d_law_802 : decode code 802 = .ok (.ireturn, 1) := by decide +kernel
theorem d_law_803 : decode code 803 = .ok (.aload_n 1, 1) := by decide +kernel
theorem d_law_804 : decode code 804 = .ok (.aload_n 0, 1) := by decide +kernel
theorem d_law_805 : decode code 805 = .ok (.iload 4, 2) := by decide +kernel
theorem d_law_807 : decode code 807 = .ok (.iconst 1, 1) := by decide +kernel
theorem d_law_808 : decode code 808 = .ok (.iadd, 1) := by decide +kernel
theorem d_law_809 : decode code 809 = .ok (.iaload, 1) := by decide +kernel
theorem d_law_810 : decode code 810 = .ok (.aload_n 3, 1) := by decide +kernel
theorem d_law_811 : decode code 811 = .ok (.invokestatic 199, 3) := by decide +kernel
theorem d_law_814 : decode code 814 = .ok (.istore 5, 2) := by decide +kernel
theorem d_law_816 : decode code 816 = .ok (.aload_n 2, 1) := by decide +kernel
theorem d_law_817 : decode code 817 = .ok (.aload_n 0, 1) := by decide +kernel
theorem d_law_818 : decode code 818 = .ok (.iload 4, 2) := by decide +kernel
theorem d_law_820 : decode code 820 = .ok (.iconst 1, 1) := by decide +kernel
theorem d_law_821 : decode code 821 = .ok (.iadd, 1) := by decide +kernel
theorem d_law_822 : decode code 822 = .ok (.iaload, 1) := by decide +kernel
theorem d_law_823 : decode code 823 = .ok (.invokevirtual 201, 3) := by decide +kernel
theorem d_law_826 : decode code 826 = .ok (.istore 6, 2) := by decide +kernel
theorem d_law_828 : decode code 828 = .ok (.aload_n 2, 1) := by decide +kernel
theorem d_law_829 : decode code 829 = .ok (.invokevirtual 133, 3) := by decide +kernel
theorem d_law_832 : decode code 832 = .ok (.iload 5, 2) := by decide +kernel
theorem d_law_834 : decode code 834 = .ok (.if_icmp .eq 5, 3) := by decide +kernel
theorem d_law_837 : decode code 837 = .ok (.iconst 0, 1) := by decide +kernel
theorem d_law_838 : decode code 838 = .ok (.ireturn, 1) := by decide +kernel
theorem d_law_839 : decode code 839 = .ok (.iload 5, 2) := by decide +kernel
theorem d_law_841 : decode code 841 = .ok (.ifCond .ne 15, 3) := by decide +kernel
theorem d_law_844 : decode code 844 = .ok (.aload_n 3, 1) := by decide +kernel
theorem d_law_845 : decode code 845 = .ok (.iconst 0, 1) := by decide +kernel
theorem d_law_846 : decode code 846 = .ok (.laload, 1) := by decide +kernel
theorem d_law_847 : decode code 847 = .ok (.iload 6, 2) := by decide +kernel
theorem d_law_849 : decode code 849 = .ok (.i2l, 1) := by decide +kernel
theorem d_law_850 : decode code 850 = .ok (.lcmp, 1) := by decide +kernel
theorem d_law_851 : decode code 851 = .ok (.ifCond .eq 5, 3) := by decide +kernel
theorem d_law_854 : decode code 854 = .ok (.iconst 0, 1) := by decide +kernel
theorem d_law_855 : decode code 855 = .ok (.ireturn, 1) := by decide +kernel
theorem d_law_856 : decode code 856 = .ok (.goto 1894, 3) := by decide +kernel
theorem d_law_859 : decode code 859 = .ok (.aload_n 1, 1) := by decide +kernel
theorem d_law_860 : decode code 860 = .ok (.aload_n 0, 1) := by decide +kernel
theorem d_law_861 : decode code 861 = .ok (.iload 4, 2) := by decide +kernel
theorem d_law_863 : decode code 863 = .ok (.iconst 1, 1) := by decide +kernel
theorem d_law_864 : decode code 864 = .ok (.iadd, 1) := by decide +kernel
theorem d_law_865 : decode code 865 = .ok (.iaload, 1) := by decide +kernel
theorem d_law_866 : decode code 866 = .ok (.aload_n 3, 1) := by decide +kernel
theorem d_law_867 : decode code 867 = .ok (.invokestatic 202, 3) := by decide +kernel
theorem d_law_870 : decode code 870 = .ok (.istore 5, 2) := by decide +kernel
theorem d_law_872 : decode code 872 = .ok (.aload_n 2, 1) := by decide +kernel
theorem d_law_873 : decode code 873 = .ok (.aload_n 0, 1) := by decide +kernel
theorem d_law_874 : decode code 874 = .ok (.iload 4, 2) := by decide +kernel
theorem d_law_876 : decode code 876 = .ok (.iconst 1, 1) := by decide +kernel
theorem d_law_877 : decode code 877 = .ok (.iadd, 1) := by decide +kernel
theorem d_law_878 : decode code 878 = .ok (.iaload, 1) := by decide +kernel
theorem d_law_879 : decode code 879 = .ok (.invokevirtual 204, 3) := by decide +kernel
theorem d_law_882 : decode code 882 = .ok (.istore 6, 2) := by decide +kernel
theorem d_law_884 : decode code 884 = .ok (.aload_n 2, 1) := by decide +kernel
theorem d_law_885 : decode code 885 = .ok (.invokevirtual 133, 3) := by decide +kernel
theorem d_law_888 : decode code 888 = .ok (.iload 5, 2) := by decide +kernel
theorem d_law_890 : decode code 890 = .ok (.if_icmp .eq 5, 3) := by decide +kernel
theorem d_law_893 : decode code 893 = .ok (.iconst 0, 1) := by decide +kernel
theorem d_law_894 : decode code 894 = .ok (.ireturn, 1) := by decide +kernel
theorem d_law_895 : decode code 895 = .ok (.iload 5, 2) := by decide +kernel
theorem d_law_897 : decode code 897 = .ok (.ifCond .ne 15, 3) := by decide +kernel
theorem d_law_900 : decode code 900 = .ok (.aload_n 3, 1) := by decide +kernel
theorem d_law_901 : decode code 901 = .ok (.iconst 0, 1) := by decide +kernel
theorem d_law_902 : decode code 902 = .ok (.laload, 1) := by decide +kernel
theorem d_law_903 : decode code 903 = .ok (.iload 6, 2) := by decide +kernel
theorem d_law_905 : decode code 905 = .ok (.i2l, 1) := by decide +kernel
theorem d_law_906 : decode code 906 = .ok (.lcmp, 1) := by decide +kernel
theorem d_law_907 : decode code 907 = .ok (.ifCond .eq 5, 3) := by decide +kernel
theorem d_law_910 : decode code 910 = .ok (.iconst 0, 1) := by decide +kernel
theorem d_law_911 : decode code 911 = .ok (.ireturn, 1) := by decide +kernel
theorem d_law_912 : decode code 912 = .ok (.goto 1838, 3) := by decide +kernel
theorem d_law_915 : decode code 915 = .ok (.aload_n 1, 1) := by decide +kernel
theorem d_law_916 : decode code 916 = .ok (.aload_n 0, 1) := by decide +kernel
theorem d_law_917 : decode code 917 = .ok (.iload 4, 2) := by decide +kernel
theorem d_law_919 : decode code 919 = .ok (.iconst 1, 1) := by decide +kernel
theorem d_law_920 : decode code 920 = .ok (.iadd, 1) := by decide +kernel
theorem d_law_921 : decode code 921 = .ok (.iaload, 1) := by decide +kernel
theorem d_law_922 : decode code 922 = .ok (.aload_n 3, 1) := by decide +kernel
theorem d_law_923 : decode code 923 = .ok (.invokestatic 205, 3) := by decide +kernel
theorem d_law_926 : decode code 926 = .ok (.istore 5, 2) := by decide +kernel
theorem d_law_928 : decode code 928 = .ok (.aload_n 2, 1) := by decide +kernel
theorem d_law_929 : decode code 929 = .ok (.aload_n 0, 1) := by decide +kernel
theorem d_law_930 : decode code 930 = .ok (.iload 4, 2) := by decide +kernel
theorem d_law_932 : decode code 932 = .ok (.iconst 1, 1) := by decide +kernel
theorem d_law_933 : decode code 933 = .ok (.iadd, 1) := by decide +kernel
theorem d_law_934 : decode code 934 = .ok (.iaload, 1) := by decide +kernel
theorem d_law_935 : decode code 935 = .ok (.invokevirtual 207, 3) := by decide +kernel
theorem d_law_938 : decode code 938 = .ok (.istore 6, 2) := by decide +kernel
theorem d_law_940 : decode code 940 = .ok (.aload_n 2, 1) := by decide +kernel
theorem d_law_941 : decode code 941 = .ok (.invokevirtual 133, 3) := by decide +kernel
theorem d_law_944 : decode code 944 = .ok (.iload 5, 2) := by decide +kernel
theorem d_law_946 : decode code 946 = .ok (.if_icmp .eq 5, 3) := by decide +kernel
theorem d_law_949 : decode code 949 = .ok (.iconst 0, 1) := by decide +kernel
theorem d_law_950 : decode code 950 = .ok (.ireturn, 1) := by decide +kernel
theorem d_law_951 : decode code 951 = .ok (.iload 5, 2) := by decide +kernel
theorem d_law_953 : decode code 953 = .ok (.ifCond .ne 15, 3) := by decide +kernel
theorem d_law_956 : decode code 956 = .ok (.aload_n 3, 1) := by decide +kernel
theorem d_law_957 : decode code 957 = .ok (.iconst 0, 1) := by decide +kernel
theorem d_law_958 : decode code 958 = .ok (.laload, 1) := by decide +kernel
theorem d_law_959 : decode code 959 = .ok (.iload 6, 2) := by decide +kernel
theorem d_law_961 : decode code 961 = .ok (.i2l, 1) := by decide +kernel
theorem d_law_962 : decode code 962 = .ok (.lcmp, 1) := by decide +kernel
theorem d_law_963 : decode code 963 = .ok (.ifCond .eq 5, 3) := by decide +kernel
theorem d_law_966 : decode code 966 = .ok (.iconst 0, 1) := by decide +kernel
theorem d_law_967 : decode code 967 = .ok (.ireturn, 1) := by decide +kernel
theorem d_law_968 : decode code 968 = .ok (.goto 1782, 3) := by decide +kernel
theorem d_law_971 : decode code 971 = .ok (.aload_n 1, 1) := by decide +kernel
theorem d_law_972 : decode code 972 = .ok (.aload_n 0, 1) := by decide +kernel
theorem d_law_973 : decode code 973 = .ok (.iload 4, 2) := by decide +kernel
theorem d_law_975 : decode code 975 = .ok (.iconst 1, 1) := by decide +kernel
theorem d_law_976 : decode code 976 = .ok (.iadd, 1) := by decide +kernel
theorem d_law_977 : decode code 977 = .ok (.iaload, 1) := by decide +kernel
theorem d_law_978 : decode code 978 = .ok (.aload_n 3, 1) := by decide +kernel
theorem d_law_979 : decode code 979 = .ok (.invokestatic 208, 3) := by decide +kernel
theorem d_law_982 : decode code 982 = .ok (.istore 5, 2) := by decide +kernel
theorem d_law_984 : decode code 984 = .ok (.aload_n 2, 1) := by decide +kernel
theorem d_law_985 : decode code 985 = .ok (.aload_n 0, 1) := by decide +kernel
theorem d_law_986 : decode code 986 = .ok (.iload 4, 2) := by decide +kernel
theorem d_law_988 : decode code 988 = .ok (.iconst 1, 1) := by decide +kernel
theorem d_law_989 : decode code 989 = .ok (.iadd, 1) := by decide +kernel
theorem d_law_990 : decode code 990 = .ok (.iaload, 1) := by decide +kernel
theorem d_law_991 : decode code 991 = .ok (.invokevirtual 210, 3) := by decide +kernel
theorem d_law_994 : decode code 994 = .ok (.istore 6, 2) := by decide +kernel
theorem d_law_996 : decode code 996 = .ok (.aload_n 2, 1) := by decide +kernel
theorem d_law_997 : decode code 997 = .ok (.invokevirtual 133, 3) := by decide +kernel
theorem d_law_1000 : decode code 1000 = .ok (.iload 5, 2) := by decide +kernel
theorem d_law_1002 : decode code 1002 = .ok (.if_icmp .eq 5, 3) := by decide +kernel
theorem d_law_1005 : decode code 1005 = .ok (.iconst 0, 1) := by decide +kernel
theorem d_law_1006 : decode code 1006 = .ok (.ireturn, 1) := by decide +kernel
theorem d_law_1007 : decode code 1007 = .ok (.iload 5, 2) := by decide +kernel
theorem d_law_1009 : decode code 1009 = .ok (.ifCond .ne 22, 3) := by decide +kernel
theorem d_law_1012 : decode code 1012 = .ok (.aload_n 3, 1) := by decide +kernel
theorem d_law_1013 : decode code 1013 = .ok (.iconst 0, 1) := by decide +kernel
theorem d_law_1014 : decode code 1014 = .ok (.laload, 1) := by decide +kernel
theorem d_law_1015 : decode code 1015 = .ok (.iload 6, 2) := by decide +kernel
theorem d_law_1017 : decode code 1017 = .ok (.ifCond .eq 7, 3) := by decide +kernel
theorem d_law_1020 : decode code 1020 = .ok (.lconst 1, 1) := by decide +kernel
theorem d_law_1021 : decode code 1021 = .ok (.goto 4, 3) := by decide +kernel
theorem d_law_1024 : decode code 1024 = .ok (.lconst 0, 1) := by decide +kernel
theorem d_law_1025 : decode code 1025 = .ok (.lcmp, 1) := by decide +kernel
theorem d_law_1026 : decode code 1026 = .ok (.ifCond .eq 5, 3) := by decide +kernel
theorem d_law_1029 : decode code 1029 = .ok (.iconst 0, 1) := by decide +kernel
theorem d_law_1030 : decode code 1030 = .ok (.ireturn, 1) := by decide +kernel
theorem d_law_1031 : decode code 1031 = .ok (.goto 1719, 3) := by decide +kernel
theorem d_law_1034 : decode code 1034 = .ok (.aload_n 1, 1) := by decide +kernel
theorem d_law_1035 : decode code 1035 = .ok (.aload_n 0, 1) := by decide +kernel
theorem d_law_1036 : decode code 1036 = .ok (.iload 4, 2) := by decide +kernel
theorem d_law_1038 : decode code 1038 = .ok (.iconst 1, 1) := by decide +kernel
theorem d_law_1039 : decode code 1039 = .ok (.iadd, 1) := by decide +kernel
theorem d_law_1040 : decode code 1040 = .ok (.iaload, 1) := by decide +kernel
theorem d_law_1041 : decode code 1041 = .ok (.aload_n 3, 1) := by decide +kernel
theorem d_law_1042 : decode code 1042 = .ok (.invokestatic 211, 3) := by decide +kernel
theorem d_law_1045 : decode code 1045 = .ok (.istore 5, 2) := by decide +kernel
theorem d_law_1047 : decode code 1047 = .ok (.aload_n 2, 1) := by decide +kernel
theorem d_law_1048 : decode code 1048 = .ok (.aload_n 0, 1) := by decide +kernel
theorem d_law_1049 : decode code 1049 = .ok (.iload 4, 2) := by decide +kernel
theorem d_law_1051 : decode code 1051 = .ok (.iconst 1, 1) := by decide +kernel
theorem d_law_1052 : decode code 1052 = .ok (.iadd, 1) := by decide +kernel
theorem d_law_1053 : decode code 1053 = .ok (.iaload, 1) := by decide +kernel
theorem d_law_1054 : decode code 1054 = .ok (.invokevirtual 213, 3) := by decide +kernel
theorem d_law_1057 : decode code 1057 = .ok (.istore 6, 2) := by decide +kernel
theorem d_law_1059 : decode code 1059 = .ok (.aload_n 2, 1) := by decide +kernel
theorem d_law_1060 : decode code 1060 = .ok (.invokevirtual 133, 3) := by decide +kernel
theorem d_law_1063 : decode code 1063 = .ok (.iload 5, 2) := by decide +kernel
theorem d_law_1065 : decode code 1065 = .ok (.if_icmp .eq 5, 3) := by decide +kernel
theorem d_law_1068 : decode code 1068 = .ok (.iconst 0, 1) := by decide +kernel
theorem d_law_1069 : decode code 1069 = .ok (.ireturn, 1) := by decide +kernel
theorem d_law_1070 : decode code 1070 = .ok (.iload 5, 2) := by decide +kernel
theorem d_law_1072 : decode code 1072 = .ok (.ifCond .ne 15, 3) := by decide +kernel
theorem d_law_1075 : decode code 1075 = .ok (.aload_n 3, 1) := by decide +kernel
theorem d_law_1076 : decode code 1076 = .ok (.iconst 0, 1) := by decide +kernel
theorem d_law_1077 : decode code 1077 = .ok (.laload, 1) := by decide +kernel
theorem d_law_1078 : decode code 1078 = .ok (.iload 6, 2) := by decide +kernel
theorem d_law_1080 : decode code 1080 = .ok (.i2l, 1) := by decide +kernel
theorem d_law_1081 : decode code 1081 = .ok (.lcmp, 1) := by decide +kernel
theorem d_law_1082 : decode code 1082 = .ok (.ifCond .eq 5, 3) := by decide +kernel
