theorem dL_would_278 : decode cL_would 278 = .ok (.if_icmp .ne 212, 3) := by decide +kernel
theorem dL_would_281 : decode cL_would 281 = .ok (.goto 114, 3) := by decide +kernel
theorem dL_would_284 : decode cL_would 284 = .ok (.iload 8, 2) := by decide +kernel
theorem dL_would_286 : decode cL_would 286 = .ok (.ifCond .eq 13, 3) := by decide +kernel
theorem dL_would_289 : decode cL_would 289 = .ok (.iload 4, 2) := by decide +kernel
theorem dL_would_291 : decode cL_would 291 = .ok (.bipush (-2), 2) := by decide +kernel
theorem dL_would_293 : decode cL_would 293 = .ok (.if_icmp .ne 197, 3) := by decide +kernel
theorem dL_would_296 : decode cL_would 296 = .ok (.goto 99, 3) := by decide +kernel
theorem dL_would_299 : decode cL_would 299 = .ok (.iload_n 3, 1) := by decide +kernel
theorem dL_would_300 : decode cL_would 300 = .ok (.iconst 1, 1) := by decide +kernel
theorem dL_would_301 : decode cL_would 301 = .ok (.if_icmp .ne 30, 3) := by decide +kernel
theorem dL_would_304 : decode cL_would 304 = .ok (.iload 4, 2) := by decide +kernel
theorem dL_would_306 : decode cL_would 306 = .ok (.ifCond .lt 184, 3) := by decide +kernel
theorem dL_would_309 : decode cL_would 309 = .ok (.iload 4, 2) := by decide +kernel
theorem dL_would_311 : decode cL_would 311 = .ok (.bipush 121, 2) := by decide +kernel
theorem dL_would_313 : decode cL_would 313 = .ok (.if_icmp .ge 177, 3) := by decide +kernel
theorem dL_would_316 : decode cL_would 316 = .ok (.aload_n 0, 1) := by decide +kernel
theorem dL_would_317 : decode cL_would 317 = .ok (.iload 4, 2) := by decide +kernel
theorem dL_would_319 : decode cL_would 319 = .ok (.iconst 0, 1) := by decide +kernel
theorem dL_would_320 : decode cL_would 320 = .ok (.invokevirtual 25, 3) := by decide +kernel
theorem dL_would_323 : decode cL_would 323 = .ok (.bipush (-4), 2) := by decide +kernel
theorem dL_would_325 : decode cL_would 325 = .ok (.if_icmp .ne 165, 3) := by decide +kernel
theorem dL_would_328 : decode cL_would 328 = .ok (.goto 67, 3) := by decide +kernel
theorem dL_would_331 : decode cL_would 331 = .ok (.iload_n 3, 1) := by decide +kernel
theorem dL_would_332 : decode cL_would 332 = .ok (.iconst 2, 1) := by decide +kernel
theorem dL_would_333 : decode cL_would 333 = .ok (.if_icmp .ne 20, 3) := by decide +kernel
theorem dL_would_336 : decode cL_would 336 = .ok (.iload 4, 2) := by decide +kernel
theorem dL_would_338 : decode cL_would 338 = .ok (.iconst 1, 1) := by decide +kernel
theorem dL_would_339 : decode cL_would 339 = .ok (.if_icmp .lt 151, 3) := by decide +kernel
theorem dL_would_342 : decode cL_would 342 = .ok (.iload 4, 2) := by decide +kernel
theorem dL_would_344 : decode cL_would 344 = .ok (.sipush 401, 3) := by decide +kernel
theorem dL_would_347 : decode cL_would 347 = .ok (.if_icmp .gt 143, 3) := by decide +kernel
theorem dL_would_350 : decode cL_would 350 = .ok (.goto 45, 3) := by decide +kernel
theorem dL_would_353 : decode cL_would 353 = .ok (.iload 4, 2) := by decide +kernel
theorem dL_would_355 : decode cL_would 355 = .ok (.sipush 1000, 3) := by decide +kernel
theorem dL_would_358 : decode cL_would 358 = .ok (.if_icmp .lt 20, 3) := by decide +kernel
theorem dL_would_361 : decode cL_would 361 = .ok (.aload_n 0, 1) := by decide +kernel
theorem dL_would_362 : decode cL_would 362 = .ok (.iload 4, 2) := by decide +kernel
theorem dL_would_364 : decode cL_would 364 = .ok (.sipush 1000, 3) := by decide +kernel
theorem dL_would_367 : decode cL_would 367 = .ok (.isub, 1) := by decide +kernel
theorem dL_would_368 : decode cL_would 368 = .ok (.iconst 2, 1) := by decide +kernel
theorem dL_would_369 : decode cL_would 369 = .ok (.invokevirtual 25, 3) := by decide +kernel
theorem dL_would_372 : decode cL_would 372 = .ok (.ifCond .le 118, 3) := by decide +kernel
theorem dL_would_375 : decode cL_would 375 = .ok (.goto 20, 3) := by decide +kernel
theorem dL_would_378 : decode cL_would 378 = .ok (.iload 4, 2) := by decide +kernel
theorem dL_would_380 : decode cL_would 380 = .ok (.iconst 1, 1) := by decide +kernel
theorem dL_would_381 : decode cL_would 381 = .ok (.if_icmp .lt 109, 3) := by decide +kernel
theorem dL_would_384 : decode cL_would 384 = .ok (.iload 4, 2) := by decide +kernel
theorem dL_would_386 : decode cL_would 386 = .ok (.aload_n 0, 1) := by decide +kernel
theorem dL_would_387 : decode cL_would 387 = .ok (.bipush 14, 2) := by decide +kernel
theorem dL_would_389 : decode cL_would 389 = .ok (.invokevirtual 13, 3) := by decide +kernel
theorem dL_would_392 : decode cL_would 392 = .ok (.if_icmp .gt 98, 3) := by decide +kernel
theorem dL_would_395 : decode cL_would 395 = .ok (.iload 12, 2) := by decide +kernel
theorem dL_would_397 : decode cL_would 397 = .ok (.ifCond .eq 12, 3) := by decide +kernel
theorem dL_would_400 : decode cL_would 400 = .ok (.iload 11, 2) := by decide +kernel
theorem dL_would_402 : decode cL_would 402 = .ok (.iconst (-1), 1) := by decide +kernel
theorem dL_would_403 : decode cL_would 403 = .ok (.if_icmp .ne 87, 3) := by decide +kernel
theorem dL_would_406 : decode cL_would 406 = .ok (.goto 80, 3) := by decide +kernel
theorem dL_would_409 : decode cL_would 409 = .ok (.aload_n 0, 1) := by decide +kernel
theorem dL_would_410 : decode cL_would 410 = .ok (.iload 9, 2) := by decide +kernel
theorem dL_would_412 : decode cL_would 412 = .ok (.iconst 1, 1) := by decide +kernel
theorem dL_would_413 : decode cL_would 413 = .ok (.invokevirtual 19, 3) := by decide +kernel
theorem dL_would_416 : decode cL_would 416 = .ok (.bipush (-4), 2) := by decide +kernel
theorem dL_would_418 : decode cL_would 418 = .ok (.if_icmp .ne 13, 3) := by decide +kernel
theorem dL_would_421 : decode cL_would 421 = .ok (.iload 11, 2) := by decide +kernel
theorem dL_would_423 : decode cL_would 423 = .ok (.bipush (-2), 2) := by decide +kernel
theorem dL_would_425 : decode cL_would 425 = .ok (.if_icmp .ne 65, 3) := by decide +kernel
theorem dL_would_428 : decode cL_would 428 = .ok (.goto 58, 3) := by decide +kernel
theorem dL_would_431 : decode cL_would 431 = .ok (.iload 11, 2) := by decide +kernel
theorem dL_would_433 : decode cL_would 433 = .ok (.ifCond .lt 57, 3) := by decide +kernel
theorem dL_would_436 : decode cL_would 436 = .ok (.iload 11, 2) := by decide +kernel
theorem dL_would_438 : decode cL_would 438 = .ok (.iload 10, 2) := by decide +kernel
theorem dL_would_440 : decode cL_would 440 = .ok (.ifCond .ne 13, 3) := by decide +kernel
theorem dL_would_443 : decode cL_would 443 = .ok (.aload_n 0, 1) := by decide +kernel
theorem dL_would_444 : decode cL_would 444 = .ok (.iconst 0, 1) := by decide +kernel
theorem dL_would_445 : decode cL_would 445 = .ok (.invokevirtual 13, 3) := by decide +kernel
theorem dL_would_448 : decode cL_would 448 = .ok (.iconst 1, 1) := by decide +kernel
theorem dL_would_449 : decode cL_would 449 = .ok (.isub, 1) := by decide +kernel
theorem dL_would_450 : decode cL_would 450 = .ok (.goto 33, 3) := by decide +kernel
theorem dL_would_453 : decode cL_would 453 = .ok (.iload 10, 2) := by decide +kernel
theorem dL_would_455 : decode cL_would 455 = .ok (.iconst 1, 1) := by decide +kernel
theorem dL_would_456 : decode cL_would 456 = .ok (.if_icmp .ne 11, 3) := by decide +kernel
theorem dL_would_459 : decode cL_would 459 = .ok (.aload_n 0, 1) := by decide +kernel
theorem dL_would_460 : decode cL_would 460 = .ok (.iconst 5, 1) := by decide +kernel
theorem dL_would_461 : decode cL_would 461 = .ok (.invokevirtual 13, 3) := by decide +kernel
theorem dL_would_464 : decode cL_would 464 = .ok (.goto 19, 3) := by decide +kernel
theorem dL_would_467 : decode cL_would 467 = .ok (.iload 10, 2) := by decide +kernel
theorem dL_would_469 : decode cL_would 469 = .ok (.iconst 2, 1) := by decide +kernel
theorem dL_would_470 : decode cL_would 470 = .ok (.if_icmp .ne 11, 3) := by decide +kernel
theorem dL_would_473 : decode cL_would 473 = .ok (.aload_n 0, 1) := by decide +kernel
theorem dL_would_474 : decode cL_would 474 = .ok (.iconst 4, 1) := by decide +kernel
theorem dL_would_475 : decode cL_would 475 = .ok (.invokevirtual 13, 3) := by decide +kernel
theorem dL_would_478 : decode cL_would 478 = .ok (.goto 5, 3) := by decide +kernel
theorem dL_would_481 : decode cL_would 481 = .ok (.bipush 40, 2) := by decide +kernel
theorem dL_would_483 : decode cL_would 483 = .ok (.if_icmp .gt 7, 3) := by decide +kernel
theorem dL_would_486 : decode cL_would 486 = .ok (.iconst 1, 1) := by decide +kernel
theorem dL_would_487 : decode cL_would 487 = .ok (.goto 4, 3) := by decide +kernel
theorem dL_would_490 : decode cL_would 490 = .ok (.iconst 0, 1) := by decide +kernel
theorem dL_would_491 : decode cL_would 491 = .ok (.istore 16, 2) := by decide +kernel
theorem dL_would_493 : decode cL_would 493 = .ok (.iload 16, 2) := by decide +kernel
theorem dL_would_495 : decode cL_would 495 = .ok (.ifCond .eq 94, 3) := by decide +kernel
theorem dL_would_498 : decode cL_would 498 = .ok (.iload 15, 2) := by decide +kernel
theorem dL_would_500 : decode cL_would 500 = .ok (.aload_n 0, 1) := by decide +kernel
theorem dL_would_501 : decode cL_would 501 = .ok (.iload 14, 2) := by decide +kernel
theorem dL_would_503 : decode cL_would 503 = .ok (.iload 13, 2) := by decide +kernel
theorem dL_would_505 : decode cL_would 505 = .ok (.invokevirtual 50, 3) := by decide +kernel
theorem dL_would_508 : decode cL_would 508 = .ok (.if_icmp .ne 81, 3) := by decide +kernel
theorem dL_would_511 : decode cL_would 511 = .ok (.iload 15, 2) := by decide +kernel
theorem dL_would_513 : decode cL_would 513 = .ok (.ifCond .ne 7, 3) := by decide +kernel
theorem dL_would_516 : decode cL_would 516 = .ok (.iconst 1, 1) := by decide +kernel
theorem dL_would_517 : decode cL_would 517 = .ok (.goto 4, 3) := by decide +kernel
theorem dL_would_520 : decode cL_would 520 = .ok (.iconst 0, 1) := by decide +kernel
theorem dL_would_521 : decode cL_would 521 = .ok (.iload 13, 2) := by decide +kernel
theorem dL_would_523 : decode cL_would 523 = .ok (.iload 14, 2) := by decide +kernel
theorem dL_would_525 : decode cL_would 525 = .ok (.if_icmp .ne 7, 3) := by decide +kernel
theorem dL_would_528 : decode cL_would 528 = .ok (.iconst 1, 1) := by decide +kernel
theorem dL_would_529 : decode cL_would 529 = .ok (.goto 4, 3) := by decide +kernel
theorem dL_would_532 : decode cL_would 532 = .ok (.iconst 0, 1) := by decide +kernel
theorem dL_would_533 : decode cL_would 533 = .ok (.if_icmp .ne 56, 3) := by decide +kernel
theorem dL_would_536 : decode cL_would 536 = .ok (.iload 15, 2) := by decide +kernel
theorem dL_would_538 : decode cL_would 538 = .ok (.bipush (-4), 2) := by decide +kernel
theorem dL_would_540 : decode cL_would 540 = .ok (.if_icmp .ne 7, 3) := by decide +kernel
theorem dL_would_543 : decode cL_would 543 = .ok (.iconst 1, 1) := by decide +kernel
theorem dL_would_544 : decode cL_would 544 = .ok (.goto 4, 3) := by decide +kernel
theorem dL_would_547 : decode cL_would 547 = .ok (.iconst 0, 1) := by decide +kernel
theorem dL_would_548 : decode cL_would 548 = .ok (.aload_n 0, 1) := by decide +kernel
theorem dL_would_549 : decode cL_would 549 = .ok (.iload 13, 2) := by decide +kernel
theorem dL_would_551 : decode cL_would 551 = .ok (.bipush 7, 2) := by decide +kernel
theorem dL_would_553 : decode cL_would 553 = .ok (.invokevirtual 19, 3) := by decide +kernel
theorem dL_would_556 : decode cL_would 556 = .ok (.aload_n 0, 1) := by decide +kernel
theorem dL_would_557 : decode cL_would 557 = .ok (.iload 14, 2) := by decide +kernel
theorem dL_would_559 : decode cL_would 559 = .ok (.bipush 7, 2) := by decide +kernel
theorem dL_would_561 : decode cL_would 561 = .ok (.invokevirtual 19, 3) := by decide +kernel
theorem dL_would_564 : decode cL_would 564 = .ok (.if_icmp .eq 7, 3) := by decide +kernel
theorem dL_would_567 : decode cL_would 567 = .ok (.iconst 1, 1) := by decide +kernel
theorem dL_would_568 : decode cL_would 568 = .ok (.goto 4, 3) := by decide +kernel
theorem dL_would_571 : decode cL_would 571 = .ok (.iconst 0, 1) := by decide +kernel
theorem dL_would_572 : decode cL_would 572 = .ok (.if_icmp .ne 17, 3) := by decide +kernel
theorem dL_would_575 : decode cL_would 575 = .ok (.iload 15, 2) := by decide +kernel
theorem dL_would_577 : decode cL_would 577 = .ok (.aload_n 0, 1) := by decide +kernel
theorem dL_would_578 : decode cL_would 578 = .ok (.iconst 0, 1) := by decide +kernel
theorem dL_would_579 : decode cL_would 579 = .ok (.invokevirtual 31, 3) := by decide +kernel
theorem dL_would_582 : decode cL_would 582 = .ok (.if_icmp .gt 7, 3) := by decide +kernel
theorem dL_would_585 : decode cL_would 585 = .ok (.iconst 1, 1) := by decide +kernel
theorem dL_would_586 : decode cL_would 586 = .ok (.goto 4, 3) := by decide +kernel
theorem dL_would_589 : decode cL_would 589 = .ok (.iconst 0, 1) := by decide +kernel
theorem dL_would_590 : decode cL_would 590 = .ok (.ireturn, 1) := by decide +kernel
set_option maxRecDepth 20000 in
theorem ggL_number_X7_append : GoodIn wsL_number wsX7_append := goodIn_r _ [5, 6, 7, 8, 9, 10, 11, 12, 13, 14, 15, 16, 17, 18, 19, 20, 21, 22, 23, 24, 25, 26, 27, 28, 29, 30, 31, 32, 33] (by decide +kernel) (by decide +kernel)
set_option maxRecDepth 20000 in
theorem gL_number_X7_append : GoodIn wsL_number (wsV RL 53 RX7 yX7_append wsX7_append) := goodIn_app (goodIn_of _ (by decide +kernel)) ggL_number_X7_append
theorem dL_number_0 : decode cL_number 0 = .ok (.iload_n 1, 1) := by decide +kernel
theorem dL_number_1 : decode cL_number 1 = .ok (.bipush 100, 2) := by decide +kernel
theorem dL_number_3 : decode cL_number 3 = .ok (.if_icmp .lt 17, 3) := by decide +kernel
theorem dL_number_6 : decode cL_number 6 = .ok (.aload_n 0, 1) := by decide +kernel
theorem dL_number_7 : decode cL_number 7 = .ok (.bipush 48, 2) := by decide +kernel
theorem dL_number_9 : decode cL_number 9 = .ok (.iload_n 1, 1) := by decide +kernel
theorem dL_number_10 : decode cL_number 10 = .ok (.bipush 100, 2) := by decide +kernel
theorem dL_number_12 : decode cL_number 12 = .ok (.idiv, 1) := by decide +kernel
theorem dL_number_13 : decode cL_number 13 = .ok (.iadd, 1) := by decide +kernel
theorem dL_number_14 : decode cL_number 14 = .ok (.invokevirtual 53, 3) := by decide +kernel
theorem dL_number_17 : decode cL_number 17 = .ok (.ifCond .le 44, 3) := by decide +kernel
theorem dL_number_20 : decode cL_number 20 = .ok (.iload_n 1, 1) := by decide +kernel
theorem dL_number_21 : decode cL_number 21 = .ok (.bipush 10, 2) := by decide +kernel
theorem dL_number_23 : decode cL_number 23 = .ok (.if_icmp .lt 20, 3) := by decide +kernel
theorem dL_number_26 : decode cL_number 26 = .ok (.aload_n 0, 1) := by decide +kernel
theorem dL_number_27 : decode cL_number 27 = .ok (.bipush 48, 2) := by decide +kernel
theorem dL_number_29 : decode cL_number 29 = .ok (.iload_n 1, 1) := by decide +kernel
theorem dL_number_30 : decode cL_number 30 = .ok (.bipush 10, 2) := by decide +kernel
theorem dL_number_32 : decode cL_number 32 = .ok (.idiv, 1) := by decide +kernel
theorem dL_number_33 : decode cL_number 33 = .ok (.bipush 10, 2) := by decide +kernel
theorem dL_number_35 : decode cL_number 35 = .ok (.irem, 1) := by decide +kernel
theorem dL_number_36 : decode cL_number 36 = .ok (.iadd, 1) := by decide +kernel
theorem dL_number_37 : decode cL_number 37 = .ok (.invokevirtual 53, 3) := by decide +kernel
theorem dL_number_40 : decode cL_number 40 = .ok (.ifCond .le 21, 3) := by decide +kernel
theorem dL_number_43 : decode cL_number 43 = .ok (.aload_n 0, 1) := by decide +kernel
theorem dL_number_44 : decode cL_number 44 = .ok (.bipush 48, 2) := by decide +kernel
theorem dL_number_46 : decode cL_number 46 = .ok (.iload_n 1, 1) := by decide +kernel
theorem dL_number_47 : decode cL_number 47 = .ok (.bipush 10, 2) := by decide +kernel
theorem dL_number_49 : decode cL_number 49 = .ok (.irem, 1) := by decide +kernel
theorem dL_number_50 : decode cL_number 50 = .ok (.iadd, 1) := by decide +kernel
theorem dL_number_51 : decode cL_number 51 = .ok (.invokevirtual 53, 3) := by decide +kernel
theorem dL_number_54 : decode cL_number 54 = .ok (.ifCond .le 7, 3) := by decide +kernel
theorem dL_number_57 : decode cL_number 57 = .ok (.iconst 1, 1) := by decide +kernel
theorem dL_number_58 : decode cL_number 58 = .ok (.goto 4, 3) := by decide +kernel
theorem dL_number_61 : decode cL_number 61 = .ok (.iconst 0, 1) := by decide +kernel
theorem dL_number_62 : decode cL_number 62 = .ok (.ireturn, 1) := by decide +kernel
set_option maxRecDepth 20000 in
theorem ggL_types_L_low : GoodIn wsL_types wsL_low := goodIn_r _ [4, 5] (by decide +kernel) (by decide +kernel)
set_option maxRecDepth 20000 in
theorem gL_types_L_low : GoodIn wsL_types (va_wsS RL 38 yL_low wsL_low) := goodIn_app (goodIn_of _ (by decide +kernel)) ggL_types_L_low
set_option maxRecDepth 20000 in
theorem ggL_types_X7_clear : GoodIn wsL_types wsX7_clear := goodIn_r _ [10, 11, 12, 13, 14, 15, 16, 17, 30, 31, 32, 33, 34, 35, 36, 37, 38, 39, 40, 41, 42, 43, 44, 45, 46, 47, 48, 49] (by decide +kernel) (by decide +kernel)
set_option maxRecDepth 20000 in
theorem gL_types_X7_clear : GoodIn wsL_types (wsV RL 56 RX7 yX7_clear wsX7_clear) := goodIn_app (goodIn_of _ (by decide +kernel)) ggL_types_X7_clear
set_option maxRecDepth 20000 in
theorem ggL_types_X7_append : GoodIn wsL_types wsX7_append := goodIn_r _ [21, 11, 22, 23, 24, 15, 25, 17, 26, 30, 31, 32, 33, 34, 35, 36, 37, 38, 39, 40, 41, 42, 43, 44, 45, 46, 47, 48, 49] (by decide +kernel) (by decide +kernel)
set_option maxRecDepth 20000 in
theorem gL_types_X7_append : GoodIn wsL_types (wsV RL 53 RX7 yX7_append wsX7_append) := goodIn_app (goodIn_of _ (by decide +kernel)) ggL_types_X7_append
set_option maxRecDepth 20000 in
theorem ggL_types_L_number : GoodIn wsL_types wsL_number := goodIn_r _ [29, 18, 19, 20, 9, 21, 11, 22, 23, 24, 15, 25, 17, 26, 30, 31, 32, 33, 34, 35, 36, 37, 38, 39, 40, 41, 42, 43, 44, 45, 46, 47, 48, 49] (by decide +kernel) (by decide +kernel)
set_option maxRecDepth 20000 in
theorem gL_types_L_number : GoodIn wsL_types (va_wsS RL 60 yL_number wsL_number) := goodIn_app (goodIn_of _ (by decide +kernel)) ggL_types_L_number
theorem dL_types_0 : decode cL_types 0 = .ok (.iload_n 1, 1) := by decide +kernel
theorem dL_types_1 : decode cL_types 1 = .ok (.bipush 9, 2) := by decide +kernel
theorem dL_types_3 : decode cL_types 3 = .ok (.invokestatic 38, 3) := by decide +kernel
theorem dL_types_6 : decode cL_types 6 = .ok (.istore_n 2, 1) := by decide +kernel
theorem dL_types_7 : decode cL_types 7 = .ok (.aload_n 0, 1) := by decide +kernel
theorem dL_types_8 : decode cL_types 8 = .ok (.invokevirtual 56, 3) := by decide +kernel
theorem dL_types_11 : decode cL_types 11 = .ok (.ifCond .lt 7, 3) := by decide +kernel
theorem dL_types_14 : decode cL_types 14 = .ok (.iconst 1, 1) := by decide +kernel
theorem dL_types_15 : decode cL_types 15 = .ok (.goto 4, 3) := by decide +kernel
theorem dL_types_18 : decode cL_types 18 = .ok (.iconst 0, 1) := by decide +kernel
theorem dL_types_19 : decode cL_types 19 = .ok (.istore_n 3, 1) := by decide +kernel
theorem dL_types_20 : decode cL_types 20 = .ok (.iconst 0, 1) := by decide +kernel
theorem dL_types_21 : decode cL_types 21 = .ok (.istore 4, 2) := by decide +kernel
theorem dL_types_23 : decode cL_types 23 = .ok (.iload 4, 2) := by decide +kernel
theorem dL_types_25 : decode cL_types 25 = .ok (.iload_n 2, 1) := by decide +kernel
theorem dL_types_26 : decode cL_types 26 = .ok (.if_icmp .ge 157, 3) := by decide +kernel
theorem dL_types_29 : decode cL_types 29 = .ok (.iload_n 1, 1) := by decide +kernel
theorem dL_types_30 : decode cL_types 30 = .ok (.iconst 2, 1) := by decide +kernel
theorem dL_types_31 : decode cL_types 31 = .ok (.iconst 2, 1) := by decide +kernel
theorem dL_types_32 : decode cL_types 32 = .ok (.iload 4, 2) := by decide +kernel
theorem dL_types_34 : decode cL_types 34 = .ok (.imul, 1) := by decide +kernel
theorem dL_types_35 : decode cL_types 35 = .ok (.iadd, 1) := by decide +kernel
theorem dL_types_36 : decode cL_types 36 = .ok (.ishr, 1) := by decide +kernel
theorem dL_types_37 : decode cL_types 37 = .ok (.istore 5, 2) := by decide +kernel
theorem dL_types_39 : decode cL_types 39 = .ok (.iload 5, 2) := by decide +kernel
theorem dL_types_41 : decode cL_types 41 = .ok (.bipush 7, 2) := by decide +kernel
theorem dL_types_43 : decode cL_types 43 = .ok (.invokestatic 38, 3) := by decide +kernel
theorem dL_types_46 : decode cL_types 46 = .ok (.istore 6, 2) := by decide +kernel
theorem dL_types_48 : decode cL_types 48 = .ok (.iload_n 3, 1) := by decide +kernel
theorem dL_types_49 : decode cL_types 49 = .ok (.ifCond .eq 126, 3) := by decide +kernel
theorem dL_types_52 : decode cL_types 52 = .ok (.iload 4, 2) := by decide +kernel
theorem dL_types_54 : decode cL_types 54 = .ok (.ifCond .eq 12, 3) := by decide +kernel
theorem dL_types_57 : decode cL_types 57 = .ok (.aload_n 0, 1) := by decide +kernel
theorem dL_types_58 : decode cL_types 58 = .ok (.bipush 59, 2) := by decide +kernel
theorem dL_types_60 : decode cL_types 60 = .ok (.invokevirtual 53, 3) := by decide +kernel
theorem dL_types_63 : decode cL_types 63 = .ok (.ifCond .le 112, 3) := by decide +kernel
theorem dL_types_66 : decode cL_types 66 = .ok (.aload_n 0, 1) := by decide +kernel
theorem dL_types_67 : decode cL_types 67 = .ok (.iload 6, 2) := by decide +kernel
theorem dL_types_69 : decode cL_types 69 = .ok (.iconst 5, 1) := by decide +kernel
theorem dL_types_70 : decode cL_types 70 = .ok (.if_icmp .ge 8, 3) := by decide +kernel
theorem dL_types_73 : decode cL_types 73 = .ok (.bipush 103, 2) := by decide +kernel
theorem dL_types_75 : decode cL_types 75 = .ok (.goto 16, 3) := by decide +kernel
theorem dL_types_78 : decode cL_types 78 = .ok (.iload 6, 2) := by decide +kernel
theorem dL_types_80 : decode cL_types 80 = .ok (.iconst 5, 1) := by decide +kernel
theorem dL_types_81 : decode cL_types 81 = .ok (.if_icmp .ne 8, 3) := by decide +kernel
theorem dL_types_84 : decode cL_types 84 = .ok (.bipush 98, 2) := by decide +kernel
theorem dL_types_86 : decode cL_types 86 = .ok (.goto 5, 3) := by decide +kernel
theorem dL_types_89 : decode cL_types 89 = .ok (.bipush 119, 2) := by decide +kernel
theorem dL_types_91 : decode cL_types 91 = .ok (.invokevirtual 53, 3) := by decide +kernel
theorem dL_types_94 : decode cL_types 94 = .ok (.ifCond .le 81, 3) := by decide +kernel
theorem dL_types_97 : decode cL_types 97 = .ok (.iload 6, 2) := by decide +kernel
theorem dL_types_99 : decode cL_types 99 = .ok (.bipush 6, 2) := by decide +kernel
theorem dL_types_101 : decode cL_types 101 = .ok (.if_icmp .eq 70, 3) := by decide +kernel
theorem dL_types_104 : decode cL_types 104 = .ok (.aload_n 0, 1) := by decide +kernel
theorem dL_types_105 : decode cL_types 105 = .ok (.iload 6, 2) := by decide +kernel
theorem dL_types_107 : decode cL_types 107 = .ok (.iconst 5, 1) := by decide +kernel
theorem dL_types_108 : decode cL_types 108 = .ok (.if_icmp .ge 32, 3) := by decide +kernel
theorem dL_types_111 : decode cL_types 111 = .ok (.iload 5, 2) := by decide +kernel
theorem dL_types_113 : decode cL_types 113 = .ok (.iconst 2, 1) := by decide +kernel
theorem dL_types_114 : decode cL_types 114 = .ok (.ishr, 1) := by decide +kernel
theorem dL_types_115 : decode cL_types 115 = .ok (.iload_n 1, 1) := by decide +kernel
theorem dL_types_116 : decode cL_types 116 = .ok (.bipush 22, 2) := by decide +kernel
theorem dL_types_118 : decode cL_types 118 = .ok (.ishr, 1) := by decide +kernel
theorem dL_types_119 : decode cL_types 119 = .ok (.bipush 9, 2) := by decide +kernel
theorem dL_types_121 : decode cL_types 121 = .ok (.invokestatic 38, 3) := by decide +kernel
theorem dL_types_124 : decode cL_types 124 = .ok (.ifCond .ne 8, 3) := by decide +kernel
theorem dL_types_127 : decode cL_types 127 = .ok (.bipush 44, 2) := by decide +kernel
theorem dL_types_129 : decode cL_types 129 = .ok (.goto 5, 3) := by decide +kernel
theorem dL_types_132 : decode cL_types 132 = .ok (.bipush 40, 2) := by decide +kernel
theorem dL_types_134 : decode cL_types 134 = .ok (.invokestatic 38, 3) := by decide +kernel
theorem dL_types_137 : decode cL_types 137 = .ok (.goto 28, 3) := by decide +kernel
theorem dL_types_140 : decode cL_types 140 = .ok (.iload 5, 2) := by decide +kernel
theorem dL_types_142 : decode cL_types 142 = .ok (.iconst 2, 1) := by decide +kernel
theorem dL_types_143 : decode cL_types 143 = .ok (.ishr, 1) := by decide +kernel
theorem dL_types_144 : decode cL_types 144 = .ok (.iload_n 1, 1) := by decide +kernel
theorem dL_types_145 : decode cL_types 145 = .ok (.bipush 23, 2) := by decide +kernel
theorem dL_types_147 : decode cL_types 147 = .ok (.ishr, 1) := by decide +kernel
theorem dL_types_148 : decode cL_types 148 = .ok (.iconst 5, 1) := by decide +kernel
theorem dL_types_149 : decode cL_types 149 = .ok (.invokestatic 38, 3) := by decide +kernel
theorem dL_types_152 : decode cL_types 152 = .ok (.ifCond .ne 8, 3) := by decide +kernel
theorem dL_types_155 : decode cL_types 155 = .ok (.bipush 125, 2) := by decide +kernel
theorem dL_types_157 : decode cL_types 157 = .ok (.goto 5, 3) := by decide +kernel
theorem dL_types_160 : decode cL_types 160 = .ok (.bipush 9, 2) := by decide +kernel
theorem dL_types_162 : decode cL_types 162 = .ok (.invokestatic 38, 3) := by decide +kernel
theorem dL_types_165 : decode cL_types 165 = .ok (.invokestatic 60, 3) := by decide +kernel
theorem dL_types_168 : decode cL_types 168 = .ok (.ifCond .eq 7, 3) := by decide +kernel
theorem dL_types_171 : decode cL_types 171 = .ok (.iconst 1, 1) := by decide +kernel
theorem dL_types_172 : decode cL_types 172 = .ok (.goto 4, 3) := by decide +kernel
theorem dL_types_175 : decode cL_types 175 = .ok (.iconst 0, 1) := by decide +kernel
theorem dL_types_176 : decode cL_types 176 = .ok (.istore_n 3, 1) := by decide +kernel
theorem dL_types_177 : decode cL_types 177 = .ok (.iinc 4 1, 3) := by decide +kernel
theorem dL_types_180 : decode cL_types 180 = .ok (.goto (-157), 3) := by decide +kernel
theorem dL_types_183 : decode cL_types 183 = .ok (.iload_n 3, 1) := by decide +kernel
theorem dL_types_184 : decode cL_types 184 = .ok (.ifCond .eq 28, 3) := by decide +kernel
theorem dL_types_187 : decode cL_types 187 = .ok (.iload_n 1, 1) := by decide +kernel
theorem dL_types_188 : decode cL_types 188 = .ok (.bipush 26, 2) := by decide +kernel
theorem dL_types_190 : decode cL_types 190 = .ok (.ishr, 1) := by decide +kernel
theorem dL_types_191 : decode cL_types 191 = .ok (.bipush 6, 2) := by decide +kernel
theorem dL_types_193 : decode cL_types 193 = .ok (.invokestatic 38, 3) := by decide +kernel
theorem dL_types_196 : decode cL_types 196 = .ok (.ifCond .gt 12, 3) := by decide +kernel
theorem dL_types_199 : decode cL_types 199 = .ok (.aload_n 0, 1) := by decide +kernel
theorem dL_types_200 : decode cL_types 200 = .ok (.bipush 59, 2) := by decide +kernel
theorem dL_types_202 : decode cL_types 202 = .ok (.invokevirtual 53, 3) := by decide +kernel
theorem dL_types_205 : decode cL_types 205 = .ok (.ifCond .le 7, 3) := by decide +kernel
theorem dL_types_208 : decode cL_types 208 = .ok (.iconst 1, 1) := by decide +kernel
theorem dL_types_209 : decode cL_types 209 = .ok (.goto 4, 3) := by decide +kernel
theorem dL_types_212 : decode cL_types 212 = .ok (.iconst 0, 1) := by decide +kernel
theorem dL_types_213 : decode cL_types 213 = .ok (.ireturn, 1) := by decide +kernel
set_option maxRecDepth 20000 in
theorem ggL_carries_L_look : GoodIn wsL_carries wsL_look := goodIn_r _ [4, 5, 6, 7, 8, 9, 10, 11, 12, 13, 14, 15, 16, 17, 18, 19, 20, 21, 22, 23, 24, 25, 26, 27, 28, 29, 30, 31, 32, 33, 34, 35, 36, 37, 38, 39, 40, 41, 42, 43, 44, 45, 46, 47, 48, 49, 50, 51, 52, 53, 54, 55, 56, 57, 58, 59, 60, 61, 62, 63, 64, 65, 66, 67, 68, 69, 70, 71, 72, 73, 74, 75, 76, 77, 78, 79, 80, 81, 82, 83, 84, 85, 86, 87, 88, 89, 90, 91, 92, 93, 94, 95, 96, 97, 98, 99, 100, 101, 102, 103, 104, 105, 106, 107, 108, 109, 110, 111, 112, 113, 114, 115, 116, 117, 118, 119, 120, 121, 122, 123, 124, 125, 126, 127, 128, 129, 130, 131, 132, 133, 134, 135, 136, 137, 138, 139, 140, 141, 142, 143, 144, 145, 146, 147, 148, 149, 150, 151, 152, 153, 338, 339, 340, 341, 342, 343, 344, 345, 346, 347, 348, 349, 350, 351, 352, 353, 354, 355, 356, 357, 358, 359, 360, 361, 362, 363, 364, 365, 366, 367, 368, 369, 370, 371, 372, 373, 374, 375, 376, 377, 378] (by decide +kernel) (by decide +kernel)
set_option maxRecDepth 20000 in
theorem gL_carries_L_look : GoodIn wsL_carries (va_wsS RL 64 yL_look wsL_look) := goodIn_app (goodIn_of _ (by decide +kernel)) ggL_carries_L_look
set_option maxRecDepth 20000 in
theorem ggL_carries_L_low : GoodIn wsL_carries wsL_low := goodIn_r _ [156, 157] (by decide +kernel) (by decide +kernel)
set_option maxRecDepth 20000 in
theorem gL_carries_L_low : GoodIn wsL_carries (va_wsS RL 38 yL_low wsL_low) := goodIn_app (goodIn_of _ (by decide +kernel)) ggL_carries_L_low
set_option maxRecDepth 20000 in
theorem ggL_carries_X7_count : GoodIn wsL_carries wsX7_count := goodIn_r _ [11, 12, 13, 14, 15, 16, 17, 18, 19, 20, 21, 22, 23, 24, 25, 26, 27, 28, 29, 30, 31, 32, 33, 34, 35, 36, 37, 38, 39, 40, 41, 42, 43, 44, 45, 46, 47, 48, 49, 50, 51, 52, 10, 53, 54, 55, 56, 57, 58, 59, 60, 61, 62, 63, 64, 65, 66, 67, 68, 69, 70, 71, 72, 73, 74, 75, 76, 77, 78, 79, 80, 81, 82, 83, 84, 85, 86, 87, 88, 89, 90, 91, 92, 93, 94, 95, 96, 97, 98, 99, 100, 101, 102, 103, 104, 105, 106, 107, 108, 109, 110, 111, 112, 113, 114, 115, 116, 117, 118, 119, 120, 121, 122, 123, 124, 125, 126, 127, 128, 129, 130, 131, 132, 133, 134, 135, 136, 137, 138, 338, 339, 340, 341, 342, 343, 344, 345, 346, 347, 348, 349, 350, 351, 352, 353, 354, 355, 356, 357, 358, 359, 360, 361, 362, 363, 364, 365, 366, 367, 368, 369, 370, 371, 372, 373, 374, 375, 376, 377, 378] (by decide +kernel) (by decide +kernel)
set_option maxRecDepth 20000 in
theorem gL_carries_X7_count : GoodIn wsL_carries (wsV RL 13 RX7 yX7_count wsX7_count) := goodIn_app (goodIn_of _ (by decide +kernel)) ggL_carries_X7_count
set_option maxRecDepth 20000 in
theorem ggL_carries_X7_why : GoodIn wsL_carries wsX7_why := goodIn_r _ [161, 162, 163, 164, 338, 339, 340, 341, 342, 343, 344, 345, 346, 347, 348, 349, 350, 351] (by decide +kernel) (by decide +kernel)
set_option maxRecDepth 20000 in
theorem gL_carries_X7_why : GoodIn wsL_carries (wsV RL 68 RX7 yX7_why wsX7_why) := goodIn_app (goodIn_of _ (by decide +kernel)) ggL_carries_X7_why
set_option maxRecDepth 20000 in
theorem ggL_carries_L_types : GoodIn wsL_carries wsL_types := goodIn_r _ [167, 154, 155, 3, 156, 157, 168, 169, 170, 10, 171, 13, 172, 173, 174, 175, 176, 177, 178, 179, 180, 181, 182, 183, 184, 185, 186, 187, 188, 189, 338, 339, 340, 341, 342, 343, 344, 345, 346, 347, 348, 349, 350, 351, 363, 364, 365, 366, 367, 368] (by decide +kernel) (by decide +kernel)
set_option maxRecDepth 20000 in
theorem gL_carries_L_types : GoodIn wsL_carries (va_wsS RL 71 yL_types wsL_types) := goodIn_app (goodIn_of _ (by decide +kernel)) ggL_carries_L_types
set_option maxRecDepth 20000 in
theorem ggL_carries_X7_fault : GoodIn wsL_carries wsX7_fault := goodIn_r _ [193, 13, 194, 195, 196, 175, 197, 177, 186, 198, 199, 200, 201, 202, 203, 204, 205, 206, 338, 339, 340, 341, 342, 343, 344, 345, 346, 347, 348, 349, 350, 351, 363, 364, 365, 366, 367, 368] (by decide +kernel) (by decide +kernel)
set_option maxRecDepth 20000 in
theorem gL_carries_X7_fault : GoodIn wsL_carries (wsV RL 74 RX7 yX7_fault wsX7_fault) := goodIn_app (goodIn_of _ (by decide +kernel)) ggL_carries_X7_fault
set_option maxRecDepth 20000 in
theorem ggL_carries_X7_carryOut : GoodIn wsL_carries wsX7_carryOut := goodIn_r _ [210, 13, 162, 163, 164, 194, 195, 196, 175, 197, 177, 186, 198, 199, 200, 201, 202, 203, 204, 205, 206, 211, 212, 213, 10, 214, 14, 215, 12, 216, 217, 218, 219, 220, 221, 222, 18, 223, 21, 224, 225, 226, 227, 106, 153, 42, 90, 20, 228, 229, 230, 231, 232, 233, 234, 235, 236, 237, 238, 239, 240, 241, 242, 243, 244, 245, 246, 247, 248, 249, 250, 251, 252, 253, 254, 255, 256, 257, 103, 104, 105, 107, 75, 76, 77, 258, 259, 260, 261, 262, 263, 264, 265, 266, 267, 268, 28, 269, 270, 271, 272, 273, 274, 275, 276, 277, 67, 68, 38, 39, 40, 41, 278, 279, 280, 281, 282, 283, 284, 285, 286, 287, 288, 289, 290, 291, 292, 293, 294, 295, 296, 297, 298, 299, 87, 88, 89, 300, 301, 302, 303, 304, 44, 45, 46, 47, 48, 49, 305, 306, 307, 308, 309, 310, 311, 312, 313, 314, 315, 316, 317, 318, 319, 320, 321, 322, 323, 324, 325, 326, 327, 328, 329, 330, 331, 332, 333, 334, 335, 336, 337, 172, 173, 174, 176, 338, 339, 340, 341, 342, 343, 344, 345, 346, 347, 348, 349, 350, 351, 363, 364, 365, 366, 367, 368, 352, 353, 354, 355, 356, 357, 358, 359, 360, 361, 362, 379, 380, 381, 382, 383, 384, 385] (by decide +kernel) (by decide +kernel)
set_option maxRecDepth 20000 in
theorem gL_carries_X7_carryOut : GoodIn wsL_carries (wsV RL 77 RX7 yX7_carryOut wsX7_carryOut) := goodIn_app (goodIn_of _ (by decide +kernel)) ggL_carries_X7_carryOut
set_option maxRecDepth 20000 in
theorem ggL_carries_X7_clear : GoodIn wsL_carries wsX7_clear := goodIn_r _ [171, 13, 172, 173, 174, 175, 176, 177, 338, 339, 340, 341, 342, 343, 344, 345, 346, 347, 348, 349, 350, 351, 363, 364, 365, 366, 367, 368] (by decide +kernel) (by decide +kernel)
set_option maxRecDepth 20000 in
theorem gL_carries_X7_clear : GoodIn wsL_carries (wsV RL 56 RX7 yX7_clear wsX7_clear) := goodIn_app (goodIn_of _ (by decide +kernel)) ggL_carries_X7_clear
theorem dL_carries_0 : decode cL_carries 0 = .ok (.aload_n 0, 1) := by decide +kernel
theorem dL_carries_1 : decode cL_carries 1 = .ok (.invokestatic 64, 3) := by decide +kernel
theorem dL_carries_4 : decode cL_carries 4 = .ok (.lstore_n 2, 1) := by decide +kernel
theorem dL_carries_5 : decode cL_carries 5 = .ok (.iload_n 1, 1) := by decide +kernel
theorem dL_carries_6 : decode cL_carries 6 = .ok (.bipush 9, 2) := by decide +kernel
theorem dL_carries_8 : decode cL_carries 8 = .ok (.invokestatic 38, 3) := by decide +kernel
theorem dL_carries_11 : decode cL_carries 11 = .ok (.istore 4, 2) := by decide +kernel
theorem dL_carries_13 : decode cL_carries 13 = .ok (.aload_n 0, 1) := by decide +kernel
theorem dL_carries_14 : decode cL_carries 14 = .ok (.bipush 19, 2) := by decide +kernel
theorem dL_carries_16 : decode cL_carries 16 = .ok (.invokevirtual 13, 3) := by decide +kernel
theorem dL_carries_19 : decode cL_carries 19 = .ok (.istore 5, 2) := by decide +kernel
theorem dL_carries_21 : decode cL_carries 21 = .ok (.aload_n 0, 1) := by decide +kernel
theorem dL_carries_22 : decode cL_carries 22 = .ok (.iconst 0, 1) := by decide +kernel
theorem dL_carries_23 : decode cL_carries 23 = .ok (.invokevirtual 68, 3) := by decide +kernel
theorem dL_carries_26 : decode cL_carries 26 = .ok (.istore 6, 2) := by decide +kernel
theorem dL_carries_28 : decode cL_carries 28 = .ok (.aload_n 0, 1) := by decide +kernel
theorem dL_carries_29 : decode cL_carries 29 = .ok (.iconst 2, 1) := by decide +kernel
theorem dL_carries_30 : decode cL_carries 30 = .ok (.invokevirtual 68, 3) := by decide +kernel
theorem dL_carries_33 : decode cL_carries 33 = .ok (.istore 7, 2) := by decide +kernel
theorem dL_carries_35 : decode cL_carries 35 = .ok (.aload_n 0, 1) := by decide +kernel
theorem dL_carries_36 : decode cL_carries 36 = .ok (.iload_n 1, 1) := by decide +kernel
theorem dL_carries_37 : decode cL_carries 37 = .ok (.invokestatic 71, 3) := by decide +kernel
theorem dL_carries_40 : decode cL_carries 40 = .ok (.istore 8, 2) := by decide +kernel
theorem dL_carries_42 : decode cL_carries 42 = .ok (.aload_n 0, 1) := by decide +kernel
theorem dL_carries_43 : decode cL_carries 43 = .ok (.bipush 18, 2) := by decide +kernel
theorem dL_carries_45 : decode cL_carries 45 = .ok (.invokevirtual 13, 3) := by decide +kernel
theorem dL_carries_48 : decode cL_carries 48 = .ok (.istore 9, 2) := by decide +kernel
theorem dL_carries_50 : decode cL_carries 50 = .ok (.aload_n 0, 1) := by decide +kernel
theorem dL_carries_51 : decode cL_carries 51 = .ok (.invokevirtual 74, 3) := by decide +kernel
theorem dL_carries_54 : decode cL_carries 54 = .ok (.istore 10, 2) := by decide +kernel
theorem dL_carries_56 : decode cL_carries 56 = .ok (.aload_n 0, 1) := by decide +kernel
theorem dL_carries_57 : decode cL_carries 57 = .ok (.invokevirtual 77, 3) := by decide +kernel
theorem dL_carries_60 : decode cL_carries 60 = .ok (.istore 11, 2) := by decide +kernel
theorem dL_carries_62 : decode cL_carries 62 = .ok (.aload_n 0, 1) := by decide +kernel
theorem dL_carries_63 : decode cL_carries 63 = .ok (.invokevirtual 56, 3) := by decide +kernel
theorem dL_carries_66 : decode cL_carries 66 = .ok (.istore 12, 2) := by decide +kernel
theorem dL_carries_68 : decode cL_carries 68 = .ok (.iload 8, 2) := by decide +kernel
theorem dL_carries_70 : decode cL_carries 70 = .ok (.ifCond .eq 34, 3) := by decide +kernel
theorem dL_carries_73 : decode cL_carries 73 = .ok (.iload 11, 2) := by decide +kernel
theorem dL_carries_75 : decode cL_carries 75 = .ok (.bipush (-2), 2) := by decide +kernel
theorem dL_carries_77 : decode cL_carries 77 = .ok (.if_icmp .ne 7, 3) := by decide +kernel
theorem dL_carries_80 : decode cL_carries 80 = .ok (.iconst 1, 1) := by decide +kernel
theorem dL_carries_81 : decode cL_carries 81 = .ok (.goto 4, 3) := by decide +kernel
theorem dL_carries_84 : decode cL_carries 84 = .ok (.iconst 0, 1) := by decide +kernel
theorem dL_carries_85 : decode cL_carries 85 = .ok (.iload 10, 2) := by decide +kernel
theorem dL_carries_87 : decode cL_carries 87 = .ok (.bipush (-4), 2) := by decide +kernel
theorem dL_carries_89 : decode cL_carries 89 = .ok (.if_icmp .eq 7, 3) := by decide +kernel
theorem dL_carries_92 : decode cL_carries 92 = .ok (.iconst 1, 1) := by decide +kernel
theorem dL_carries_93 : decode cL_carries 93 = .ok (.goto 4, 3) := by decide +kernel
theorem dL_carries_96 : decode cL_carries 96 = .ok (.iconst 0, 1) := by decide +kernel
theorem dL_carries_97 : decode cL_carries 97 = .ok (.if_icmp .ne 7, 3) := by decide +kernel
theorem dL_carries_100 : decode cL_carries 100 = .ok (.iconst 1, 1) := by decide +kernel
theorem dL_carries_101 : decode cL_carries 101 = .ok (.goto 4, 3) := by decide +kernel
theorem dL_carries_104 : decode cL_carries 104 = .ok (.iconst 0, 1) := by decide +kernel
theorem dL_carries_105 : decode cL_carries 105 = .ok (.istore 13, 2) := by decide +kernel
theorem dL_carries_107 : decode cL_carries 107 = .ok (.iload 10, 2) := by decide +kernel
theorem dL_carries_109 : decode cL_carries 109 = .ok (.bipush (-4), 2) := by decide +kernel
theorem dL_carries_111 : decode cL_carries 111 = .ok (.if_icmp .eq 73, 3) := by decide +kernel
theorem dL_carries_114 : decode cL_carries 114 = .ok (.iload 13, 2) := by decide +kernel
theorem dL_carries_116 : decode cL_carries 116 = .ok (.ifCond .eq 66, 3) := by decide +kernel
theorem dL_carries_119 : decode cL_carries 119 = .ok (.iload 10, 2) := by decide +kernel
theorem dL_carries_121 : decode cL_carries 121 = .ok (.ifCond .lt 61, 3) := by decide +kernel
theorem dL_carries_124 : decode cL_carries 124 = .ok (.iload 10, 2) := by decide +kernel
theorem dL_carries_126 : decode cL_carries 126 = .ok (.iload 9, 2) := by decide +kernel
theorem dL_carries_128 : decode cL_carries 128 = .ok (.if_icmp .gt 54, 3) := by decide +kernel
theorem dL_carries_131 : decode cL_carries 131 = .ok (.iload 12, 2) := by decide +kernel
theorem dL_carries_133 : decode cL_carries 133 = .ok (.iload 9, 2) := by decide +kernel
theorem dL_carries_135 : decode cL_carries 135 = .ok (.if_icmp .ne 47, 3) := by decide +kernel
theorem dL_carries_138 : decode cL_carries 138 = .ok (.aload_n 0, 1) := by decide +kernel
theorem dL_carries_139 : decode cL_carries 139 = .ok (.invokestatic 64, 3) := by decide +kernel
theorem dL_carries_142 : decode cL_carries 142 = .ok (.lload_n 2, 1) := by decide +kernel
theorem dL_carries_143 : decode cL_carries 143 = .ok (.lcmp, 1) := by decide +kernel
theorem dL_carries_144 : decode cL_carries 144 = .ok (.ifCond .ne 38, 3) := by decide +kernel
theorem dL_carries_147 : decode cL_carries 147 = .ok (.aload_n 0, 1) := by decide +kernel
theorem dL_carries_148 : decode cL_carries 148 = .ok (.bipush 19, 2) := by decide +kernel
theorem dL_carries_150 : decode cL_carries 150 = .ok (.invokevirtual 13, 3) := by decide +kernel
theorem dL_carries_153 : decode cL_carries 153 = .ok (.iload 5, 2) := by decide +kernel
theorem dL_carries_155 : decode cL_carries 155 = .ok (.if_icmp .ne 27, 3) := by decide +kernel
theorem dL_carries_158 : decode cL_carries 158 = .ok (.aload_n 0, 1) := by decide +kernel
theorem dL_carries_159 : decode cL_carries 159 = .ok (.iconst 0, 1) := by decide +kernel
theorem dL_carries_160 : decode cL_carries 160 = .ok (.invokevirtual 68, 3) := by decide +kernel
theorem dL_carries_163 : decode cL_carries 163 = .ok (.iload 6, 2) := by decide +kernel
theorem dL_carries_165 : decode cL_carries 165 = .ok (.if_icmp .ne 17, 3) := by decide +kernel
theorem dL_carries_168 : decode cL_carries 168 = .ok (.aload_n 0, 1) := by decide +kernel
theorem dL_carries_169 : decode cL_carries 169 = .ok (.iconst 2, 1) := by decide +kernel
theorem dL_carries_170 : decode cL_carries 170 = .ok (.invokevirtual 68, 3) := by decide +kernel
theorem dL_carries_173 : decode cL_carries 173 = .ok (.iload 7, 2) := by decide +kernel
theorem dL_carries_175 : decode cL_carries 175 = .ok (.if_icmp .ne 7, 3) := by decide +kernel
theorem dL_carries_178 : decode cL_carries 178 = .ok (.iconst 1, 1) := by decide +kernel
theorem dL_carries_179 : decode cL_carries 179 = .ok (.goto 4, 3) := by decide +kernel
theorem dL_carries_182 : decode cL_carries 182 = .ok (.iconst 0, 1) := by decide +kernel
theorem dL_carries_183 : decode cL_carries 183 = .ok (.ireturn, 1) := by decide +kernel
theorem dL_carries_184 : decode cL_carries 184 = .ok (.iload 13, 2) := by decide +kernel
theorem dL_carries_186 : decode cL_carries 186 = .ok (.ifCond .eq 138, 3) := by decide +kernel
theorem dL_carries_189 : decode cL_carries 189 = .ok (.iload 11, 2) := by decide +kernel
theorem dL_carries_191 : decode cL_carries 191 = .ok (.ifCond .lt 133, 3) := by decide +kernel
theorem dL_carries_194 : decode cL_carries 194 = .ok (.iload 11, 2) := by decide +kernel
theorem dL_carries_196 : decode cL_carries 196 = .ok (.iload 4, 2) := by decide +kernel
theorem dL_carries_198 : decode cL_carries 198 = .ok (.if_icmp .gt 126, 3) := by decide +kernel
theorem dL_carries_201 : decode cL_carries 201 = .ok (.iload 12, 2) := by decide +kernel
theorem dL_carries_203 : decode cL_carries 203 = .ok (.ifCond .ne 121, 3) := by decide +kernel
theorem dL_carries_206 : decode cL_carries 206 = .ok (.aload_n 0, 1) := by decide +kernel
theorem dL_carries_207 : decode cL_carries 207 = .ok (.bipush 19, 2) := by decide +kernel
theorem dL_carries_209 : decode cL_carries 209 = .ok (.invokevirtual 13, 3) := by decide +kernel
theorem dL_carries_212 : decode cL_carries 212 = .ok (.iload 5, 2) := by decide +kernel
theorem dL_carries_214 : decode cL_carries 214 = .ok (.iconst 4, 1) := by decide +kernel
theorem dL_carries_215 : decode cL_carries 215 = .ok (.if_icmp .ge 10, 3) := by decide +kernel
theorem dL_carries_218 : decode cL_carries 218 = .ok (.iload 5, 2) := by decide +kernel
theorem dL_carries_220 : decode cL_carries 220 = .ok (.iconst 1, 1) := by decide +kernel
theorem dL_carries_221 : decode cL_carries 221 = .ok (.iadd, 1) := by decide +kernel
theorem dL_carries_222 : decode cL_carries 222 = .ok (.goto 4, 3) := by decide +kernel
theorem dL_carries_225 : decode cL_carries 225 = .ok (.iconst 4, 1) := by decide +kernel
theorem dL_carries_226 : decode cL_carries 226 = .ok (.if_icmp .ne 98, 3) := by decide +kernel
theorem dL_carries_229 : decode cL_carries 229 = .ok (.iload 11, 2) := by decide +kernel
theorem dL_carries_231 : decode cL_carries 231 = .ok (.iload 4, 2) := by decide +kernel
theorem dL_carries_233 : decode cL_carries 233 = .ok (.if_icmp .ne 36, 3) := by decide +kernel
theorem dL_carries_236 : decode cL_carries 236 = .ok (.aload_n 0, 1) := by decide +kernel
theorem dL_carries_237 : decode cL_carries 237 = .ok (.iconst 0, 1) := by decide +kernel
theorem dL_carries_238 : decode cL_carries 238 = .ok (.invokevirtual 68, 3) := by decide +kernel
theorem dL_carries_241 : decode cL_carries 241 = .ok (.bipush (-4), 2) := by decide +kernel
theorem dL_carries_243 : decode cL_carries 243 = .ok (.if_icmp .ne 81, 3) := by decide +kernel
theorem dL_carries_246 : decode cL_carries 246 = .ok (.aload_n 0, 1) := by decide +kernel
theorem dL_carries_247 : decode cL_carries 247 = .ok (.iconst 1, 1) := by decide +kernel
theorem dL_carries_248 : decode cL_carries 248 = .ok (.invokevirtual 68, 3) := by decide +kernel
theorem dL_carries_251 : decode cL_carries 251 = .ok (.bipush (-4), 2) := by decide +kernel
theorem dL_carries_253 : decode cL_carries 253 = .ok (.if_icmp .ne 71, 3) := by decide +kernel
theorem dL_carries_256 : decode cL_carries 256 = .ok (.aload_n 0, 1) := by decide +kernel
theorem dL_carries_257 : decode cL_carries 257 = .ok (.iconst 2, 1) := by decide +kernel
theorem dL_carries_258 : decode cL_carries 258 = .ok (.invokevirtual 68, 3) := by decide +kernel
theorem dL_carries_261 : decode cL_carries 261 = .ok (.bipush (-4), 2) := by decide +kernel
theorem dL_carries_263 : decode cL_carries 263 = .ok (.if_icmp .ne 61, 3) := by decide +kernel
theorem dL_carries_266 : decode cL_carries 266 = .ok (.goto 54, 3) := by decide +kernel
theorem dL_carries_269 : decode cL_carries 269 = .ok (.aload_n 0, 1) := by decide +kernel
theorem dL_carries_270 : decode cL_carries 270 = .ok (.iconst 0, 1) := by decide +kernel
theorem dL_carries_271 : decode cL_carries 271 = .ok (.invokevirtual 68, 3) := by decide +kernel
theorem dL_carries_274 : decode cL_carries 274 = .ok (.iconst (-1), 1) := by decide +kernel
