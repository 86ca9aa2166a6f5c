theorem dL_acts_264 : decode cL_acts 264 = .ok (.iload 5, 2) := by decide +kernel
theorem dL_acts_266 : decode cL_acts 266 = .ok (.iadd, 1) := by decide +kernel
theorem dL_acts_267 : decode cL_acts 267 = .ok (.if_icmp .ne 7, 3) := by decide +kernel
theorem dL_acts_270 : decode cL_acts 270 = .ok (.iconst 1, 1) := by decide +kernel
theorem dL_acts_271 : decode cL_acts 271 = .ok (.goto 4, 3) := by decide +kernel
theorem dL_acts_274 : decode cL_acts 274 = .ok (.iconst 0, 1) := by decide +kernel
theorem dL_acts_275 : decode cL_acts 275 = .ok (.ireturn, 1) := by decide +kernel
theorem dL_acts_276 : decode cL_acts 276 = .ok (.iload_n 3, 1) := by decide +kernel
theorem dL_acts_277 : decode cL_acts 277 = .ok (.bipush 12, 2) := by decide +kernel
theorem dL_acts_279 : decode cL_acts 279 = .ok (.if_icmp .ne 154, 3) := by decide +kernel
theorem dL_acts_282 : decode cL_acts 282 = .ok (.iload_n 2, 1) := by decide +kernel
theorem dL_acts_283 : decode cL_acts 283 = .ok (.iload 4, 2) := by decide +kernel
theorem dL_acts_285 : decode cL_acts 285 = .ok (.iconst 1, 1) := by decide +kernel
theorem dL_acts_286 : decode cL_acts 286 = .ok (.iadd, 1) := by decide +kernel
theorem dL_acts_287 : decode cL_acts 287 = .ok (.invokestatic 38, 3) := by decide +kernel
theorem dL_acts_290 : decode cL_acts 290 = .ok (.istore 5, 2) := by decide +kernel
theorem dL_acts_292 : decode cL_acts 292 = .ok (.iload 5, 2) := by decide +kernel
theorem dL_acts_294 : decode cL_acts 294 = .ok (.iload 4, 2) := by decide +kernel
theorem dL_acts_296 : decode cL_acts 296 = .ok (.if_icmp .ne 7, 3) := by decide +kernel
theorem dL_acts_299 : decode cL_acts 299 = .ok (.iconst 0, 1) := by decide +kernel
theorem dL_acts_300 : decode cL_acts 300 = .ok (.goto 10, 3) := by decide +kernel
theorem dL_acts_303 : decode cL_acts 303 = .ok (.aload_n 0, 1) := by decide +kernel
theorem dL_acts_304 : decode cL_acts 304 = .ok (.iload 5, 2) := by decide +kernel
theorem dL_acts_306 : decode cL_acts 306 = .ok (.iconst 4, 1) := by decide +kernel
theorem dL_acts_307 : decode cL_acts 307 = .ok (.invokevirtual 19, 3) := by decide +kernel
theorem dL_acts_310 : decode cL_acts 310 = .ok (.istore 6, 2) := by decide +kernel
theorem dL_acts_312 : decode cL_acts 312 = .ok (.iload 5, 2) := by decide +kernel
theorem dL_acts_314 : decode cL_acts 314 = .ok (.iload 4, 2) := by decide +kernel
theorem dL_acts_316 : decode cL_acts 316 = .ok (.if_icmp .ge 19, 3) := by decide +kernel
theorem dL_acts_319 : decode cL_acts 319 = .ok (.aload_n 0, 1) := by decide +kernel
theorem dL_acts_320 : decode cL_acts 320 = .ok (.iload 5, 2) := by decide +kernel
theorem dL_acts_322 : decode cL_acts 322 = .ok (.iconst 1, 1) := by decide +kernel
theorem dL_acts_323 : decode cL_acts 323 = .ok (.invokevirtual 19, 3) := by decide +kernel
theorem dL_acts_326 : decode cL_acts 326 = .ok (.bipush (-4), 2) := by decide +kernel
theorem dL_acts_328 : decode cL_acts 328 = .ok (.if_icmp .ne 7, 3) := by decide +kernel
theorem dL_acts_331 : decode cL_acts 331 = .ok (.iconst 1, 1) := by decide +kernel
theorem dL_acts_332 : decode cL_acts 332 = .ok (.goto 4, 3) := by decide +kernel
theorem dL_acts_335 : decode cL_acts 335 = .ok (.iconst 0, 1) := by decide +kernel
theorem dL_acts_336 : decode cL_acts 336 = .ok (.istore 7, 2) := by decide +kernel
theorem dL_acts_338 : decode cL_acts 338 = .ok (.aload_n 0, 1) := by decide +kernel
theorem dL_acts_339 : decode cL_acts 339 = .ok (.bipush 9, 2) := by decide +kernel
theorem dL_acts_341 : decode cL_acts 341 = .ok (.invokevirtual 13, 3) := by decide +kernel
theorem dL_acts_344 : decode cL_acts 344 = .ok (.istore 8, 2) := by decide +kernel
theorem dL_acts_346 : decode cL_acts 346 = .ok (.aload_n 0, 1) := by decide +kernel
theorem dL_acts_347 : decode cL_acts 347 = .ok (.iload 5, 2) := by decide +kernel
theorem dL_acts_349 : decode cL_acts 349 = .ok (.invokevirtual 86, 3) := by decide +kernel
theorem dL_acts_352 : decode cL_acts 352 = .ok (.istore 9, 2) := by decide +kernel
theorem dL_acts_354 : decode cL_acts 354 = .ok (.iload 9, 2) := by decide +kernel
theorem dL_acts_356 : decode cL_acts 356 = .ok (.iload 5, 2) := by decide +kernel
theorem dL_acts_358 : decode cL_acts 358 = .ok (.iload 4, 2) := by decide +kernel
theorem dL_acts_360 : decode cL_acts 360 = .ok (.if_icmp .ne 7, 3) := by decide +kernel
theorem dL_acts_363 : decode cL_acts 363 = .ok (.iconst (-1), 1) := by decide +kernel
theorem dL_acts_364 : decode cL_acts 364 = .ok (.goto 15, 3) := by decide +kernel
theorem dL_acts_367 : decode cL_acts 367 = .ok (.iload 7, 2) := by decide +kernel
theorem dL_acts_369 : decode cL_acts 369 = .ok (.ifCond .eq 8, 3) := by decide +kernel
theorem dL_acts_372 : decode cL_acts 372 = .ok (.bipush (-2), 2) := by decide +kernel
theorem dL_acts_374 : decode cL_acts 374 = .ok (.goto 5, 3) := by decide +kernel
theorem dL_acts_377 : decode cL_acts 377 = .ok (.iload 6, 2) := by decide +kernel
theorem dL_acts_379 : decode cL_acts 379 = .ok (.if_icmp .ne 52, 3) := by decide +kernel
theorem dL_acts_382 : decode cL_acts 382 = .ok (.aload_n 0, 1) := by decide +kernel
theorem dL_acts_383 : decode cL_acts 383 = .ok (.iconst 0, 1) := by decide +kernel
theorem dL_acts_384 : decode cL_acts 384 = .ok (.invokevirtual 13, 3) := by decide +kernel
theorem dL_acts_387 : decode cL_acts 387 = .ok (.iload 4, 2) := by decide +kernel
theorem dL_acts_389 : decode cL_acts 389 = .ok (.iload 9, 2) := by decide +kernel
theorem dL_acts_391 : decode cL_acts 391 = .ok (.ifCond .ge 7, 3) := by decide +kernel
theorem dL_acts_394 : decode cL_acts 394 = .ok (.iconst 0, 1) := by decide +kernel
theorem dL_acts_395 : decode cL_acts 395 = .ok (.goto 5, 3) := by decide +kernel
theorem dL_acts_398 : decode cL_acts 398 = .ok (.iload 9, 2) := by decide +kernel
theorem dL_acts_400 : decode cL_acts 400 = .ok (.isub, 1) := by decide +kernel
theorem dL_acts_401 : decode cL_acts 401 = .ok (.if_icmp .ne 30, 3) := by decide +kernel
theorem dL_acts_404 : decode cL_acts 404 = .ok (.aload_n 0, 1) := by decide +kernel
theorem dL_acts_405 : decode cL_acts 405 = .ok (.bipush 9, 2) := by decide +kernel
theorem dL_acts_407 : decode cL_acts 407 = .ok (.invokevirtual 13, 3) := by decide +kernel
theorem dL_acts_410 : decode cL_acts 410 = .ok (.iload 8, 2) := by decide +kernel
theorem dL_acts_412 : decode cL_acts 412 = .ok (.iload 9, 2) := by decide +kernel
theorem dL_acts_414 : decode cL_acts 414 = .ok (.ifCond .ge 7, 3) := by decide +kernel
theorem dL_acts_417 : decode cL_acts 417 = .ok (.iconst 0, 1) := by decide +kernel
theorem dL_acts_418 : decode cL_acts 418 = .ok (.goto 5, 3) := by decide +kernel
theorem dL_acts_421 : decode cL_acts 421 = .ok (.iload 9, 2) := by decide +kernel
theorem dL_acts_423 : decode cL_acts 423 = .ok (.iadd, 1) := by decide +kernel
theorem dL_acts_424 : decode cL_acts 424 = .ok (.if_icmp .ne 7, 3) := by decide +kernel
theorem dL_acts_427 : decode cL_acts 427 = .ok (.iconst 1, 1) := by decide +kernel
theorem dL_acts_428 : decode cL_acts 428 = .ok (.goto 4, 3) := by decide +kernel
theorem dL_acts_431 : decode cL_acts 431 = .ok (.iconst 0, 1) := by decide +kernel
theorem dL_acts_432 : decode cL_acts 432 = .ok (.ireturn, 1) := by decide +kernel
theorem dL_acts_433 : decode cL_acts 433 = .ok (.iload_n 3, 1) := by decide +kernel
theorem dL_acts_434 : decode cL_acts 434 = .ok (.bipush 13, 2) := by decide +kernel
theorem dL_acts_436 : decode cL_acts 436 = .ok (.if_icmp .ne 76, 3) := by decide +kernel
theorem dL_acts_439 : decode cL_acts 439 = .ok (.aload_n 0, 1) := by decide +kernel
theorem dL_acts_440 : decode cL_acts 440 = .ok (.iconst 1, 1) := by decide +kernel
theorem dL_acts_441 : decode cL_acts 441 = .ok (.invokevirtual 13, 3) := by decide +kernel
theorem dL_acts_444 : decode cL_acts 444 = .ok (.istore 5, 2) := by decide +kernel
theorem dL_acts_446 : decode cL_acts 446 = .ok (.aload_n 0, 1) := by decide +kernel
theorem dL_acts_447 : decode cL_acts 447 = .ok (.iconst 2, 1) := by decide +kernel
theorem dL_acts_448 : decode cL_acts 448 = .ok (.invokevirtual 13, 3) := by decide +kernel
theorem dL_acts_451 : decode cL_acts 451 = .ok (.istore 6, 2) := by decide +kernel
theorem dL_acts_453 : decode cL_acts 453 = .ok (.iload_n 2, 1) := by decide +kernel
theorem dL_acts_454 : decode cL_acts 454 = .ok (.iconst 3, 1) := by decide +kernel
theorem dL_acts_455 : decode cL_acts 455 = .ok (.invokestatic 38, 3) := by decide +kernel
theorem dL_acts_458 : decode cL_acts 458 = .ok (.ifCond .le 7, 3) := by decide +kernel
theorem dL_acts_461 : decode cL_acts 461 = .ok (.iconst 0, 1) := by decide +kernel
theorem dL_acts_462 : decode cL_acts 462 = .ok (.goto 7, 3) := by decide +kernel
theorem dL_acts_465 : decode cL_acts 465 = .ok (.aload_n 0, 1) := by decide +kernel
theorem dL_acts_466 : decode cL_acts 466 = .ok (.invokevirtual 89, 3) := by decide +kernel
theorem dL_acts_469 : decode cL_acts 469 = .ok (.istore 7, 2) := by decide +kernel
theorem dL_acts_471 : decode cL_acts 471 = .ok (.iload 7, 2) := by decide +kernel
theorem dL_acts_473 : decode cL_acts 473 = .ok (.ifCond .lt 37, 3) := by decide +kernel
theorem dL_acts_476 : decode cL_acts 476 = .ok (.iload 7, 2) := by decide +kernel
theorem dL_acts_478 : decode cL_acts 478 = .ok (.iload 6, 2) := by decide +kernel
theorem dL_acts_480 : decode cL_acts 480 = .ok (.if_icmp .gt 30, 3) := by decide +kernel
theorem dL_acts_483 : decode cL_acts 483 = .ok (.aload_n 0, 1) := by decide +kernel
theorem dL_acts_484 : decode cL_acts 484 = .ok (.iconst 0, 1) := by decide +kernel
theorem dL_acts_485 : decode cL_acts 485 = .ok (.invokevirtual 13, 3) := by decide +kernel
theorem dL_acts_488 : decode cL_acts 488 = .ok (.iload 4, 2) := by decide +kernel
theorem dL_acts_490 : decode cL_acts 490 = .ok (.iload 7, 2) := by decide +kernel
theorem dL_acts_492 : decode cL_acts 492 = .ok (.isub, 1) := by decide +kernel
theorem dL_acts_493 : decode cL_acts 493 = .ok (.if_icmp .ne 17, 3) := by decide +kernel
theorem dL_acts_496 : decode cL_acts 496 = .ok (.aload_n 0, 1) := by decide +kernel
theorem dL_acts_497 : decode cL_acts 497 = .ok (.iconst 1, 1) := by decide +kernel
theorem dL_acts_498 : decode cL_acts 498 = .ok (.invokevirtual 13, 3) := by decide +kernel
theorem dL_acts_501 : decode cL_acts 501 = .ok (.iload 5, 2) := by decide +kernel
theorem dL_acts_503 : decode cL_acts 503 = .ok (.if_icmp .ne 7, 3) := by decide +kernel
theorem dL_acts_506 : decode cL_acts 506 = .ok (.iconst 1, 1) := by decide +kernel
theorem dL_acts_507 : decode cL_acts 507 = .ok (.goto 4, 3) := by decide +kernel
theorem dL_acts_510 : decode cL_acts 510 = .ok (.iconst 0, 1) := by decide +kernel
theorem dL_acts_511 : decode cL_acts 511 = .ok (.ireturn, 1) := by decide +kernel
theorem dL_acts_512 : decode cL_acts 512 = .ok (.iload_n 3, 1) := by decide +kernel
theorem dL_acts_513 : decode cL_acts 513 = .ok (.bipush 16, 2) := by decide +kernel
theorem dL_acts_515 : decode cL_acts 515 = .ok (.if_icmp .ge 89, 3) := by decide +kernel
theorem dL_acts_518 : decode cL_acts 518 = .ok (.iload_n 2, 1) := by decide +kernel
theorem dL_acts_519 : decode cL_acts 519 = .ok (.sipush 10002, 3) := by decide +kernel
theorem dL_acts_522 : decode cL_acts 522 = .ok (.invokestatic 38, 3) := by decide +kernel
theorem dL_acts_525 : decode cL_acts 525 = .ok (.iconst 1, 1) := by decide +kernel
theorem dL_acts_526 : decode cL_acts 526 = .ok (.isub, 1) := by decide +kernel
theorem dL_acts_527 : decode cL_acts 527 = .ok (.istore 5, 2) := by decide +kernel
theorem dL_acts_529 : decode cL_acts 529 = .ok (.iload 5, 2) := by decide +kernel
theorem dL_acts_531 : decode cL_acts 531 = .ok (.ifCond .lt 11, 3) := by decide +kernel
theorem dL_acts_534 : decode cL_acts 534 = .ok (.iload 5, 2) := by decide +kernel
theorem dL_acts_536 : decode cL_acts 536 = .ok (.sipush 10000, 3) := by decide +kernel
theorem dL_acts_539 : decode cL_acts 539 = .ok (.if_icmp .ne 7, 3) := by decide +kernel
theorem dL_acts_542 : decode cL_acts 542 = .ok (.iconst 1, 1) := by decide +kernel
theorem dL_acts_543 : decode cL_acts 543 = .ok (.goto 4, 3) := by decide +kernel
theorem dL_acts_546 : decode cL_acts 546 = .ok (.iconst 0, 1) := by decide +kernel
theorem dL_acts_547 : decode cL_acts 547 = .ok (.istore 6, 2) := by decide +kernel
theorem dL_acts_549 : decode cL_acts 549 = .ok (.aload_n 0, 1) := by decide +kernel
theorem dL_acts_550 : decode cL_acts 550 = .ok (.bipush 17, 2) := by decide +kernel
theorem dL_acts_552 : decode cL_acts 552 = .ok (.invokevirtual 13, 3) := by decide +kernel
theorem dL_acts_555 : decode cL_acts 555 = .ok (.istore 7, 2) := by decide +kernel
theorem dL_acts_557 : decode cL_acts 557 = .ok (.aload_n 0, 1) := by decide +kernel
theorem dL_acts_558 : decode cL_acts 558 = .ok (.iload 5, 2) := by decide +kernel
