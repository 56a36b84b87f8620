theorem dL_isSound_327 : decode cL_isSound 327 = .ok (.ifCond .eq 54, 3) := by decide +kernel
theorem dL_isSound_330 : decode cL_isSound 330 = .ok (.iload 6, 2) := by decide +kernel
theorem dL_isSound_332 : decode cL_isSound 332 = .ok (.aload_n 0, 1) := by decide +kernel
theorem dL_isSound_333 : decode cL_isSound 333 = .ok (.bipush 7, 2) := by decide +kernel
theorem dL_isSound_335 : decode cL_isSound 335 = .ok (.invokevirtual 12, 3) := by decide +kernel
theorem dL_isSound_338 : decode cL_isSound 338 = .ok (.if_icmp .ge 41, 3) := by decide +kernel
theorem dL_isSound_341 : decode cL_isSound 341 = .ok (.iload 7, 2) := by decide +kernel
theorem dL_isSound_343 : decode cL_isSound 343 = .ok (.aload_n 0, 1) := by decide +kernel
theorem dL_isSound_344 : decode cL_isSound 344 = .ok (.bipush 6, 2) := by decide +kernel
theorem dL_isSound_346 : decode cL_isSound 346 = .ok (.invokevirtual 12, 3) := by decide +kernel
theorem dL_isSound_349 : decode cL_isSound 349 = .ok (.irem, 1) := by decide +kernel
theorem dL_isSound_350 : decode cL_isSound 350 = .ok (.iload 5, 2) := by decide +kernel
theorem dL_isSound_352 : decode cL_isSound 352 = .ok (.if_icmp .ne 27, 3) := by decide +kernel
theorem dL_isSound_355 : decode cL_isSound 355 = .ok (.aload_n 0, 1) := by decide +kernel
theorem dL_isSound_356 : decode cL_isSound 356 = .ok (.iload 7, 2) := by decide +kernel
theorem dL_isSound_358 : decode cL_isSound 358 = .ok (.iconst 3, 1) := by decide +kernel
theorem dL_isSound_359 : decode cL_isSound 359 = .ok (.invokevirtual 18, 3) := by decide +kernel
theorem dL_isSound_362 : decode cL_isSound 362 = .ok (.iload 6, 2) := by decide +kernel
theorem dL_isSound_364 : decode cL_isSound 364 = .ok (.if_icmp .ne 15, 3) := by decide +kernel
theorem dL_isSound_367 : decode cL_isSound 367 = .ok (.aload_n 0, 1) := by decide +kernel
theorem dL_isSound_368 : decode cL_isSound 368 = .ok (.iload 7, 2) := by decide +kernel
theorem dL_isSound_370 : decode cL_isSound 370 = .ok (.iconst 4, 1) := by decide +kernel
theorem dL_isSound_371 : decode cL_isSound 371 = .ok (.invokevirtual 18, 3) := by decide +kernel
theorem dL_isSound_374 : decode cL_isSound 374 = .ok (.ldc 37, 2) := by decide +kernel
theorem dL_isSound_376 : decode cL_isSound 376 = .ok (.if_icmp .eq 5, 3) := by decide +kernel
theorem dL_isSound_379 : decode cL_isSound 379 = .ok (.iconst 0, 1) := by decide +kernel
theorem dL_isSound_380 : decode cL_isSound 380 = .ok (.ireturn, 1) := by decide +kernel
theorem dL_isSound_381 : decode cL_isSound 381 = .ok (.iinc 6 1, 3) := by decide +kernel
theorem dL_isSound_384 : decode cL_isSound 384 = .ok (.goto (-102), 3) := by decide +kernel
theorem dL_isSound_387 : decode cL_isSound 387 = .ok (.iinc 5 1, 3) := by decide +kernel
theorem dL_isSound_390 : decode cL_isSound 390 = .ok (.goto (-122), 3) := by decide +kernel
theorem dL_isSound_393 : decode cL_isSound 393 = .ok (.iconst 0, 1) := by decide +kernel
theorem dL_isSound_394 : decode cL_isSound 394 = .ok (.istore 5, 2) := by decide +kernel
theorem dL_isSound_396 : decode cL_isSound 396 = .ok (.iload 5, 2) := by decide +kernel
theorem dL_isSound_398 : decode cL_isSound 398 = .ok (.bipush 8, 2) := by decide +kernel
theorem dL_isSound_400 : decode cL_isSound 400 = .ok (.if_icmp .ge 76, 3) := by decide +kernel
theorem dL_isSound_403 : decode cL_isSound 403 = .ok (.aload_n 0, 1) := by decide +kernel
theorem dL_isSound_404 : decode cL_isSound 404 = .ok (.iload 5, 2) := by decide +kernel
theorem dL_isSound_406 : decode cL_isSound 406 = .ok (.invokevirtual 38, 3) := by decide +kernel
theorem dL_isSound_409 : decode cL_isSound 409 = .ok (.istore 6, 2) := by decide +kernel
theorem dL_isSound_411 : decode cL_isSound 411 = .ok (.iload 6, 2) := by decide +kernel
theorem dL_isSound_413 : decode cL_isSound 413 = .ok (.ifCond .lt 7, 3) := by decide +kernel
theorem dL_isSound_416 : decode cL_isSound 416 = .ok (.iconst 1, 1) := by decide +kernel
theorem dL_isSound_417 : decode cL_isSound 417 = .ok (.goto 4, 3) := by decide +kernel
theorem dL_isSound_420 : decode cL_isSound 420 = .ok (.iconst 0, 1) := by decide +kernel
theorem dL_isSound_421 : decode cL_isSound 421 = .ok (.iload 5, 2) := by decide +kernel
theorem dL_isSound_423 : decode cL_isSound 423 = .ok (.aload_n 0, 1) := by decide +kernel
theorem dL_isSound_424 : decode cL_isSound 424 = .ok (.bipush 13, 2) := by decide +kernel
theorem dL_isSound_426 : decode cL_isSound 426 = .ok (.invokevirtual 12, 3) := by decide +kernel
theorem dL_isSound_429 : decode cL_isSound 429 = .ok (.if_icmp .ge 7, 3) := by decide +kernel
theorem dL_isSound_432 : decode cL_isSound 432 = .ok (.iconst 1, 1) := by decide +kernel
theorem dL_isSound_433 : decode cL_isSound 433 = .ok (.goto 4, 3) := by decide +kernel
theorem dL_isSound_436 : decode cL_isSound 436 = .ok (.iconst 0, 1) := by decide +kernel
theorem dL_isSound_437 : decode cL_isSound 437 = .ok (.if_icmp .ne 31, 3) := by decide +kernel
theorem dL_isSound_440 : decode cL_isSound 440 = .ok (.iload 6, 2) := by decide +kernel
theorem dL_isSound_442 : decode cL_isSound 442 = .ok (.ifCond .lt 28, 3) := by decide +kernel
theorem dL_isSound_445 : decode cL_isSound 445 = .ok (.aload_n 0, 1) := by decide +kernel
theorem dL_isSound_446 : decode cL_isSound 446 = .ok (.iload 6, 2) := by decide +kernel
theorem dL_isSound_448 : decode cL_isSound 448 = .ok (.iconst 4, 1) := by decide +kernel
theorem dL_isSound_449 : decode cL_isSound 449 = .ok (.invokevirtual 18, 3) := by decide +kernel
theorem dL_isSound_452 : decode cL_isSound 452 = .ok (.iload 5, 2) := by decide +kernel
theorem dL_isSound_454 : decode cL_isSound 454 = .ok (.if_icmp .ne 14, 3) := by decide +kernel
theorem dL_isSound_457 : decode cL_isSound 457 = .ok (.aload_n 0, 1) := by decide +kernel
theorem dL_isSound_458 : decode cL_isSound 458 = .ok (.iload 6, 2) := by decide +kernel
theorem dL_isSound_460 : decode cL_isSound 460 = .ok (.iconst 0, 1) := by decide +kernel
theorem dL_isSound_461 : decode cL_isSound 461 = .ok (.invokevirtual 18, 3) := by decide +kernel
theorem dL_isSound_464 : decode cL_isSound 464 = .ok (.iconst 1, 1) := by decide +kernel
theorem dL_isSound_465 : decode cL_isSound 465 = .ok (.if_icmp .ne 5, 3) := by decide +kernel
theorem dL_isSound_468 : decode cL_isSound 468 = .ok (.iconst 0, 1) := by decide +kernel
theorem dL_isSound_469 : decode cL_isSound 469 = .ok (.ireturn, 1) := by decide +kernel
theorem dL_isSound_470 : decode cL_isSound 470 = .ok (.iinc 5 1, 3) := by decide +kernel
theorem dL_isSound_473 : decode cL_isSound 473 = .ok (.goto (-77), 3) := by decide +kernel
theorem dL_isSound_476 : decode cL_isSound 476 = .ok (.aload_n 0, 1) := by decide +kernel
theorem dL_isSound_477 : decode cL_isSound 477 = .ok (.iconst 3, 1) := by decide +kernel
theorem dL_isSound_478 : decode cL_isSound 478 = .ok (.invokevirtual 12, 3) := by decide +kernel
theorem dL_isSound_481 : decode cL_isSound 481 = .ok (.aload_n 0, 1) := by decide +kernel
theorem dL_isSound_482 : decode cL_isSound 482 = .ok (.iconst 4, 1) := by decide +kernel
theorem dL_isSound_483 : decode cL_isSound 483 = .ok (.invokevirtual 12, 3) := by decide +kernel
theorem dL_isSound_486 : decode cL_isSound 486 = .ok (.iadd, 1) := by decide +kernel
theorem dL_isSound_487 : decode cL_isSound 487 = .ok (.aload_n 0, 1) := by decide +kernel
theorem dL_isSound_488 : decode cL_isSound 488 = .ok (.bipush 8, 2) := by decide +kernel
theorem dL_isSound_490 : decode cL_isSound 490 = .ok (.invokevirtual 12, 3) := by decide +kernel
theorem dL_isSound_493 : decode cL_isSound 493 = .ok (.aload_n 0, 1) := by decide +kernel
theorem dL_isSound_494 : decode cL_isSound 494 = .ok (.iconst 5, 1) := by decide +kernel
theorem dL_isSound_495 : decode cL_isSound 495 = .ok (.invokevirtual 12, 3) := by decide +kernel
theorem dL_isSound_498 : decode cL_isSound 498 = .ok (.iadd, 1) := by decide +kernel
theorem dL_isSound_499 : decode cL_isSound 499 = .ok (.if_icmp .ne 7, 3) := by decide +kernel
theorem dL_isSound_502 : decode cL_isSound 502 = .ok (.iconst 1, 1) := by decide +kernel
theorem dL_isSound_503 : decode cL_isSound 503 = .ok (.goto 4, 3) := by decide +kernel
theorem dL_isSound_506 : decode cL_isSound 506 = .ok (.iconst 0, 1) := by decide +kernel
theorem dL_isSound_507 : decode cL_isSound 507 = .ok (.istore 5, 2) := by decide +kernel
theorem dL_isSound_509 : decode cL_isSound 509 = .ok (.iload 5, 2) := by decide +kernel
theorem dL_isSound_511 : decode cL_isSound 511 = .ok (.ifCond .eq 65, 3) := by decide +kernel
theorem dL_isSound_514 : decode cL_isSound 514 = .ok (.aload_n 0, 1) := by decide +kernel
theorem dL_isSound_515 : decode cL_isSound 515 = .ok (.iconst 0, 1) := by decide +kernel
theorem dL_isSound_516 : decode cL_isSound 516 = .ok (.invokevirtual 12, 3) := by decide +kernel
theorem dL_isSound_519 : decode cL_isSound 519 = .ok (.aload_n 0, 1) := by decide +kernel
theorem dL_isSound_520 : decode cL_isSound 520 = .ok (.iconst 1, 1) := by decide +kernel
theorem dL_isSound_521 : decode cL_isSound 521 = .ok (.invokevirtual 12, 3) := by decide +kernel
theorem dL_isSound_524 : decode cL_isSound 524 = .ok (.aload_n 0, 1) := by decide +kernel
theorem dL_isSound_525 : decode cL_isSound 525 = .ok (.iconst 3, 1) := by decide +kernel
theorem dL_isSound_526 : decode cL_isSound 526 = .ok (.invokevirtual 12, 3) := by decide +kernel
theorem dL_isSound_529 : decode cL_isSound 529 = .ok (.iadd, 1) := by decide +kernel
theorem dL_isSound_530 : decode cL_isSound 530 = .ok (.if_icmp .ne 46, 3) := by decide +kernel
theorem dL_isSound_533 : decode cL_isSound 533 = .ok (.aload_n 0, 1) := by decide +kernel
theorem dL_isSound_534 : decode cL_isSound 534 = .ok (.iconst 4, 1) := by decide +kernel
theorem dL_isSound_535 : decode cL_isSound 535 = .ok (.invokevirtual 12, 3) := by decide +kernel
theorem dL_isSound_538 : decode cL_isSound 538 = .ok (.iload_n 1, 1) := by decide +kernel
theorem dL_isSound_539 : decode cL_isSound 539 = .ok (.if_icmp .ne 37, 3) := by decide +kernel
theorem dL_isSound_542 : decode cL_isSound 542 = .ok (.aload_n 0, 1) := by decide +kernel
theorem dL_isSound_543 : decode cL_isSound 543 = .ok (.iconst 2, 1) := by decide +kernel
theorem dL_isSound_544 : decode cL_isSound 544 = .ok (.invokevirtual 12, 3) := by decide +kernel
theorem dL_isSound_547 : decode cL_isSound 547 = .ok (.iload_n 2, 1) := by decide +kernel
theorem dL_isSound_548 : decode cL_isSound 548 = .ok (.if_icmp .ne 28, 3) := by decide +kernel
theorem dL_isSound_551 : decode cL_isSound 551 = .ok (.aload_n 0, 1) := by decide +kernel
theorem dL_isSound_552 : decode cL_isSound 552 = .ok (.bipush 9, 2) := by decide +kernel
theorem dL_isSound_554 : decode cL_isSound 554 = .ok (.invokevirtual 12, 3) := by decide +kernel
theorem dL_isSound_557 : decode cL_isSound 557 = .ok (.iload_n 3, 1) := by decide +kernel
theorem dL_isSound_558 : decode cL_isSound 558 = .ok (.if_icmp .ne 18, 3) := by decide +kernel
theorem dL_isSound_561 : decode cL_isSound 561 = .ok (.aload_n 0, 1) := by decide +kernel
theorem dL_isSound_562 : decode cL_isSound 562 = .ok (.bipush 8, 2) := by decide +kernel
theorem dL_isSound_564 : decode cL_isSound 564 = .ok (.invokevirtual 12, 3) := by decide +kernel
theorem dL_isSound_567 : decode cL_isSound 567 = .ok (.iload 4, 2) := by decide +kernel
theorem dL_isSound_569 : decode cL_isSound 569 = .ok (.if_icmp .ne 7, 3) := by decide +kernel
theorem dL_isSound_572 : decode cL_isSound 572 = .ok (.iconst 1, 1) := by decide +kernel
theorem dL_isSound_573 : decode cL_isSound 573 = .ok (.goto 4, 3) := by decide +kernel
theorem dL_isSound_576 : decode cL_isSound 576 = .ok (.iconst 0, 1) := by decide +kernel
theorem dL_isSound_577 : decode cL_isSound 577 = .ok (.ireturn, 1) := by decide +kernel
theorem dL_acts_0 : decode cL_acts 0 = .ok (.iload_n 1, 1) := by decide +kernel
theorem dL_acts_1 : decode cL_acts 1 = .ok (.iconst 5, 1) := by decide +kernel
theorem dL_acts_2 : decode cL_acts 2 = .ok (.ishr, 1) := by decide +kernel
theorem dL_acts_3 : decode cL_acts 3 = .ok (.iconst 4, 1) := by decide +kernel
theorem dL_acts_4 : decode cL_acts 4 = .ok (.invokestatic 41, 3) := by decide +kernel
theorem dL_acts_7 : decode cL_acts 7 = .ok (.istore_n 2, 1) := by decide +kernel
theorem dL_acts_8 : decode cL_acts 8 = .ok (.iload_n 1, 1) := by decide +kernel
theorem dL_acts_9 : decode cL_acts 9 = .ok (.bipush 8, 2) := by decide +kernel
theorem dL_acts_11 : decode cL_acts 11 = .ok (.ishr, 1) := by decide +kernel
theorem dL_acts_12 : decode cL_acts 12 = .ok (.iconst 3, 1) := by decide +kernel
theorem dL_acts_13 : decode cL_acts 13 = .ok (.invokestatic 41, 3) := by decide +kernel
theorem dL_acts_16 : decode cL_acts 16 = .ok (.istore_n 3, 1) := by decide +kernel
theorem dL_acts_17 : decode cL_acts 17 = .ok (.iload_n 1, 1) := by decide +kernel
theorem dL_acts_18 : decode cL_acts 18 = .ok (.bipush 11, 2) := by decide +kernel
theorem dL_acts_20 : decode cL_acts 20 = .ok (.ishr, 1) := by decide +kernel
theorem dL_acts_21 : decode cL_acts 21 = .ok (.iload_n 1, 1) := by decide +kernel
theorem dL_acts_22 : decode cL_acts 22 = .ok (.bipush 27, 2) := by decide +kernel
theorem dL_acts_24 : decode cL_acts 24 = .ok (.ishr, 1) := by decide +kernel
theorem dL_acts_25 : decode cL_acts 25 = .ok (.iconst 1, 1) := by decide +kernel
theorem dL_acts_26 : decode cL_acts 26 = .ok (.iand, 1) := by decide +kernel
theorem dL_acts_27 : decode cL_acts 27 = .ok (.ifCond .ne 8, 3) := by decide +kernel
theorem dL_acts_30 : decode cL_acts 30 = .ok (.bipush 40, 2) := by decide +kernel
theorem dL_acts_32 : decode cL_acts 32 = .ok (.goto 5, 3) := by decide +kernel
theorem dL_acts_35 : decode cL_acts 35 = .ok (.bipush 12, 2) := by decide +kernel
theorem dL_acts_37 : decode cL_acts 37 = .ok (.invokestatic 41, 3) := by decide +kernel
theorem dL_acts_40 : decode cL_acts 40 = .ok (.istore 4, 2) := by decide +kernel
theorem dL_acts_42 : decode cL_acts 42 = .ok (.iload_n 1, 1) := by decide +kernel
theorem dL_acts_43 : decode cL_acts 43 = .ok (.bipush 16, 2) := by decide +kernel
theorem dL_acts_45 : decode cL_acts 45 = .ok (.invokestatic 41, 3) := by decide +kernel
theorem dL_acts_48 : decode cL_acts 48 = .ok (.tableswitch 191 0 9 #[56, 81, 86, 119, 134, 149, 155, 161, 161, 161], 56) := by decide +kernel
theorem dL_acts_104 : decode cL_acts 104 = .ok (.aload_n 0, 1) := by decide +kernel
theorem dL_acts_105 : decode cL_acts 105 = .ok (.iconst 1, 1) := by decide +kernel
