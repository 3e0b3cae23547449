theorem dX13_ask1_328 : decode cX13_ask1 328 = .ok (.iaload, 1) := by decide +kernel
theorem dX13_ask1_329 : decode cX13_ask1 329 = .ok (.if_icmp .ne 30, 3) := by decide +kernel
theorem dX13_ask1_332 : decode cX13_ask1 332 = .ok (.aload_n 0, 1) := by decide +kernel
theorem dX13_ask1_333 : decode cX13_ask1 333 = .ok (.getfield 169, 3) := by decide +kernel
theorem dX13_ask1_336 : decode cX13_ask1 336 = .ok (.bipush 16, 2) := by decide +kernel
theorem dX13_ask1_338 : decode cX13_ask1 338 = .ok (.iload 7, 2) := by decide +kernel
theorem dX13_ask1_340 : decode cX13_ask1 340 = .ok (.imul, 1) := by decide +kernel
theorem dX13_ask1_341 : decode cX13_ask1 341 = .ok (.aload_n 0, 1) := by decide +kernel
theorem dX13_ask1_342 : decode cX13_ask1 342 = .ok (.getfield 66, 3) := by decide +kernel
theorem dX13_ask1_345 : decode cX13_ask1 345 = .ok (.bipush 16, 2) := by decide +kernel
theorem dX13_ask1_347 : decode cX13_ask1 347 = .ok (.iload_n 1, 1) := by decide +kernel
theorem dX13_ask1_348 : decode cX13_ask1 348 = .ok (.imul, 1) := by decide +kernel
theorem dX13_ask1_349 : decode cX13_ask1 349 = .ok (.invokestatic 257, 3) := by decide +kernel
theorem dX13_ask1_352 : decode cX13_ask1 352 = .ok (.ifCond .eq 7, 3) := by decide +kernel
theorem dX13_ask1_355 : decode cX13_ask1 355 = .ok (.iconst 1, 1) := by decide +kernel
theorem dX13_ask1_356 : decode cX13_ask1 356 = .ok (.goto 4, 3) := by decide +kernel
theorem dX13_ask1_359 : decode cX13_ask1 359 = .ok (.iconst 0, 1) := by decide +kernel
theorem dX13_ask1_360 : decode cX13_ask1 360 = .ok (.istore 6, 2) := by decide +kernel
theorem dX13_ask1_362 : decode cX13_ask1 362 = .ok (.iinc 7 1, 3) := by decide +kernel
theorem dX13_ask1_365 : decode cX13_ask1 365 = .ok (.goto (-65), 3) := by decide +kernel
theorem dX13_ask1_368 : decode cX13_ask1 368 = .ok (.iload 4, 2) := by decide +kernel
theorem dX13_ask1_370 : decode cX13_ask1 370 = .ok (.ifCond .ne 8, 3) := by decide +kernel
theorem dX13_ask1_373 : decode cX13_ask1 373 = .ok (.iload 6, 2) := by decide +kernel
theorem dX13_ask1_375 : decode cX13_ask1 375 = .ok (.ifCond .ne 7, 3) := by decide +kernel
theorem dX13_ask1_378 : decode cX13_ask1 378 = .ok (.iconst 1, 1) := by decide +kernel
theorem dX13_ask1_379 : decode cX13_ask1 379 = .ok (.goto 4, 3) := by decide +kernel
theorem dX13_ask1_382 : decode cX13_ask1 382 = .ok (.iconst 0, 1) := by decide +kernel
theorem dX13_ask1_383 : decode cX13_ask1 383 = .ok (.istore 4, 2) := by decide +kernel
theorem dX13_ask1_385 : decode cX13_ask1 385 = .ok (.iinc 5 1, 3) := by decide +kernel
theorem dX13_ask1_388 : decode cX13_ask1 388 = .ok (.goto (-135), 3) := by decide +kernel
theorem dX13_ask1_391 : decode cX13_ask1 391 = .ok (.iconst 4, 1) := by decide +kernel
theorem dX13_ask1_392 : decode cX13_ask1 392 = .ok (.iload_n 1, 1) := by decide +kernel
theorem dX13_ask1_393 : decode cX13_ask1 393 = .ok (.imul, 1) := by decide +kernel
theorem dX13_ask1_394 : decode cX13_ask1 394 = .ok (.istore 5, 2) := by decide +kernel
theorem dX13_ask1_396 : decode cX13_ask1 396 = .ok (.iload 5, 2) := by decide +kernel
theorem dX13_ask1_398 : decode cX13_ask1 398 = .ok (.iconst 4, 1) := by decide +kernel
theorem dX13_ask1_399 : decode cX13_ask1 399 = .ok (.iload_n 1, 1) := by decide +kernel
theorem dX13_ask1_400 : decode cX13_ask1 400 = .ok (.imul, 1) := by decide +kernel
theorem dX13_ask1_401 : decode cX13_ask1 401 = .ok (.aload_n 0, 1) := by decide +kernel
theorem dX13_ask1_402 : decode cX13_ask1 402 = .ok (.getfield 96, 3) := by decide +kernel
theorem dX13_ask1_405 : decode cX13_ask1 405 = .ok (.iload_n 1, 1) := by decide +kernel
theorem dX13_ask1_406 : decode cX13_ask1 406 = .ok (.iaload, 1) := by decide +kernel
theorem dX13_ask1_407 : decode cX13_ask1 407 = .ok (.iadd, 1) := by decide +kernel
theorem dX13_ask1_408 : decode cX13_ask1 408 = .ok (.if_icmp .ge 34, 3) := by decide +kernel
theorem dX13_ask1_411 : decode cX13_ask1 411 = .ok (.aload_n 0, 1) := by decide +kernel
theorem dX13_ask1_412 : decode cX13_ask1 412 = .ok (.getfield 90, 3) := by decide +kernel
theorem dX13_ask1_415 : decode cX13_ask1 415 = .ok (.bipush 16, 2) := by decide +kernel
theorem dX13_ask1_417 : decode cX13_ask1 417 = .ok (.iload 5, 2) := by decide +kernel
theorem dX13_ask1_419 : decode cX13_ask1 419 = .ok (.imul, 1) := by decide +kernel
theorem dX13_ask1_420 : decode cX13_ask1 420 = .ok (.aload_n 0, 1) := by decide +kernel
theorem dX13_ask1_421 : decode cX13_ask1 421 = .ok (.getfield 166, 3) := by decide +kernel
theorem dX13_ask1_424 : decode cX13_ask1 424 = .ok (.sipush 240, 3) := by decide +kernel
theorem dX13_ask1_427 : decode cX13_ask1 427 = .ok (.invokestatic 257, 3) := by decide +kernel
theorem dX13_ask1_430 : decode cX13_ask1 430 = .ok (.ifCond .eq 6, 3) := by decide +kernel
theorem dX13_ask1_433 : decode cX13_ask1 433 = .ok (.iconst 0, 1) := by decide +kernel
theorem dX13_ask1_434 : decode cX13_ask1 434 = .ok (.istore 4, 2) := by decide +kernel
theorem dX13_ask1_436 : decode cX13_ask1 436 = .ok (.iinc 5 1, 3) := by decide +kernel
theorem dX13_ask1_439 : decode cX13_ask1 439 = .ok (.goto (-43), 3) := by decide +kernel
theorem dX13_ask1_442 : decode cX13_ask1 442 = .ok (.iload 4, 2) := by decide +kernel
theorem dX13_ask1_444 : decode cX13_ask1 444 = .ok (.ifCond .eq 13, 3) := by decide +kernel
theorem dX13_ask1_447 : decode cX13_ask1 447 = .ok (.aload_n 0, 1) := by decide +kernel
theorem dX13_ask1_448 : decode cX13_ask1 448 = .ok (.getfield 96, 3) := by decide +kernel
theorem dX13_ask1_451 : decode cX13_ask1 451 = .ok (.iload_n 1, 1) := by decide +kernel
theorem dX13_ask1_452 : decode cX13_ask1 452 = .ok (.iaload, 1) := by decide +kernel
theorem dX13_ask1_453 : decode cX13_ask1 453 = .ok (.iconst 4, 1) := by decide +kernel
theorem dX13_ask1_454 : decode cX13_ask1 454 = .ok (.if_icmp .ne 4, 3) := by decide +kernel
theorem dX13_ask1_457 : decode cX13_ask1 457 = .ok (.return_, 1) := by decide +kernel
theorem dX13_ask1_458 : decode cX13_ask1 458 = .ok (.iconst 4, 1) := by decide +kernel
theorem dX13_ask1_459 : decode cX13_ask1 459 = .ok (.iload_n 1, 1) := by decide +kernel
theorem dX13_ask1_460 : decode cX13_ask1 460 = .ok (.imul, 1) := by decide +kernel
theorem dX13_ask1_461 : decode cX13_ask1 461 = .ok (.aload_n 0, 1) := by decide +kernel
theorem dX13_ask1_462 : decode cX13_ask1 462 = .ok (.getfield 96, 3) := by decide +kernel
theorem dX13_ask1_465 : decode cX13_ask1 465 = .ok (.iload_n 1, 1) := by decide +kernel
theorem dX13_ask1_466 : decode cX13_ask1 466 = .ok (.iaload, 1) := by decide +kernel
theorem dX13_ask1_467 : decode cX13_ask1 467 = .ok (.iadd, 1) := by decide +kernel
theorem dX13_ask1_468 : decode cX13_ask1 468 = .ok (.istore 5, 2) := by decide +kernel
theorem dX13_ask1_470 : decode cX13_ask1 470 = .ok (.aload_n 0, 1) := by decide +kernel
theorem dX13_ask1_471 : decode cX13_ask1 471 = .ok (.getfield 166, 3) := by decide +kernel
theorem dX13_ask1_474 : decode cX13_ask1 474 = .ok (.sipush 240, 3) := by decide +kernel
theorem dX13_ask1_477 : decode cX13_ask1 477 = .ok (.aload_n 0, 1) := by decide +kernel
theorem dX13_ask1_478 : decode cX13_ask1 478 = .ok (.getfield 90, 3) := by decide +kernel
theorem dX13_ask1_481 : decode cX13_ask1 481 = .ok (.bipush 16, 2) := by decide +kernel
theorem dX13_ask1_483 : decode cX13_ask1 483 = .ok (.iload 5, 2) := by decide +kernel
theorem dX13_ask1_485 : decode cX13_ask1 485 = .ok (.imul, 1) := by decide +kernel
theorem dX13_ask1_486 : decode cX13_ask1 486 = .ok (.invokestatic 213, 3) := by decide +kernel
theorem dX13_ask1_489 : decode cX13_ask1 489 = .ok (.aload_n 0, 1) := by decide +kernel
theorem dX13_ask1_490 : decode cX13_ask1 490 = .ok (.getfield 93, 3) := by decide +kernel
theorem dX13_ask1_493 : decode cX13_ask1 493 = .ok (.iload 5, 2) := by decide +kernel
theorem dX13_ask1_495 : decode cX13_ask1 495 = .ok (.aload_n 0, 1) := by decide +kernel
theorem dX13_ask1_496 : decode cX13_ask1 496 = .ok (.getfield 226, 3) := by decide +kernel
theorem dX13_ask1_499 : decode cX13_ask1 499 = .ok (.ldc2_w 376, 3) := by decide +kernel
theorem dX13_ask1_502 : decode cX13_ask1 502 = .ok (.ladd, 1) := by decide +kernel
theorem dX13_ask1_503 : decode cX13_ask1 503 = .ok (.ldc2_w 378, 3) := by decide +kernel
theorem dX13_ask1_506 : decode cX13_ask1 506 = .ok (.aload_n 0, 1) := by decide +kernel
theorem dX13_ask1_507 : decode cX13_ask1 507 = .ok (.getfield 17, 3) := by decide +kernel
theorem dX13_ask1_510 : decode cX13_ask1 510 = .ok (.iload_n 1, 1) := by decide +kernel
theorem dX13_ask1_511 : decode cX13_ask1 511 = .ok (.iaload, 1) := by decide +kernel
theorem dX13_ask1_512 : decode cX13_ask1 512 = .ok (.i2l, 1) := by decide +kernel
theorem dX13_ask1_513 : decode cX13_ask1 513 = .ok (.lmul, 1) := by decide +kernel
theorem dX13_ask1_514 : decode cX13_ask1 514 = .ok (.ldc2_w 297, 3) := by decide +kernel
theorem dX13_ask1_517 : decode cX13_ask1 517 = .ok (.lrem, 1) := by decide +kernel
theorem dX13_ask1_518 : decode cX13_ask1 518 = .ok (.ladd, 1) := by decide +kernel
theorem dX13_ask1_519 : decode cX13_ask1 519 = .ok (.lastore, 1) := by decide +kernel
theorem dX13_ask1_520 : decode cX13_ask1 520 = .ok (.aload_n 0, 1) := by decide +kernel
theorem dX13_ask1_521 : decode cX13_ask1 521 = .ok (.getfield 96, 3) := by decide +kernel
theorem dX13_ask1_524 : decode cX13_ask1 524 = .ok (.iload_n 1, 1) := by decide +kernel
theorem dX13_ask1_525 : decode cX13_ask1 525 = .ok (.dup2, 1) := by decide +kernel
theorem dX13_ask1_526 : decode cX13_ask1 526 = .ok (.iaload, 1) := by decide +kernel
theorem dX13_ask1_527 : decode cX13_ask1 527 = .ok (.iconst 1, 1) := by decide +kernel
theorem dX13_ask1_528 : decode cX13_ask1 528 = .ok (.iadd, 1) := by decide +kernel
theorem dX13_ask1_529 : decode cX13_ask1 529 = .ok (.iastore, 1) := by decide +kernel
theorem dX13_ask1_530 : decode cX13_ask1 530 = .ok (.return_, 1) := by decide +kernel
theorem dX13_dies_0 : decode cX13_dies 0 = .ok (.aload_n 0, 1) := by decide +kernel
theorem dX13_dies_1 : decode cX13_dies 1 = .ok (.getfield 117, 3) := by decide +kernel
theorem dX13_dies_4 : decode cX13_dies 4 = .ok (.iload_n 1, 1) := by decide +kernel
theorem dX13_dies_5 : decode cX13_dies 5 = .ok (.iconst 1, 1) := by decide +kernel
theorem dX13_dies_6 : decode cX13_dies 6 = .ok (.bastore, 1) := by decide +kernel
theorem dX13_dies_7 : decode cX13_dies 7 = .ok (.aload_n 0, 1) := by decide +kernel
theorem dX13_dies_8 : decode cX13_dies 8 = .ok (.getfield 114, 3) := by decide +kernel
theorem dX13_dies_11 : decode cX13_dies 11 = .ok (.iload_n 1, 1) := by decide +kernel
theorem dX13_dies_12 : decode cX13_dies 12 = .ok (.laload, 1) := by decide +kernel
theorem dX13_dies_13 : decode cX13_dies 13 = .ok (.aload_n 0, 1) := by decide +kernel
theorem dX13_dies_14 : decode cX13_dies 14 = .ok (.getfield 226, 3) := by decide +kernel
theorem dX13_dies_17 : decode cX13_dies 17 = .ok (.ldc2_w 285, 3) := by decide +kernel
theorem dX13_dies_20 : decode cX13_dies 20 = .ok (.ladd, 1) := by decide +kernel
theorem dX13_dies_21 : decode cX13_dies 21 = .ok (.lcmp, 1) := by decide +kernel
theorem dX13_dies_22 : decode cX13_dies 22 = .ok (.ifCond .le 17, 3) := by decide +kernel
theorem dX13_dies_25 : decode cX13_dies 25 = .ok (.aload_n 0, 1) := by decide +kernel
theorem dX13_dies_26 : decode cX13_dies 26 = .ok (.getfield 114, 3) := by decide +kernel
theorem dX13_dies_29 : decode cX13_dies 29 = .ok (.iload_n 1, 1) := by decide +kernel
theorem dX13_dies_30 : decode cX13_dies 30 = .ok (.aload_n 0, 1) := by decide +kernel
theorem dX13_dies_31 : decode cX13_dies 31 = .ok (.getfield 226, 3) := by decide +kernel
theorem dX13_dies_34 : decode cX13_dies 34 = .ok (.ldc2_w 285, 3) := by decide +kernel
theorem dX13_dies_37 : decode cX13_dies 37 = .ok (.ladd, 1) := by decide +kernel
theorem dX13_dies_38 : decode cX13_dies 38 = .ok (.lastore, 1) := by decide +kernel
theorem dX13_dies_39 : decode cX13_dies 39 = .ok (.return_, 1) := by decide +kernel
theorem dX13_record_0 : decode cX13_record 0 = .ok (.aload_n 0, 1) := by decide +kernel
theorem dX13_record_1 : decode cX13_record 1 = .ok (.getfield 172, 3) := by decide +kernel
theorem dX13_record_4 : decode cX13_record 4 = .ok (.iload_n 2, 1) := by decide +kernel
theorem dX13_record_5 : decode cX13_record 5 = .ok (.iaload, 1) := by decide +kernel
theorem dX13_record_6 : decode cX13_record 6 = .ok (.istore_n 3, 1) := by decide +kernel
theorem dX13_record_7 : decode cX13_record 7 = .ok (.aload_n 0, 1) := by decide +kernel
theorem dX13_record_8 : decode cX13_record 8 = .ok (.getfield 178, 3) := by decide +kernel
theorem dX13_record_11 : decode cX13_record 11 = .ok (.iload_n 2, 1) := by decide +kernel
theorem dX13_record_12 : decode cX13_record 12 = .ok (.iaload, 1) := by decide +kernel
theorem dX13_record_13 : decode cX13_record 13 = .ok (.istore 4, 2) := by decide +kernel
theorem dX13_record_15 : decode cX13_record 15 = .ok (.iload_n 3, 1) := by decide +kernel
theorem dX13_record_16 : decode cX13_record 16 = .ok (.iconst 1, 1) := by decide +kernel
theorem dX13_record_17 : decode cX13_record 17 = .ok (.if_icmp .ne 87, 3) := by decide +kernel
theorem dX13_record_20 : decode cX13_record 20 = .ok (.iload 4, 2) := by decide +kernel
theorem dX13_record_22 : decode cX13_record 22 = .ok (.ifCond .le 82, 3) := by decide +kernel
theorem dX13_record_25 : decode cX13_record 25 = .ok (.aload_n 0, 1) := by decide +kernel
theorem dX13_record_26 : decode cX13_record 26 = .ok (.getfield 51, 3) := by decide +kernel
theorem dX13_record_29 : decode cX13_record 29 = .ok (.iload_n 1, 1) := by decide +kernel
theorem dX13_record_30 : decode cX13_record 30 = .ok (.iaload, 1) := by decide +kernel
theorem dX13_record_31 : decode cX13_record 31 = .ok (.iconst 1, 1) := by decide +kernel
theorem dX13_record_32 : decode cX13_record 32 = .ok (.if_icmp .le 72, 3) := by decide +kernel
theorem dX13_record_35 : decode cX13_record 35 = .ok (.aload_n 0, 1) := by decide +kernel
theorem dX13_record_36 : decode cX13_record 36 = .ok (.getfield 181, 3) := by decide +kernel
theorem dX13_record_39 : decode cX13_record 39 = .ok (.iload_n 2, 1) := by decide +kernel
theorem dX13_record_40 : decode cX13_record 40 = .ok (.iaload, 1) := by decide +kernel
theorem dX13_record_41 : decode cX13_record 41 = .ok (.aload_n 0, 1) := by decide +kernel
theorem dX13_record_42 : decode cX13_record 42 = .ok (.iload_n 1, 1) := by decide +kernel
theorem dX13_record_43 : decode cX13_record 43 = .ok (.invokevirtual 240, 3) := by decide +kernel
theorem dX13_record_46 : decode cX13_record 46 = .ok (.if_icmp .eq 58, 3) := by decide +kernel
theorem dX13_record_49 : decode cX13_record 49 = .ok (.aload_n 0, 1) := by decide +kernel
theorem dX13_record_50 : decode cX13_record 50 = .ok (.getfield 166, 3) := by decide +kernel
theorem dX13_record_53 : decode cX13_record 53 = .ok (.bipush 16, 2) := by decide +kernel
theorem dX13_record_55 : decode cX13_record 55 = .ok (.iload_n 2, 1) := by decide +kernel
theorem dX13_record_56 : decode cX13_record 56 = .ok (.imul, 1) := by decide +kernel
theorem dX13_record_57 : decode cX13_record 57 = .ok (.aload_n 0, 1) := by decide +kernel
theorem dX13_record_58 : decode cX13_record 58 = .ok (.getfield 66, 3) := by decide +kernel
theorem dX13_record_61 : decode cX13_record 61 = .ok (.bipush 16, 2) := by decide +kernel
theorem dX13_record_63 : decode cX13_record 63 = .ok (.iload_n 1, 1) := by decide +kernel
theorem dX13_record_64 : decode cX13_record 64 = .ok (.imul, 1) := by decide +kernel
theorem dX13_record_65 : decode cX13_record 65 = .ok (.invokestatic 257, 3) := by decide +kernel
theorem dX13_record_68 : decode cX13_record 68 = .ok (.ifCond .eq 36, 3) := by decide +kernel
theorem dX13_record_71 : decode cX13_record 71 = .ok (.aload_n 0, 1) := by decide +kernel
theorem dX13_record_72 : decode cX13_record 72 = .ok (.getfield 51, 3) := by decide +kernel
theorem dX13_record_75 : decode cX13_record 75 = .ok (.iload_n 1, 1) := by decide +kernel
theorem dX13_record_76 : decode cX13_record 76 = .ok (.iaload, 1) := by decide +kernel
theorem dX13_record_77 : decode cX13_record 77 = .ok (.iconst 2, 1) := by decide +kernel
theorem dX13_record_78 : decode cX13_record 78 = .ok (.if_icmp .ne 11, 3) := by decide +kernel
theorem dX13_record_81 : decode cX13_record 81 = .ok (.aload_n 0, 1) := by decide +kernel
theorem dX13_record_82 : decode cX13_record 82 = .ok (.iload_n 1, 1) := by decide +kernel
theorem dX13_record_83 : decode cX13_record 83 = .ok (.invokevirtual 380, 3) := by decide +kernel
theorem dX13_record_86 : decode cX13_record 86 = .ok (.goto 18, 3) := by decide +kernel
theorem dX13_record_89 : decode cX13_record 89 = .ok (.aload_n 0, 1) := by decide +kernel
theorem dX13_record_90 : decode cX13_record 90 = .ok (.getfield 26, 3) := by decide +kernel
theorem dX13_record_93 : decode cX13_record 93 = .ok (.iload_n 1, 1) := by decide +kernel
theorem dX13_record_94 : decode cX13_record 94 = .ok (.dup2, 1) := by decide +kernel
theorem dX13_record_95 : decode cX13_record 95 = .ok (.iaload, 1) := by decide +kernel
theorem dX13_record_96 : decode cX13_record 96 = .ok (.iconst 1, 1) := by decide +kernel
theorem dX13_record_97 : decode cX13_record 97 = .ok (.iadd, 1) := by decide +kernel
theorem dX13_record_98 : decode cX13_record 98 = .ok (.iastore, 1) := by decide +kernel
theorem dX13_record_99 : decode cX13_record 99 = .ok (.aload_n 0, 1) := by decide +kernel
theorem dX13_record_100 : decode cX13_record 100 = .ok (.iload_n 1, 1) := by decide +kernel
theorem dX13_record_101 : decode cX13_record 101 = .ok (.invokevirtual 277, 3) := by decide +kernel
theorem dX13_record_104 : decode cX13_record 104 = .ok (.iconst (-1), 1) := by decide +kernel
theorem dX13_record_105 : decode cX13_record 105 = .ok (.istore 5, 2) := by decide +kernel
theorem dX13_record_107 : decode cX13_record 107 = .ok (.bipush 24, 2) := by decide +kernel
theorem dX13_record_109 : decode cX13_record 109 = .ok (.iload_n 1, 1) := by decide +kernel
theorem dX13_record_110 : decode cX13_record 110 = .ok (.imul, 1) := by decide +kernel
theorem dX13_record_111 : decode cX13_record 111 = .ok (.istore 6, 2) := by decide +kernel
theorem dX13_record_113 : decode cX13_record 113 = .ok (.iload 6, 2) := by decide +kernel
theorem dX13_record_115 : decode cX13_record 115 = .ok (.bipush 24, 2) := by decide +kernel
theorem dX13_record_117 : decode cX13_record 117 = .ok (.iload_n 1, 1) := by decide +kernel
theorem dX13_record_118 : decode cX13_record 118 = .ok (.imul, 1) := by decide +kernel
theorem dX13_record_119 : decode cX13_record 119 = .ok (.aload_n 0, 1) := by decide +kernel
theorem dX13_record_120 : decode cX13_record 120 = .ok (.getfield 99, 3) := by decide +kernel
theorem dX13_record_123 : decode cX13_record 123 = .ok (.iload_n 1, 1) := by decide +kernel
theorem dX13_record_124 : decode cX13_record 124 = .ok (.iaload, 1) := by decide +kernel
theorem dX13_record_125 : decode cX13_record 125 = .ok (.iadd, 1) := by decide +kernel
theorem dX13_record_126 : decode cX13_record 126 = .ok (.if_icmp .ge 108, 3) := by decide +kernel
theorem dX13_record_129 : decode cX13_record 129 = .ok (.aload_n 0, 1) := by decide +kernel
theorem dX13_record_130 : decode cX13_record 130 = .ok (.getfield 102, 3) := by decide +kernel
theorem dX13_record_133 : decode cX13_record 133 = .ok (.iload 6, 2) := by decide +kernel
theorem dX13_record_135 : decode cX13_record 135 = .ok (.iaload, 1) := by decide +kernel
theorem dX13_record_136 : decode cX13_record 136 = .ok (.iload_n 3, 1) := by decide +kernel
theorem dX13_record_137 : decode cX13_record 137 = .ok (.if_icmp .ne 74, 3) := by decide +kernel
theorem dX13_record_140 : decode cX13_record 140 = .ok (.aload_n 0, 1) := by decide +kernel
theorem dX13_record_141 : decode cX13_record 141 = .ok (.getfield 105, 3) := by decide +kernel
theorem dX13_record_144 : decode cX13_record 144 = .ok (.iload 6, 2) := by decide +kernel
theorem dX13_record_146 : decode cX13_record 146 = .ok (.iaload, 1) := by decide +kernel
theorem dX13_record_147 : decode cX13_record 147 = .ok (.aload_n 0, 1) := by decide +kernel
theorem dX13_record_148 : decode cX13_record 148 = .ok (.getfield 181, 3) := by decide +kernel
theorem dX13_record_151 : decode cX13_record 151 = .ok (.iload_n 2, 1) := by decide +kernel
theorem dX13_record_152 : decode cX13_record 152 = .ok (.iaload, 1) := by decide +kernel
theorem dX13_record_153 : decode cX13_record 153 = .ok (.if_icmp .ne 58, 3) := by decide +kernel
theorem dX13_record_156 : decode cX13_record 156 = .ok (.aload_n 0, 1) := by decide +kernel
theorem dX13_record_157 : decode cX13_record 157 = .ok (.getfield 123, 3) := by decide +kernel
theorem dX13_record_160 : decode cX13_record 160 = .ok (.bipush 16, 2) := by decide +kernel
theorem dX13_record_162 : decode cX13_record 162 = .ok (.iload 6, 2) := by decide +kernel
theorem dX13_record_164 : decode cX13_record 164 = .ok (.imul, 1) := by decide +kernel
theorem dX13_record_165 : decode cX13_record 165 = .ok (.aload_n 0, 1) := by decide +kernel
theorem dX13_record_166 : decode cX13_record 166 = .ok (.getfield 166, 3) := by decide +kernel
theorem dX13_record_169 : decode cX13_record 169 = .ok (.bipush 16, 2) := by decide +kernel
theorem dX13_record_171 : decode cX13_record 171 = .ok (.iload_n 2, 1) := by decide +kernel
theorem dX13_record_172 : decode cX13_record 172 = .ok (.imul, 1) := by decide +kernel
theorem dX13_record_173 : decode cX13_record 173 = .ok (.invokestatic 257, 3) := by decide +kernel
theorem dX13_record_176 : decode cX13_record 176 = .ok (.ifCond .eq 35, 3) := by decide +kernel
theorem dX13_record_179 : decode cX13_record 179 = .ok (.iload_n 3, 1) := by decide +kernel
theorem dX13_record_180 : decode cX13_record 180 = .ok (.iconst 1, 1) := by decide +kernel
theorem dX13_record_181 : decode cX13_record 181 = .ok (.if_icmp .eq 26, 3) := by decide +kernel
theorem dX13_record_184 : decode cX13_record 184 = .ok (.aload_n 0, 1) := by decide +kernel
theorem dX13_record_185 : decode cX13_record 185 = .ok (.getfield 126, 3) := by decide +kernel
theorem dX13_record_188 : decode cX13_record 188 = .ok (.bipush 16, 2) := by decide +kernel
theorem dX13_record_190 : decode cX13_record 190 = .ok (.iload 6, 2) := by decide +kernel
theorem dX13_record_192 : decode cX13_record 192 = .ok (.imul, 1) := by decide +kernel
theorem dX13_record_193 : decode cX13_record 193 = .ok (.aload_n 0, 1) := by decide +kernel
theorem dX13_record_194 : decode cX13_record 194 = .ok (.getfield 169, 3) := by decide +kernel
theorem dX13_record_197 : decode cX13_record 197 = .ok (.bipush 16, 2) := by decide +kernel
theorem dX13_record_199 : decode cX13_record 199 = .ok (.iload_n 2, 1) := by decide +kernel
theorem dX13_record_200 : decode cX13_record 200 = .ok (.imul, 1) := by decide +kernel
theorem dX13_record_201 : decode cX13_record 201 = .ok (.invokestatic 257, 3) := by decide +kernel
theorem dX13_record_204 : decode cX13_record 204 = .ok (.ifCond .eq 7, 3) := by decide +kernel
theorem dX13_record_207 : decode cX13_record 207 = .ok (.iconst 1, 1) := by decide +kernel
theorem dX13_record_208 : decode cX13_record 208 = .ok (.goto 4, 3) := by decide +kernel
theorem dX13_record_211 : decode cX13_record 211 = .ok (.iconst 0, 1) := by decide +kernel
theorem dX13_record_212 : decode cX13_record 212 = .ok (.istore 7, 2) := by decide +kernel
theorem dX13_record_214 : decode cX13_record 214 = .ok (.iload 7, 2) := by decide +kernel
theorem dX13_record_216 : decode cX13_record 216 = .ok (.ifCond .eq 12, 3) := by decide +kernel
theorem dX13_record_219 : decode cX13_record 219 = .ok (.iload 5, 2) := by decide +kernel
theorem dX13_record_221 : decode cX13_record 221 = .ok (.ifCond .ge 7, 3) := by decide +kernel
theorem dX13_record_224 : decode cX13_record 224 = .ok (.iload 6, 2) := by decide +kernel
theorem dX13_record_226 : decode cX13_record 226 = .ok (.istore 5, 2) := by decide +kernel
theorem dX13_record_228 : decode cX13_record 228 = .ok (.iinc 6 1, 3) := by decide +kernel
theorem dX13_record_231 : decode cX13_record 231 = .ok (.goto (-118), 3) := by decide +kernel
theorem dX13_record_234 : decode cX13_record 234 = .ok (.iload 4, 2) := by decide +kernel
theorem dX13_record_236 : decode cX13_record 236 = .ok (.ifCond .ne 15, 3) := by decide +kernel
theorem dX13_record_239 : decode cX13_record 239 = .ok (.iload 5, 2) := by decide +kernel
theorem dX13_record_241 : decode cX13_record 241 = .ok (.ifCond .lt 9, 3) := by decide +kernel
theorem dX13_record_244 : decode cX13_record 244 = .ok (.aload_n 0, 1) := by decide +kernel
theorem dX13_record_245 : decode cX13_record 245 = .ok (.iload 5, 2) := by decide +kernel
theorem dX13_record_247 : decode cX13_record 247 = .ok (.invokevirtual 383, 3) := by decide +kernel
theorem dX13_record_250 : decode cX13_record 250 = .ok (.return_, 1) := by decide +kernel
theorem dX13_record_251 : decode cX13_record 251 = .ok (.iload 5, 2) := by decide +kernel
theorem dX13_record_253 : decode cX13_record 253 = .ok (.ifCond .ge 114, 3) := by decide +kernel
theorem dX13_record_256 : decode cX13_record 256 = .ok (.aload_n 0, 1) := by decide +kernel
theorem dX13_record_257 : decode cX13_record 257 = .ok (.getfield 99, 3) := by decide +kernel
theorem dX13_record_260 : decode cX13_record 260 = .ok (.iload_n 1, 1) := by decide +kernel
theorem dX13_record_261 : decode cX13_record 261 = .ok (.iaload, 1) := by decide +kernel
theorem dX13_record_262 : decode cX13_record 262 = .ok (.bipush 24, 2) := by decide +kernel
theorem dX13_record_264 : decode cX13_record 264 = .ok (.if_icmp .ge 103, 3) := by decide +kernel
theorem dX13_record_267 : decode cX13_record 267 = .ok (.bipush 24, 2) := by decide +kernel
theorem dX13_record_269 : decode cX13_record 269 = .ok (.iload_n 1, 1) := by decide +kernel
theorem dX13_record_270 : decode cX13_record 270 = .ok (.imul, 1) := by decide +kernel
theorem dX13_record_271 : decode cX13_record 271 = .ok (.aload_n 0, 1) := by decide +kernel
theorem dX13_record_272 : decode cX13_record 272 = .ok (.getfield 99, 3) := by decide +kernel
theorem dX13_record_275 : decode cX13_record 275 = .ok (.iload_n 1, 1) := by decide +kernel
theorem dX13_record_276 : decode cX13_record 276 = .ok (.iaload, 1) := by decide +kernel
theorem dX13_record_277 : decode cX13_record 277 = .ok (.iadd, 1) := by decide +kernel
theorem dX13_record_278 : decode cX13_record 278 = .ok (.istore 5, 2) := by decide +kernel
theorem dX13_record_280 : decode cX13_record 280 = .ok (.aload_n 0, 1) := by decide +kernel
theorem dX13_record_281 : decode cX13_record 281 = .ok (.getfield 99, 3) := by decide +kernel
theorem dX13_record_284 : decode cX13_record 284 = .ok (.iload_n 1, 1) := by decide +kernel
theorem dX13_record_285 : decode cX13_record 285 = .ok (.dup2, 1) := by decide +kernel
theorem dX13_record_286 : decode cX13_record 286 = .ok (.iaload, 1) := by decide +kernel
theorem dX13_record_287 : decode cX13_record 287 = .ok (.iconst 1, 1) := by decide +kernel
theorem dX13_record_288 : decode cX13_record 288 = .ok (.iadd, 1) := by decide +kernel
theorem dX13_record_289 : decode cX13_record 289 = .ok (.iastore, 1) := by decide +kernel
theorem dX13_record_290 : decode cX13_record 290 = .ok (.aload_n 0, 1) := by decide +kernel
theorem dX13_record_291 : decode cX13_record 291 = .ok (.getfield 102, 3) := by decide +kernel
theorem dX13_record_294 : decode cX13_record 294 = .ok (.iload 5, 2) := by decide +kernel
theorem dX13_record_296 : decode cX13_record 296 = .ok (.iload_n 3, 1) := by decide +kernel
theorem dX13_record_297 : decode cX13_record 297 = .ok (.iastore, 1) := by decide +kernel
theorem dX13_record_298 : decode cX13_record 298 = .ok (.aload_n 0, 1) := by decide +kernel
theorem dX13_record_299 : decode cX13_record 299 = .ok (.getfield 105, 3) := by decide +kernel
theorem dX13_record_302 : decode cX13_record 302 = .ok (.iload 5, 2) := by decide +kernel
theorem dX13_record_304 : decode cX13_record 304 = .ok (.aload_n 0, 1) := by decide +kernel
theorem dX13_record_305 : decode cX13_record 305 = .ok (.getfield 181, 3) := by decide +kernel
theorem dX13_record_308 : decode cX13_record 308 = .ok (.iload_n 2, 1) := by decide +kernel
theorem dX13_record_309 : decode cX13_record 309 = .ok (.iaload, 1) := by decide +kernel
theorem dX13_record_310 : decode cX13_record 310 = .ok (.iastore, 1) := by decide +kernel
theorem dX13_record_311 : decode cX13_record 311 = .ok (.aload_n 0, 1) := by decide +kernel
theorem dX13_record_312 : decode cX13_record 312 = .ok (.getfield 166, 3) := by decide +kernel
theorem dX13_record_315 : decode cX13_record 315 = .ok (.bipush 16, 2) := by decide +kernel
theorem dX13_record_317 : decode cX13_record 317 = .ok (.iload_n 2, 1) := by decide +kernel
theorem dX13_record_318 : decode cX13_record 318 = .ok (.imul, 1) := by decide +kernel
theorem dX13_record_319 : decode cX13_record 319 = .ok (.aload_n 0, 1) := by decide +kernel
theorem dX13_record_320 : decode cX13_record 320 = .ok (.getfield 123, 3) := by decide +kernel
theorem dX13_record_323 : decode cX13_record 323 = .ok (.bipush 16, 2) := by decide +kernel
theorem dX13_record_325 : decode cX13_record 325 = .ok (.iload 5, 2) := by decide +kernel
theorem dX13_record_327 : decode cX13_record 327 = .ok (.imul, 1) := by decide +kernel
theorem dX13_record_328 : decode cX13_record 328 = .ok (.invokestatic 213, 3) := by decide +kernel
theorem dX13_record_331 : decode cX13_record 331 = .ok (.aload_n 0, 1) := by decide +kernel
theorem dX13_record_332 : decode cX13_record 332 = .ok (.getfield 169, 3) := by decide +kernel
theorem dX13_record_335 : decode cX13_record 335 = .ok (.bipush 16, 2) := by decide +kernel
theorem dX13_record_337 : decode cX13_record 337 = .ok (.iload_n 2, 1) := by decide +kernel
theorem dX13_record_338 : decode cX13_record 338 = .ok (.imul, 1) := by decide +kernel
theorem dX13_record_339 : decode cX13_record 339 = .ok (.aload_n 0, 1) := by decide +kernel
theorem dX13_record_340 : decode cX13_record 340 = .ok (.getfield 126, 3) := by decide +kernel
theorem dX13_record_343 : decode cX13_record 343 = .ok (.bipush 16, 2) := by decide +kernel
theorem dX13_record_345 : decode cX13_record 345 = .ok (.iload 5, 2) := by decide +kernel
theorem dX13_record_347 : decode cX13_record 347 = .ok (.imul, 1) := by decide +kernel
theorem dX13_record_348 : decode cX13_record 348 = .ok (.invokestatic 213, 3) := by decide +kernel
theorem dX13_record_351 : decode cX13_record 351 = .ok (.iload_n 3, 1) := by decide +kernel
theorem dX13_record_352 : decode cX13_record 352 = .ok (.iconst 1, 1) := by decide +kernel
theorem dX13_record_353 : decode cX13_record 353 = .ok (.if_icmp .ne 14, 3) := by decide +kernel
theorem dX13_record_356 : decode cX13_record 356 = .ok (.aload_n 0, 1) := by decide +kernel
theorem dX13_record_357 : decode cX13_record 357 = .ok (.getfield 126, 3) := by decide +kernel
theorem dX13_record_360 : decode cX13_record 360 = .ok (.bipush 16, 2) := by decide +kernel
theorem dX13_record_362 : decode cX13_record 362 = .ok (.iload 5, 2) := by decide +kernel
theorem dX13_record_364 : decode cX13_record 364 = .ok (.imul, 1) := by decide +kernel
theorem dX13_record_365 : decode cX13_record 365 = .ok (.iconst 0, 1) := by decide +kernel
theorem dX13_record_366 : decode cX13_record 366 = .ok (.iastore, 1) := by decide +kernel
theorem dX13_record_367 : decode cX13_record 367 = .ok (.iload 5, 2) := by decide +kernel
theorem dX13_record_369 : decode cX13_record 369 = .ok (.ifCond .lt 54, 3) := by decide +kernel
theorem dX13_record_372 : decode cX13_record 372 = .ok (.aload_n 0, 1) := by decide +kernel
theorem dX13_record_373 : decode cX13_record 373 = .ok (.getfield 108, 3) := by decide +kernel
theorem dX13_record_376 : decode cX13_record 376 = .ok (.iload 5, 2) := by decide +kernel
theorem dX13_record_378 : decode cX13_record 378 = .ok (.iload 4, 2) := by decide +kernel
theorem dX13_record_380 : decode cX13_record 380 = .ok (.iastore, 1) := by decide +kernel
theorem dX13_record_381 : decode cX13_record 381 = .ok (.aload_n 0, 1) := by decide +kernel
theorem dX13_record_382 : decode cX13_record 382 = .ok (.getfield 111, 3) := by decide +kernel
theorem dX13_record_385 : decode cX13_record 385 = .ok (.iload 5, 2) := by decide +kernel
theorem dX13_record_387 : decode cX13_record 387 = .ok (.aload_n 0, 1) := by decide +kernel
theorem dX13_record_388 : decode cX13_record 388 = .ok (.getfield 226, 3) := by decide +kernel
theorem dX13_record_391 : decode cX13_record 391 = .ok (.lastore, 1) := by decide +kernel
theorem dX13_record_392 : decode cX13_record 392 = .ok (.aload_n 0, 1) := by decide +kernel
theorem dX13_record_393 : decode cX13_record 393 = .ok (.getfield 114, 3) := by decide +kernel
theorem dX13_record_396 : decode cX13_record 396 = .ok (.iload 5, 2) := by decide +kernel
theorem dX13_record_398 : decode cX13_record 398 = .ok (.aload_n 0, 1) := by decide +kernel
theorem dX13_record_399 : decode cX13_record 399 = .ok (.getfield 226, 3) := by decide +kernel
theorem dX13_record_402 : decode cX13_record 402 = .ok (.iload 4, 2) := by decide +kernel
theorem dX13_record_404 : decode cX13_record 404 = .ok (.i2l, 1) := by decide +kernel
theorem dX13_record_405 : decode cX13_record 405 = .ok (.ladd, 1) := by decide +kernel
theorem dX13_record_406 : decode cX13_record 406 = .ok (.lastore, 1) := by decide +kernel
theorem dX13_record_407 : decode cX13_record 407 = .ok (.aload_n 0, 1) := by decide +kernel
theorem dX13_record_408 : decode cX13_record 408 = .ok (.getfield 117, 3) := by decide +kernel
theorem dX13_record_411 : decode cX13_record 411 = .ok (.iload 5, 2) := by decide +kernel
theorem dX13_record_413 : decode cX13_record 413 = .ok (.iconst 0, 1) := by decide +kernel
theorem dX13_record_414 : decode cX13_record 414 = .ok (.bastore, 1) := by decide +kernel
theorem dX13_record_415 : decode cX13_record 415 = .ok (.aload_n 0, 1) := by decide +kernel
theorem dX13_record_416 : decode cX13_record 416 = .ok (.getfield 120, 3) := by decide +kernel
theorem dX13_record_419 : decode cX13_record 419 = .ok (.iload 5, 2) := by decide +kernel
theorem dX13_record_421 : decode cX13_record 421 = .ok (.iconst 0, 1) := by decide +kernel
theorem dX13_record_422 : decode cX13_record 422 = .ok (.iastore, 1) := by decide +kernel
theorem dX13_record_423 : decode cX13_record 423 = .ok (.aload_n 0, 1) := by decide +kernel
theorem dX13_record_424 : decode cX13_record 424 = .ok (.getfield 175, 3) := by decide +kernel
theorem dX13_record_427 : decode cX13_record 427 = .ok (.iload_n 2, 1) := by decide +kernel
theorem dX13_record_428 : decode cX13_record 428 = .ok (.iaload, 1) := by decide +kernel
theorem dX13_record_429 : decode cX13_record 429 = .ok (.ifCond .ne 4, 3) := by decide +kernel
theorem dX13_record_432 : decode cX13_record 432 = .ok (.return_, 1) := by decide +kernel
theorem dX13_record_433 : decode cX13_record 433 = .ok (.bipush 24, 2) := by decide +kernel
theorem dX13_record_435 : decode cX13_record 435 = .ok (.iload_n 1, 1) := by decide +kernel
theorem dX13_record_436 : decode cX13_record 436 = .ok (.imul, 1) := by decide +kernel
theorem dX13_record_437 : decode cX13_record 437 = .ok (.istore 6, 2) := by decide +kernel
theorem dX13_record_439 : decode cX13_record 439 = .ok (.iload 6, 2) := by decide +kernel
theorem dX13_record_441 : decode cX13_record 441 = .ok (.bipush 24, 2) := by decide +kernel
theorem dX13_record_443 : decode cX13_record 443 = .ok (.iload_n 1, 1) := by decide +kernel
theorem dX13_record_444 : decode cX13_record 444 = .ok (.imul, 1) := by decide +kernel
theorem dX13_record_445 : decode cX13_record 445 = .ok (.aload_n 0, 1) := by decide +kernel
theorem dX13_record_446 : decode cX13_record 446 = .ok (.getfield 99, 3) := by decide +kernel
theorem dX13_record_449 : decode cX13_record 449 = .ok (.iload_n 1, 1) := by decide +kernel
theorem dX13_record_450 : decode cX13_record 450 = .ok (.iaload, 1) := by decide +kernel
theorem dX13_record_451 : decode cX13_record 451 = .ok (.iadd, 1) := by decide +kernel
theorem dX13_record_452 : decode cX13_record 452 = .ok (.if_icmp .ge 75, 3) := by decide +kernel
theorem dX13_record_455 : decode cX13_record 455 = .ok (.iload 6, 2) := by decide +kernel
theorem dX13_record_457 : decode cX13_record 457 = .ok (.iload 5, 2) := by decide +kernel
theorem dX13_record_459 : decode cX13_record 459 = .ok (.if_icmp .eq 62, 3) := by decide +kernel
theorem dX13_record_462 : decode cX13_record 462 = .ok (.aload_n 0, 1) := by decide +kernel
theorem dX13_record_463 : decode cX13_record 463 = .ok (.getfield 102, 3) := by decide +kernel
theorem dX13_record_466 : decode cX13_record 466 = .ok (.iload 6, 2) := by decide +kernel
theorem dX13_record_468 : decode cX13_record 468 = .ok (.iaload, 1) := by decide +kernel
theorem dX13_record_469 : decode cX13_record 469 = .ok (.iload_n 3, 1) := by decide +kernel
theorem dX13_record_470 : decode cX13_record 470 = .ok (.if_icmp .ne 51, 3) := by decide +kernel
theorem dX13_record_473 : decode cX13_record 473 = .ok (.aload_n 0, 1) := by decide +kernel
theorem dX13_record_474 : decode cX13_record 474 = .ok (.getfield 226, 3) := by decide +kernel
theorem dX13_record_477 : decode cX13_record 477 = .ok (.aload_n 0, 1) := by decide +kernel
theorem dX13_record_478 : decode cX13_record 478 = .ok (.getfield 111, 3) := by decide +kernel
theorem dX13_record_481 : decode cX13_record 481 = .ok (.iload 6, 2) := by decide +kernel
theorem dX13_record_483 : decode cX13_record 483 = .ok (.laload, 1) := by decide +kernel
theorem dX13_record_484 : decode cX13_record 484 = .ok (.lsub, 1) := by decide +kernel
theorem dX13_record_485 : decode cX13_record 485 = .ok (.ldc2_w 285, 3) := by decide +kernel
theorem dX13_record_488 : decode cX13_record 488 = .ok (.lcmp, 1) := by decide +kernel
theorem dX13_record_489 : decode cX13_record 489 = .ok (.ifCond .le 32, 3) := by decide +kernel
theorem dX13_record_492 : decode cX13_record 492 = .ok (.aload_n 0, 1) := by decide +kernel
theorem dX13_record_493 : decode cX13_record 493 = .ok (.getfield 123, 3) := by decide +kernel
theorem dX13_record_496 : decode cX13_record 496 = .ok (.bipush 16, 2) := by decide +kernel
theorem dX13_record_498 : decode cX13_record 498 = .ok (.iload 6, 2) := by decide +kernel
theorem dX13_record_500 : decode cX13_record 500 = .ok (.imul, 1) := by decide +kernel
theorem dX13_record_501 : decode cX13_record 501 = .ok (.aload_n 0, 1) := by decide +kernel
theorem dX13_record_502 : decode cX13_record 502 = .ok (.getfield 166, 3) := by decide +kernel
theorem dX13_record_505 : decode cX13_record 505 = .ok (.bipush 16, 2) := by decide +kernel
theorem dX13_record_507 : decode cX13_record 507 = .ok (.iload_n 2, 1) := by decide +kernel
theorem dX13_record_508 : decode cX13_record 508 = .ok (.imul, 1) := by decide +kernel
theorem dX13_record_509 : decode cX13_record 509 = .ok (.invokestatic 257, 3) := by decide +kernel
theorem dX13_record_512 : decode cX13_record 512 = .ok (.ifCond .eq 9, 3) := by decide +kernel
theorem dX13_record_515 : decode cX13_record 515 = .ok (.aload_n 0, 1) := by decide +kernel
theorem dX13_record_516 : decode cX13_record 516 = .ok (.iload 6, 2) := by decide +kernel
theorem dX13_record_518 : decode cX13_record 518 = .ok (.invokevirtual 383, 3) := by decide +kernel
theorem dX13_record_521 : decode cX13_record 521 = .ok (.iinc 6 1, 3) := by decide +kernel
theorem dX13_record_524 : decode cX13_record 524 = .ok (.goto (-85), 3) := by decide +kernel
theorem dX13_record_527 : decode cX13_record 527 = .ok (.return_, 1) := by decide +kernel
theorem dX13_isHost_0 : decode cX13_isHost 0 = .ok (.iload_n 1, 1) := by decide +kernel
theorem dX13_isHost_1 : decode cX13_isHost 1 = .ok (.ifCond .lt 13, 3) := by decide +kernel
theorem dX13_isHost_4 : decode cX13_isHost 4 = .ok (.iload_n 1, 1) := by decide +kernel
theorem dX13_isHost_5 : decode cX13_isHost 5 = .ok (.bipush 8, 2) := by decide +kernel
theorem dX13_isHost_7 : decode cX13_isHost 7 = .ok (.if_icmp .ge 7, 3) := by decide +kernel
theorem dX13_isHost_10 : decode cX13_isHost 10 = .ok (.iconst 1, 1) := by decide +kernel
theorem dX13_isHost_11 : decode cX13_isHost 11 = .ok (.goto 4, 3) := by decide +kernel
theorem dX13_isHost_14 : decode cX13_isHost 14 = .ok (.iconst 0, 1) := by decide +kernel
theorem dX13_isHost_15 : decode cX13_isHost 15 = .ok (.ireturn, 1) := by decide +kernel
theorem dX13_on_0 : decode cX13_on 0 = .ok (.aload_n 0, 1) := by decide +kernel
theorem dX13_on_1 : decode cX13_on 1 = .ok (.iconst 0, 1) := by decide +kernel
theorem dX13_on_2 : decode cX13_on 2 = .ok (.putfield 184, 3) := by decide +kernel
theorem dX13_on_5 : decode cX13_on 5 = .ok (.aload_n 0, 1) := by decide +kernel
theorem dX13_on_6 : decode cX13_on 6 = .ok (.iload_n 1, 1) := by decide +kernel
theorem dX13_on_7 : decode cX13_on 7 = .ok (.invokevirtual 386, 3) := by decide +kernel
theorem dX13_on_10 : decode cX13_on 10 = .ok (.ifCond .eq 24, 3) := by decide +kernel
theorem dX13_on_13 : decode cX13_on 13 = .ok (.aload_n 0, 1) := by decide +kernel
theorem dX13_on_14 : decode cX13_on 14 = .ok (.getfield 13, 3) := by decide +kernel
theorem dX13_on_17 : decode cX13_on 17 = .ok (.iload_n 1, 1) := by decide +kernel
theorem dX13_on_18 : decode cX13_on 18 = .ok (.baload, 1) := by decide +kernel
theorem dX13_on_19 : decode cX13_on 19 = .ok (.ifCond .ne 15, 3) := by decide +kernel
theorem dX13_on_22 : decode cX13_on 22 = .ok (.iload_n 2, 1) := by decide +kernel
theorem dX13_on_23 : decode cX13_on 23 = .ok (.iconst 1, 1) := by decide +kernel
theorem dX13_on_24 : decode cX13_on 24 = .ok (.if_icmp .lt 10, 3) := by decide +kernel
theorem dX13_on_27 : decode cX13_on 27 = .ok (.iload_n 2, 1) := by decide +kernel
theorem dX13_on_28 : decode cX13_on 28 = .ok (.ldc_w 389, 3) := by decide +kernel
theorem dX13_on_31 : decode cX13_on 31 = .ok (.if_icmp .le 5, 3) := by decide +kernel
theorem dX13_on_34 : decode cX13_on 34 = .ok (.iconst 0, 1) := by decide +kernel
theorem dX13_on_35 : decode cX13_on 35 = .ok (.ireturn, 1) := by decide +kernel
theorem dX13_on_36 : decode cX13_on 36 = .ok (.iconst 0, 1) := by decide +kernel
theorem dX13_on_37 : decode cX13_on 37 = .ok (.istore_n 3, 1) := by decide +kernel
theorem dX13_on_38 : decode cX13_on 38 = .ok (.iload_n 3, 1) := by decide +kernel
theorem dX13_on_39 : decode cX13_on 39 = .ok (.bipush 8, 2) := by decide +kernel
theorem dX13_on_41 : decode cX13_on 41 = .ok (.if_icmp .ge 30, 3) := by decide +kernel
theorem dX13_on_44 : decode cX13_on 44 = .ok (.aload_n 0, 1) := by decide +kernel
theorem dX13_on_45 : decode cX13_on 45 = .ok (.getfield 13, 3) := by decide +kernel
theorem dX13_on_48 : decode cX13_on 48 = .ok (.iload_n 3, 1) := by decide +kernel
theorem dX13_on_49 : decode cX13_on 49 = .ok (.baload, 1) := by decide +kernel
theorem dX13_on_50 : decode cX13_on 50 = .ok (.ifCond .eq 15, 3) := by decide +kernel
theorem dX13_on_53 : decode cX13_on 53 = .ok (.aload_n 0, 1) := by decide +kernel
theorem dX13_on_54 : decode cX13_on 54 = .ok (.getfield 17, 3) := by decide +kernel
theorem dX13_on_57 : decode cX13_on 57 = .ok (.iload_n 3, 1) := by decide +kernel
theorem dX13_on_58 : decode cX13_on 58 = .ok (.iaload, 1) := by decide +kernel
theorem dX13_on_59 : decode cX13_on 59 = .ok (.iload_n 2, 1) := by decide +kernel
theorem dX13_on_60 : decode cX13_on 60 = .ok (.if_icmp .ne 5, 3) := by decide +kernel
theorem dX13_on_63 : decode cX13_on 63 = .ok (.iconst 0, 1) := by decide +kernel
theorem dX13_on_64 : decode cX13_on 64 = .ok (.ireturn, 1) := by decide +kernel
theorem dX13_on_65 : decode cX13_on 65 = .ok (.iinc 3 1, 3) := by decide +kernel
theorem dX13_on_68 : decode cX13_on 68 = .ok (.goto (-30), 3) := by decide +kernel
theorem dX13_on_71 : decode cX13_on 71 = .ok (.aload_n 0, 1) := by decide +kernel
theorem dX13_on_72 : decode cX13_on 72 = .ok (.iload_n 1, 1) := by decide +kernel
theorem dX13_on_73 : decode cX13_on 73 = .ok (.invokevirtual 390, 3) := by decide +kernel
theorem dX13_on_76 : decode cX13_on 76 = .ok (.aload_n 0, 1) := by decide +kernel
theorem dX13_on_77 : decode cX13_on 77 = .ok (.getfield 13, 3) := by decide +kernel
theorem dX13_on_80 : decode cX13_on 80 = .ok (.iload_n 1, 1) := by decide +kernel
theorem dX13_on_81 : decode cX13_on 81 = .ok (.iconst 1, 1) := by decide +kernel
theorem dX13_on_82 : decode cX13_on 82 = .ok (.bastore, 1) := by decide +kernel
theorem dX13_on_83 : decode cX13_on 83 = .ok (.aload_n 0, 1) := by decide +kernel
theorem dX13_on_84 : decode cX13_on 84 = .ok (.getfield 17, 3) := by decide +kernel
theorem dX13_on_87 : decode cX13_on 87 = .ok (.iload_n 1, 1) := by decide +kernel
theorem dX13_on_88 : decode cX13_on 88 = .ok (.iload_n 2, 1) := by decide +kernel
theorem dX13_on_89 : decode cX13_on 89 = .ok (.iastore, 1) := by decide +kernel
theorem dX13_on_90 : decode cX13_on 90 = .ok (.aload_n 0, 1) := by decide +kernel
theorem dX13_on_91 : decode cX13_on 91 = .ok (.iload_n 1, 1) := by decide +kernel
theorem dX13_on_92 : decode cX13_on 92 = .ok (.invokevirtual 268, 3) := by decide +kernel
theorem dX13_on_95 : decode cX13_on 95 = .ok (.iconst 1, 1) := by decide +kernel
theorem dX13_on_96 : decode cX13_on 96 = .ok (.ireturn, 1) := by decide +kernel
theorem dX13_forgets_0 : decode cX13_forgets 0 = .ok (.aload_n 0, 1) := by decide +kernel
theorem dX13_forgets_1 : decode cX13_forgets 1 = .ok (.getfield 13, 3) := by decide +kernel
theorem dX13_forgets_4 : decode cX13_forgets 4 = .ok (.iload_n 1, 1) := by decide +kernel
theorem dX13_forgets_5 : decode cX13_forgets 5 = .ok (.iconst 0, 1) := by decide +kernel
theorem dX13_forgets_6 : decode cX13_forgets 6 = .ok (.bastore, 1) := by decide +kernel
theorem dX13_forgets_7 : decode cX13_forgets 7 = .ok (.aload_n 0, 1) := by decide +kernel
theorem dX13_forgets_8 : decode cX13_forgets 8 = .ok (.getfield 17, 3) := by decide +kernel
theorem dX13_forgets_11 : decode cX13_forgets 11 = .ok (.iload_n 1, 1) := by decide +kernel
theorem dX13_forgets_12 : decode cX13_forgets 12 = .ok (.iconst 0, 1) := by decide +kernel
theorem dX13_forgets_13 : decode cX13_forgets 13 = .ok (.iastore, 1) := by decide +kernel
theorem dX13_forgets_14 : decode cX13_forgets 14 = .ok (.aload_n 0, 1) := by decide +kernel
theorem dX13_forgets_15 : decode cX13_forgets 15 = .ok (.getfield 23, 3) := by decide +kernel
theorem dX13_forgets_18 : decode cX13_forgets 18 = .ok (.iload_n 1, 1) := by decide +kernel
theorem dX13_forgets_19 : decode cX13_forgets 19 = .ok (.iconst 0, 1) := by decide +kernel
theorem dX13_forgets_20 : decode cX13_forgets 20 = .ok (.iastore, 1) := by decide +kernel
theorem dX13_forgets_21 : decode cX13_forgets 21 = .ok (.aload_n 0, 1) := by decide +kernel
theorem dX13_forgets_22 : decode cX13_forgets 22 = .ok (.getfield 26, 3) := by decide +kernel
theorem dX13_forgets_25 : decode cX13_forgets 25 = .ok (.iload_n 1, 1) := by decide +kernel
theorem dX13_forgets_26 : decode cX13_forgets 26 = .ok (.iconst 0, 1) := by decide +kernel
theorem dX13_forgets_27 : decode cX13_forgets 27 = .ok (.iastore, 1) := by decide +kernel
theorem dX13_forgets_28 : decode cX13_forgets 28 = .ok (.aload_n 0, 1) := by decide +kernel
theorem dX13_forgets_29 : decode cX13_forgets 29 = .ok (.getfield 29, 3) := by decide +kernel
theorem dX13_forgets_32 : decode cX13_forgets 32 = .ok (.iload_n 1, 1) := by decide +kernel
theorem dX13_forgets_33 : decode cX13_forgets 33 = .ok (.iconst 0, 1) := by decide +kernel
theorem dX13_forgets_34 : decode cX13_forgets 34 = .ok (.iastore, 1) := by decide +kernel
theorem dX13_forgets_35 : decode cX13_forgets 35 = .ok (.aload_n 0, 1) := by decide +kernel
theorem dX13_forgets_36 : decode cX13_forgets 36 = .ok (.getfield 32, 3) := by decide +kernel
theorem dX13_forgets_39 : decode cX13_forgets 39 = .ok (.iload_n 1, 1) := by decide +kernel
theorem dX13_forgets_40 : decode cX13_forgets 40 = .ok (.iconst 0, 1) := by decide +kernel
theorem dX13_forgets_41 : decode cX13_forgets 41 = .ok (.iastore, 1) := by decide +kernel
theorem dX13_forgets_42 : decode cX13_forgets 42 = .ok (.aload_n 0, 1) := by decide +kernel
theorem dX13_forgets_43 : decode cX13_forgets 43 = .ok (.getfield 35, 3) := by decide +kernel
theorem dX13_forgets_46 : decode cX13_forgets 46 = .ok (.iload_n 1, 1) := by decide +kernel
theorem dX13_forgets_47 : decode cX13_forgets 47 = .ok (.iconst 0, 1) := by decide +kernel
theorem dX13_forgets_48 : decode cX13_forgets 48 = .ok (.iastore, 1) := by decide +kernel
theorem dX13_forgets_49 : decode cX13_forgets 49 = .ok (.aload_n 0, 1) := by decide +kernel
theorem dX13_forgets_50 : decode cX13_forgets 50 = .ok (.getfield 41, 3) := by decide +kernel
theorem dX13_forgets_53 : decode cX13_forgets 53 = .ok (.iload_n 1, 1) := by decide +kernel
theorem dX13_forgets_54 : decode cX13_forgets 54 = .ok (.iconst 0, 1) := by decide +kernel
theorem dX13_forgets_55 : decode cX13_forgets 55 = .ok (.bastore, 1) := by decide +kernel
theorem dX13_forgets_56 : decode cX13_forgets 56 = .ok (.aload_n 0, 1) := by decide +kernel
theorem dX13_forgets_57 : decode cX13_forgets 57 = .ok (.getfield 44, 3) := by decide +kernel
theorem dX13_forgets_60 : decode cX13_forgets 60 = .ok (.iload_n 1, 1) := by decide +kernel
theorem dX13_forgets_61 : decode cX13_forgets 61 = .ok (.ldc2_w 271, 3) := by decide +kernel
theorem dX13_forgets_64 : decode cX13_forgets 64 = .ok (.lastore, 1) := by decide +kernel
theorem dX13_forgets_65 : decode cX13_forgets 65 = .ok (.aload_n 0, 1) := by decide +kernel
theorem dX13_forgets_66 : decode cX13_forgets 66 = .ok (.getfield 48, 3) := by decide +kernel
theorem dX13_forgets_69 : decode cX13_forgets 69 = .ok (.iload_n 1, 1) := by decide +kernel
theorem dX13_forgets_70 : decode cX13_forgets 70 = .ok (.ldc2_w 271, 3) := by decide +kernel
theorem dX13_forgets_73 : decode cX13_forgets 73 = .ok (.lastore, 1) := by decide +kernel
theorem dX13_forgets_74 : decode cX13_forgets 74 = .ok (.aload_n 0, 1) := by decide +kernel
theorem dX13_forgets_75 : decode cX13_forgets 75 = .ok (.getfield 51, 3) := by decide +kernel
theorem dX13_forgets_78 : decode cX13_forgets 78 = .ok (.iload_n 1, 1) := by decide +kernel
theorem dX13_forgets_79 : decode cX13_forgets 79 = .ok (.iconst 0, 1) := by decide +kernel
theorem dX13_forgets_80 : decode cX13_forgets 80 = .ok (.iastore, 1) := by decide +kernel
theorem dX13_forgets_81 : decode cX13_forgets 81 = .ok (.aload_n 0, 1) := by decide +kernel
theorem dX13_forgets_82 : decode cX13_forgets 82 = .ok (.getfield 57, 3) := by decide +kernel
theorem dX13_forgets_85 : decode cX13_forgets 85 = .ok (.iload_n 1, 1) := by decide +kernel
theorem dX13_forgets_86 : decode cX13_forgets 86 = .ok (.ldc2_w 271, 3) := by decide +kernel
theorem dX13_forgets_89 : decode cX13_forgets 89 = .ok (.lastore, 1) := by decide +kernel
theorem dX13_forgets_90 : decode cX13_forgets 90 = .ok (.aload_n 0, 1) := by decide +kernel
theorem dX13_forgets_91 : decode cX13_forgets 91 = .ok (.getfield 60, 3) := by decide +kernel
theorem dX13_forgets_94 : decode cX13_forgets 94 = .ok (.iload_n 1, 1) := by decide +kernel
theorem dX13_forgets_95 : decode cX13_forgets 95 = .ok (.iconst 1, 1) := by decide +kernel
theorem dX13_forgets_96 : decode cX13_forgets 96 = .ok (.iastore, 1) := by decide +kernel
theorem dX13_forgets_97 : decode cX13_forgets 97 = .ok (.aload_n 0, 1) := by decide +kernel
theorem dX13_forgets_98 : decode cX13_forgets 98 = .ok (.getfield 75, 3) := by decide +kernel
theorem dX13_forgets_101 : decode cX13_forgets 101 = .ok (.iload_n 1, 1) := by decide +kernel
theorem dX13_forgets_102 : decode cX13_forgets 102 = .ok (.iconst 0, 1) := by decide +kernel
theorem dX13_forgets_103 : decode cX13_forgets 103 = .ok (.iastore, 1) := by decide +kernel
theorem dX13_forgets_104 : decode cX13_forgets 104 = .ok (.aload_n 0, 1) := by decide +kernel
theorem dX13_forgets_105 : decode cX13_forgets 105 = .ok (.getfield 96, 3) := by decide +kernel
theorem dX13_forgets_108 : decode cX13_forgets 108 = .ok (.iload_n 1, 1) := by decide +kernel
theorem dX13_forgets_109 : decode cX13_forgets 109 = .ok (.iconst 0, 1) := by decide +kernel
theorem dX13_forgets_110 : decode cX13_forgets 110 = .ok (.iastore, 1) := by decide +kernel
theorem dX13_forgets_111 : decode cX13_forgets 111 = .ok (.aload_n 0, 1) := by decide +kernel
theorem dX13_forgets_112 : decode cX13_forgets 112 = .ok (.getfield 99, 3) := by decide +kernel
theorem dX13_forgets_115 : decode cX13_forgets 115 = .ok (.iload_n 1, 1) := by decide +kernel
theorem dX13_forgets_116 : decode cX13_forgets 116 = .ok (.iconst 0, 1) := by decide +kernel
theorem dX13_forgets_117 : decode cX13_forgets 117 = .ok (.iastore, 1) := by decide +kernel
theorem dX13_forgets_118 : decode cX13_forgets 118 = .ok (.iconst 4, 1) := by decide +kernel
theorem dX13_forgets_119 : decode cX13_forgets 119 = .ok (.iload_n 1, 1) := by decide +kernel
theorem dX13_forgets_120 : decode cX13_forgets 120 = .ok (.imul, 1) := by decide +kernel
theorem dX13_forgets_121 : decode cX13_forgets 121 = .ok (.istore_n 2, 1) := by decide +kernel
theorem dX13_forgets_122 : decode cX13_forgets 122 = .ok (.iload_n 2, 1) := by decide +kernel
theorem dX13_forgets_123 : decode cX13_forgets 123 = .ok (.iconst 4, 1) := by decide +kernel
theorem dX13_forgets_124 : decode cX13_forgets 124 = .ok (.iload_n 1, 1) := by decide +kernel
theorem dX13_forgets_125 : decode cX13_forgets 125 = .ok (.imul, 1) := by decide +kernel
theorem dX13_forgets_126 : decode cX13_forgets 126 = .ok (.iconst 4, 1) := by decide +kernel
theorem dX13_forgets_127 : decode cX13_forgets 127 = .ok (.iadd, 1) := by decide +kernel
theorem dX13_forgets_128 : decode cX13_forgets 128 = .ok (.if_icmp .ge 16, 3) := by decide +kernel
theorem dX13_forgets_131 : decode cX13_forgets 131 = .ok (.aload_n 0, 1) := by decide +kernel
theorem dX13_forgets_132 : decode cX13_forgets 132 = .ok (.getfield 81, 3) := by decide +kernel
theorem dX13_forgets_135 : decode cX13_forgets 135 = .ok (.iload_n 2, 1) := by decide +kernel
theorem dX13_forgets_136 : decode cX13_forgets 136 = .ok (.iconst 0, 1) := by decide +kernel
theorem dX13_forgets_137 : decode cX13_forgets 137 = .ok (.iastore, 1) := by decide +kernel
theorem dX13_forgets_138 : decode cX13_forgets 138 = .ok (.iinc 2 1, 3) := by decide +kernel
theorem dX13_forgets_141 : decode cX13_forgets 141 = .ok (.goto (-19), 3) := by decide +kernel
theorem dX13_forgets_144 : decode cX13_forgets 144 = .ok (.return_, 1) := by decide +kernel
theorem dX13_off_0 : decode cX13_off 0 = .ok (.aload_n 0, 1) := by decide +kernel
theorem dX13_off_1 : decode cX13_off 1 = .ok (.iconst 0, 1) := by decide +kernel
theorem dX13_off_2 : decode cX13_off 2 = .ok (.putfield 184, 3) := by decide +kernel
theorem dX13_off_5 : decode cX13_off 5 = .ok (.aload_n 0, 1) := by decide +kernel
theorem dX13_off_6 : decode cX13_off 6 = .ok (.iload_n 1, 1) := by decide +kernel
theorem dX13_off_7 : decode cX13_off 7 = .ok (.invokevirtual 386, 3) := by decide +kernel
theorem dX13_off_10 : decode cX13_off 10 = .ok (.ifCond .eq 12, 3) := by decide +kernel
theorem dX13_off_13 : decode cX13_off 13 = .ok (.aload_n 0, 1) := by decide +kernel
theorem dX13_off_14 : decode cX13_off 14 = .ok (.getfield 13, 3) := by decide +kernel
theorem dX13_off_17 : decode cX13_off 17 = .ok (.iload_n 1, 1) := by decide +kernel
theorem dX13_off_18 : decode cX13_off 18 = .ok (.baload, 1) := by decide +kernel
theorem dX13_off_19 : decode cX13_off 19 = .ok (.ifCond .ne 5, 3) := by decide +kernel
theorem dX13_off_22 : decode cX13_off 22 = .ok (.iconst 0, 1) := by decide +kernel
theorem dX13_off_23 : decode cX13_off 23 = .ok (.ireturn, 1) := by decide +kernel
theorem dX13_off_24 : decode cX13_off 24 = .ok (.iload_n 2, 1) := by decide +kernel
theorem dX13_off_25 : decode cX13_off 25 = .ok (.ifCond .eq 20, 3) := by decide +kernel
theorem dX13_off_28 : decode cX13_off 28 = .ok (.aload_n 0, 1) := by decide +kernel
theorem dX13_off_29 : decode cX13_off 29 = .ok (.getfield 51, 3) := by decide +kernel
theorem dX13_off_32 : decode cX13_off 32 = .ok (.iload_n 1, 1) := by decide +kernel
theorem dX13_off_33 : decode cX13_off 33 = .ok (.iaload, 1) := by decide +kernel
theorem dX13_off_34 : decode cX13_off 34 = .ok (.iconst 3, 1) := by decide +kernel
theorem dX13_off_35 : decode cX13_off 35 = .ok (.if_icmp .ne 10, 3) := by decide +kernel
theorem dX13_off_38 : decode cX13_off 38 = .ok (.aload_n 0, 1) := by decide +kernel
theorem dX13_off_39 : decode cX13_off 39 = .ok (.iload_n 1, 1) := by decide +kernel
theorem dX13_off_40 : decode cX13_off 40 = .ok (.iconst 0, 1) := by decide +kernel
theorem dX13_off_41 : decode cX13_off 41 = .ok (.iconst 1, 1) := by decide +kernel
theorem dX13_off_42 : decode cX13_off 42 = .ok (.invokevirtual 288, 3) := by decide +kernel
theorem dX13_off_45 : decode cX13_off 45 = .ok (.aload_n 0, 1) := by decide +kernel
theorem dX13_off_46 : decode cX13_off 46 = .ok (.iload_n 1, 1) := by decide +kernel
theorem dX13_off_47 : decode cX13_off 47 = .ok (.invokevirtual 390, 3) := by decide +kernel
theorem dX13_off_50 : decode cX13_off 50 = .ok (.iconst 1, 1) := by decide +kernel
theorem dX13_off_51 : decode cX13_off 51 = .ok (.ireturn, 1) := by decide +kernel
theorem dX13_claim_0 : decode cX13_claim 0 = .ok (.aload_n 0, 1) := by decide +kernel
theorem dX13_claim_1 : decode cX13_claim 1 = .ok (.iconst 0, 1) := by decide +kernel
theorem dX13_claim_2 : decode cX13_claim 2 = .ok (.putfield 184, 3) := by decide +kernel
theorem dX13_claim_5 : decode cX13_claim 5 = .ok (.aload_n 0, 1) := by decide +kernel
theorem dX13_claim_6 : decode cX13_claim 6 = .ok (.invokevirtual 393, 3) := by decide +kernel
theorem dX13_claim_9 : decode cX13_claim 9 = .ok (.istore_n 2, 1) := by decide +kernel
theorem dX13_claim_10 : decode cX13_claim 10 = .ok (.aload_n 0, 1) := by decide +kernel
theorem dX13_claim_11 : decode cX13_claim 11 = .ok (.iload_n 1, 1) := by decide +kernel
theorem dX13_claim_12 : decode cX13_claim 12 = .ok (.invokevirtual 386, 3) := by decide +kernel
theorem dX13_claim_15 : decode cX13_claim 15 = .ok (.ifCond .eq 25, 3) := by decide +kernel
theorem dX13_claim_18 : decode cX13_claim 18 = .ok (.aload_n 0, 1) := by decide +kernel
theorem dX13_claim_19 : decode cX13_claim 19 = .ok (.getfield 13, 3) := by decide +kernel
theorem dX13_claim_22 : decode cX13_claim 22 = .ok (.iload_n 1, 1) := by decide +kernel
theorem dX13_claim_23 : decode cX13_claim 23 = .ok (.baload, 1) := by decide +kernel
theorem dX13_claim_24 : decode cX13_claim 24 = .ok (.ifCond .eq 16, 3) := by decide +kernel
theorem dX13_claim_27 : decode cX13_claim 27 = .ok (.aload_n 0, 1) := by decide +kernel
theorem dX13_claim_28 : decode cX13_claim 28 = .ok (.getfield 51, 3) := by decide +kernel
theorem dX13_claim_31 : decode cX13_claim 31 = .ok (.iload_n 1, 1) := by decide +kernel
theorem dX13_claim_32 : decode cX13_claim 32 = .ok (.iaload, 1) := by decide +kernel
theorem dX13_claim_33 : decode cX13_claim 33 = .ok (.ifCond .gt 7, 3) := by decide +kernel
theorem dX13_claim_36 : decode cX13_claim 36 = .ok (.iload_n 2, 1) := by decide +kernel
theorem dX13_claim_37 : decode cX13_claim 37 = .ok (.ifCond .ne 5, 3) := by decide +kernel
theorem dX13_claim_40 : decode cX13_claim 40 = .ok (.iconst 0, 1) := by decide +kernel
theorem dX13_claim_41 : decode cX13_claim 41 = .ok (.ireturn, 1) := by decide +kernel
theorem dX13_claim_42 : decode cX13_claim 42 = .ok (.aload_n 0, 1) := by decide +kernel
theorem dX13_claim_43 : decode cX13_claim 43 = .ok (.getfield 148, 3) := by decide +kernel
theorem dX13_claim_46 : decode cX13_claim 46 = .ok (.iconst 0, 1) := by decide +kernel
theorem dX13_claim_47 : decode cX13_claim 47 = .ok (.aload_n 0, 1) := by decide +kernel
theorem dX13_claim_48 : decode cX13_claim 48 = .ok (.getfield 63, 3) := by decide +kernel
theorem dX13_claim_51 : decode cX13_claim 51 = .ok (.bipush 16, 2) := by decide +kernel
theorem dX13_claim_53 : decode cX13_claim 53 = .ok (.iload_n 1, 1) := by decide +kernel
theorem dX13_claim_54 : decode cX13_claim 54 = .ok (.imul, 1) := by decide +kernel
theorem dX13_claim_55 : decode cX13_claim 55 = .ok (.invokestatic 213, 3) := by decide +kernel
theorem dX13_claim_58 : decode cX13_claim 58 = .ok (.aload_n 0, 1) := by decide +kernel
theorem dX13_claim_59 : decode cX13_claim 59 = .ok (.getfield 148, 3) := by decide +kernel
theorem dX13_claim_62 : decode cX13_claim 62 = .ok (.iconst 0, 1) := by decide +kernel
theorem dX13_claim_63 : decode cX13_claim 63 = .ok (.aload_n 0, 1) := by decide +kernel
theorem dX13_claim_64 : decode cX13_claim 64 = .ok (.getfield 66, 3) := by decide +kernel
theorem dX13_claim_67 : decode cX13_claim 67 = .ok (.bipush 16, 2) := by decide +kernel
theorem dX13_claim_69 : decode cX13_claim 69 = .ok (.iload_n 1, 1) := by decide +kernel
theorem dX13_claim_70 : decode cX13_claim 70 = .ok (.imul, 1) := by decide +kernel
theorem dX13_claim_71 : decode cX13_claim 71 = .ok (.invokestatic 213, 3) := by decide +kernel
theorem dX13_claim_74 : decode cX13_claim 74 = .ok (.aload_n 0, 1) := by decide +kernel
theorem dX13_claim_75 : decode cX13_claim 75 = .ok (.getfield 51, 3) := by decide +kernel
theorem dX13_claim_78 : decode cX13_claim 78 = .ok (.iload_n 1, 1) := by decide +kernel
theorem dX13_claim_79 : decode cX13_claim 79 = .ok (.iconst 1, 1) := by decide +kernel
theorem dX13_claim_80 : decode cX13_claim 80 = .ok (.iastore, 1) := by decide +kernel
theorem dX13_claim_81 : decode cX13_claim 81 = .ok (.aload_n 0, 1) := by decide +kernel
theorem dX13_claim_82 : decode cX13_claim 82 = .ok (.getfield 41, 3) := by decide +kernel
theorem dX13_claim_85 : decode cX13_claim 85 = .ok (.iload_n 1, 1) := by decide +kernel
theorem dX13_claim_86 : decode cX13_claim 86 = .ok (.baload, 1) := by decide +kernel
theorem dX13_claim_87 : decode cX13_claim 87 = .ok (.ifCond .eq 8, 3) := by decide +kernel
theorem dX13_claim_90 : decode cX13_claim 90 = .ok (.aload_n 0, 1) := by decide +kernel
theorem dX13_claim_91 : decode cX13_claim 91 = .ok (.iload_n 1, 1) := by decide +kernel
theorem dX13_claim_92 : decode cX13_claim 92 = .ok (.invokevirtual 277, 3) := by decide +kernel
theorem dX13_claim_95 : decode cX13_claim 95 = .ok (.iconst 1, 1) := by decide +kernel
theorem dX13_claim_96 : decode cX13_claim 96 = .ok (.ireturn, 1) := by decide +kernel
theorem dX13_service_0 : decode cX13_service 0 = .ok (.aload_n 0, 1) := by decide +kernel
theorem dX13_service_1 : decode cX13_service 1 = .ok (.iconst 0, 1) := by decide +kernel
theorem dX13_service_2 : decode cX13_service 2 = .ok (.putfield 184, 3) := by decide +kernel
theorem dX13_service_5 : decode cX13_service 5 = .ok (.aload_n 0, 1) := by decide +kernel
theorem dX13_service_6 : decode cX13_service 6 = .ok (.invokevirtual 393, 3) := by decide +kernel
theorem dX13_service_9 : decode cX13_service 9 = .ok (.istore_n 3, 1) := by decide +kernel
theorem dX13_service_10 : decode cX13_service 10 = .ok (.aload_n 0, 1) := by decide +kernel
theorem dX13_service_11 : decode cX13_service 11 = .ok (.iload_n 1, 1) := by decide +kernel
theorem dX13_service_12 : decode cX13_service 12 = .ok (.invokevirtual 386, 3) := by decide +kernel
theorem dX13_service_15 : decode cX13_service 15 = .ok (.ifCond .eq 37, 3) := by decide +kernel
