theorem dX13_init_412 : decode cX13_init 412 = .ok (.newarray .int, 2) := by decide +kernel
theorem dX13_init_414 : decode cX13_init 414 = .ok (.putfield 157, 3) := by decide +kernel
theorem dX13_init_417 : decode cX13_init 417 = .ok (.aload_n 0, 1) := by decide +kernel
theorem dX13_init_418 : decode cX13_init 418 = .ok (.sipush 200, 3) := by decide +kernel
theorem dX13_init_421 : decode cX13_init 421 = .ok (.newarray .int, 2) := by decide +kernel
theorem dX13_init_423 : decode cX13_init 423 = .ok (.putfield 160, 3) := by decide +kernel
theorem dX13_init_426 : decode cX13_init 426 = .ok (.aload_n 0, 1) := by decide +kernel
theorem dX13_init_427 : decode cX13_init 427 = .ok (.sipush 200, 3) := by decide +kernel
theorem dX13_init_430 : decode cX13_init 430 = .ok (.newarray .boolean, 2) := by decide +kernel
theorem dX13_init_432 : decode cX13_init 432 = .ok (.putfield 163, 3) := by decide +kernel
theorem dX13_init_435 : decode cX13_init 435 = .ok (.aload_n 0, 1) := by decide +kernel
theorem dX13_init_436 : decode cX13_init 436 = .ok (.sipush 512, 3) := by decide +kernel
theorem dX13_init_439 : decode cX13_init 439 = .ok (.newarray .int, 2) := by decide +kernel
theorem dX13_init_441 : decode cX13_init 441 = .ok (.putfield 166, 3) := by decide +kernel
theorem dX13_init_444 : decode cX13_init 444 = .ok (.aload_n 0, 1) := by decide +kernel
theorem dX13_init_445 : decode cX13_init 445 = .ok (.sipush 512, 3) := by decide +kernel
theorem dX13_init_448 : decode cX13_init 448 = .ok (.newarray .int, 2) := by decide +kernel
theorem dX13_init_450 : decode cX13_init 450 = .ok (.putfield 169, 3) := by decide +kernel
theorem dX13_init_453 : decode cX13_init 453 = .ok (.aload_n 0, 1) := by decide +kernel
theorem dX13_init_454 : decode cX13_init 454 = .ok (.bipush 16, 2) := by decide +kernel
theorem dX13_init_456 : decode cX13_init 456 = .ok (.newarray .int, 2) := by decide +kernel
theorem dX13_init_458 : decode cX13_init 458 = .ok (.putfield 172, 3) := by decide +kernel
theorem dX13_init_461 : decode cX13_init 461 = .ok (.aload_n 0, 1) := by decide +kernel
theorem dX13_init_462 : decode cX13_init 462 = .ok (.bipush 16, 2) := by decide +kernel
theorem dX13_init_464 : decode cX13_init 464 = .ok (.newarray .int, 2) := by decide +kernel
theorem dX13_init_466 : decode cX13_init 466 = .ok (.putfield 175, 3) := by decide +kernel
theorem dX13_init_469 : decode cX13_init 469 = .ok (.aload_n 0, 1) := by decide +kernel
theorem dX13_init_470 : decode cX13_init 470 = .ok (.bipush 16, 2) := by decide +kernel
theorem dX13_init_472 : decode cX13_init 472 = .ok (.newarray .int, 2) := by decide +kernel
theorem dX13_init_474 : decode cX13_init 474 = .ok (.putfield 178, 3) := by decide +kernel
theorem dX13_init_477 : decode cX13_init 477 = .ok (.aload_n 0, 1) := by decide +kernel
theorem dX13_init_478 : decode cX13_init 478 = .ok (.bipush 16, 2) := by decide +kernel
theorem dX13_init_480 : decode cX13_init 480 = .ok (.newarray .int, 2) := by decide +kernel
theorem dX13_init_482 : decode cX13_init 482 = .ok (.putfield 181, 3) := by decide +kernel
theorem dX13_init_485 : decode cX13_init 485 = .ok (.aload_n 0, 1) := by decide +kernel
theorem dX13_init_486 : decode cX13_init 486 = .ok (.getfield 142, 3) := by decide +kernel
theorem dX13_init_489 : decode cX13_init 489 = .ok (.bipush 10, 2) := by decide +kernel
theorem dX13_init_491 : decode cX13_init 491 = .ok (.iconst (-1), 1) := by decide +kernel
theorem dX13_init_492 : decode cX13_init 492 = .ok (.iastore, 1) := by decide +kernel
theorem dX13_init_493 : decode cX13_init 493 = .ok (.return_, 1) := by decide +kernel
theorem dX13_feed_0 : decode cX13_feed 0 = .ok (.aload_n 0, 1) := by decide +kernel
theorem dX13_feed_1 : decode cX13_feed 1 = .ok (.iconst 0, 1) := by decide +kernel
theorem dX13_feed_2 : decode cX13_feed 2 = .ok (.putfield 184, 3) := by decide +kernel
theorem dX13_feed_5 : decode cX13_feed 5 = .ok (.aload_n 0, 1) := by decide +kernel
theorem dX13_feed_6 : decode cX13_feed 6 = .ok (.getfield 188, 3) := by decide +kernel
theorem dX13_feed_9 : decode cX13_feed 9 = .ok (.bipush 20, 2) := by decide +kernel
theorem dX13_feed_11 : decode cX13_feed 11 = .ok (.iadd, 1) := by decide +kernel
theorem dX13_feed_12 : decode cX13_feed 12 = .ok (.sipush 200, 3) := by decide +kernel
theorem dX13_feed_15 : decode cX13_feed 15 = .ok (.if_icmp .le 5, 3) := by decide +kernel
theorem dX13_feed_18 : decode cX13_feed 18 = .ok (.iconst (-1), 1) := by decide +kernel
theorem dX13_feed_19 : decode cX13_feed 19 = .ok (.ireturn, 1) := by decide +kernel
theorem dX13_feed_20 : decode cX13_feed 20 = .ok (.iconst 0, 1) := by decide +kernel
theorem dX13_feed_21 : decode cX13_feed 21 = .ok (.istore 6, 2) := by decide +kernel
theorem dX13_feed_23 : decode cX13_feed 23 = .ok (.iload 6, 2) := by decide +kernel
theorem dX13_feed_25 : decode cX13_feed 25 = .ok (.bipush 20, 2) := by decide +kernel
theorem dX13_feed_27 : decode cX13_feed 27 = .ok (.if_icmp .ge 86, 3) := by decide +kernel
theorem dX13_feed_30 : decode cX13_feed 30 = .ok (.iload 6, 2) := by decide +kernel
theorem dX13_feed_32 : decode cX13_feed 32 = .ok (.iconst 4, 1) := by decide +kernel
theorem dX13_feed_33 : decode cX13_feed 33 = .ok (.if_icmp .ge 7, 3) := by decide +kernel
theorem dX13_feed_36 : decode cX13_feed 36 = .ok (.iload_n 1, 1) := by decide +kernel
theorem dX13_feed_37 : decode cX13_feed 37 = .ok (.goto 39, 3) := by decide +kernel
theorem dX13_feed_40 : decode cX13_feed 40 = .ok (.iload 6, 2) := by decide +kernel
theorem dX13_feed_42 : decode cX13_feed 42 = .ok (.bipush 8, 2) := by decide +kernel
theorem dX13_feed_44 : decode cX13_feed 44 = .ok (.if_icmp .ge 7, 3) := by decide +kernel
theorem dX13_feed_47 : decode cX13_feed 47 = .ok (.iload_n 2, 1) := by decide +kernel
theorem dX13_feed_48 : decode cX13_feed 48 = .ok (.goto 28, 3) := by decide +kernel
theorem dX13_feed_51 : decode cX13_feed 51 = .ok (.iload 6, 2) := by decide +kernel
theorem dX13_feed_53 : decode cX13_feed 53 = .ok (.bipush 12, 2) := by decide +kernel
theorem dX13_feed_55 : decode cX13_feed 55 = .ok (.if_icmp .ge 7, 3) := by decide +kernel
theorem dX13_feed_58 : decode cX13_feed 58 = .ok (.iload_n 3, 1) := by decide +kernel
theorem dX13_feed_59 : decode cX13_feed 59 = .ok (.goto 17, 3) := by decide +kernel
theorem dX13_feed_62 : decode cX13_feed 62 = .ok (.iload 6, 2) := by decide +kernel
theorem dX13_feed_64 : decode cX13_feed 64 = .ok (.bipush 16, 2) := by decide +kernel
theorem dX13_feed_66 : decode cX13_feed 66 = .ok (.if_icmp .ge 8, 3) := by decide +kernel
theorem dX13_feed_69 : decode cX13_feed 69 = .ok (.iload 4, 2) := by decide +kernel
theorem dX13_feed_71 : decode cX13_feed 71 = .ok (.goto 5, 3) := by decide +kernel
theorem dX13_feed_74 : decode cX13_feed 74 = .ok (.iload 5, 2) := by decide +kernel
theorem dX13_feed_76 : decode cX13_feed 76 = .ok (.istore 7, 2) := by decide +kernel
theorem dX13_feed_78 : decode cX13_feed 78 = .ok (.aload_n 0, 1) := by decide +kernel
theorem dX13_feed_79 : decode cX13_feed 79 = .ok (.getfield 7, 3) := by decide +kernel
theorem dX13_feed_82 : decode cX13_feed 82 = .ok (.aload_n 0, 1) := by decide +kernel
theorem dX13_feed_83 : decode cX13_feed 83 = .ok (.getfield 188, 3) := by decide +kernel
theorem dX13_feed_86 : decode cX13_feed 86 = .ok (.iload 6, 2) := by decide +kernel
theorem dX13_feed_88 : decode cX13_feed 88 = .ok (.iadd, 1) := by decide +kernel
theorem dX13_feed_89 : decode cX13_feed 89 = .ok (.iload 7, 2) := by decide +kernel
theorem dX13_feed_91 : decode cX13_feed 91 = .ok (.bipush 24, 2) := by decide +kernel
theorem dX13_feed_93 : decode cX13_feed 93 = .ok (.bipush 8, 2) := by decide +kernel
theorem dX13_feed_95 : decode cX13_feed 95 = .ok (.iload 6, 2) := by decide +kernel
theorem dX13_feed_97 : decode cX13_feed 97 = .ok (.iconst 4, 1) := by decide +kernel
theorem dX13_feed_98 : decode cX13_feed 98 = .ok (.irem, 1) := by decide +kernel
theorem dX13_feed_99 : decode cX13_feed 99 = .ok (.imul, 1) := by decide +kernel
theorem dX13_feed_100 : decode cX13_feed 100 = .ok (.isub, 1) := by decide +kernel
theorem dX13_feed_101 : decode cX13_feed 101 = .ok (.ishr, 1) := by decide +kernel
theorem dX13_feed_102 : decode cX13_feed 102 = .ok (.sipush 255, 3) := by decide +kernel
theorem dX13_feed_105 : decode cX13_feed 105 = .ok (.iand, 1) := by decide +kernel
theorem dX13_feed_106 : decode cX13_feed 106 = .ok (.iastore, 1) := by decide +kernel
theorem dX13_feed_107 : decode cX13_feed 107 = .ok (.iinc 6 1, 3) := by decide +kernel
theorem dX13_feed_110 : decode cX13_feed 110 = .ok (.goto (-87), 3) := by decide +kernel
theorem dX13_feed_113 : decode cX13_feed 113 = .ok (.aload_n 0, 1) := by decide +kernel
theorem dX13_feed_114 : decode cX13_feed 114 = .ok (.dup, 1) := by decide +kernel
theorem dX13_feed_115 : decode cX13_feed 115 = .ok (.getfield 188, 3) := by decide +kernel
theorem dX13_feed_118 : decode cX13_feed 118 = .ok (.bipush 20, 2) := by decide +kernel
theorem dX13_feed_120 : decode cX13_feed 120 = .ok (.iadd, 1) := by decide +kernel
theorem dX13_feed_121 : decode cX13_feed 121 = .ok (.putfield 188, 3) := by decide +kernel
theorem dX13_feed_124 : decode cX13_feed 124 = .ok (.aload_n 0, 1) := by decide +kernel
theorem dX13_feed_125 : decode cX13_feed 125 = .ok (.getfield 188, 3) := by decide +kernel
theorem dX13_feed_128 : decode cX13_feed 128 = .ok (.ireturn, 1) := by decide +kernel
theorem dX13_end_0 : decode cX13_end 0 = .ok (.aload_n 0, 1) := by decide +kernel
theorem dX13_end_1 : decode cX13_end 1 = .ok (.iconst 0, 1) := by decide +kernel
theorem dX13_end_2 : decode cX13_end 2 = .ok (.putfield 184, 3) := by decide +kernel
theorem dX13_end_5 : decode cX13_end 5 = .ok (.iload_n 1, 1) := by decide +kernel
theorem dX13_end_6 : decode cX13_end 6 = .ok (.ifCond .lt 11, 3) := by decide +kernel
theorem dX13_end_9 : decode cX13_end 9 = .ok (.iload_n 1, 1) := by decide +kernel
theorem dX13_end_10 : decode cX13_end 10 = .ok (.aload_n 0, 1) := by decide +kernel
theorem dX13_end_11 : decode cX13_end 11 = .ok (.getfield 188, 3) := by decide +kernel
theorem dX13_end_14 : decode cX13_end 14 = .ok (.if_icmp .le 5, 3) := by decide +kernel
theorem dX13_end_17 : decode cX13_end 17 = .ok (.iconst (-1), 1) := by decide +kernel
theorem dX13_end_18 : decode cX13_end 18 = .ok (.ireturn, 1) := by decide +kernel
theorem dX13_end_19 : decode cX13_end 19 = .ok (.aload_n 0, 1) := by decide +kernel
theorem dX13_end_20 : decode cX13_end 20 = .ok (.iload_n 1, 1) := by decide +kernel
theorem dX13_end_21 : decode cX13_end 21 = .ok (.putfield 188, 3) := by decide +kernel
theorem dX13_end_24 : decode cX13_end 24 = .ok (.iload_n 1, 1) := by decide +kernel
theorem dX13_end_25 : decode cX13_end 25 = .ok (.ireturn, 1) := by decide +kernel
theorem dX13_small_0 : decode cX13_small 0 = .ok (.iload_n 0, 1) := by decide +kernel
theorem dX13_small_1 : decode cX13_small 1 = .ok (.bipush 65, 2) := by decide +kernel
theorem dX13_small_3 : decode cX13_small 3 = .ok (.if_icmp .lt 16, 3) := by decide +kernel
theorem dX13_small_6 : decode cX13_small 6 = .ok (.iload_n 0, 1) := by decide +kernel
theorem dX13_small_7 : decode cX13_small 7 = .ok (.bipush 90, 2) := by decide +kernel
theorem dX13_small_9 : decode cX13_small 9 = .ok (.if_icmp .gt 10, 3) := by decide +kernel
theorem dX13_small_12 : decode cX13_small 12 = .ok (.iload_n 0, 1) := by decide +kernel
theorem dX13_small_13 : decode cX13_small 13 = .ok (.bipush 32, 2) := by decide +kernel
theorem dX13_small_15 : decode cX13_small 15 = .ok (.iadd, 1) := by decide +kernel
theorem dX13_small_16 : decode cX13_small 16 = .ok (.goto 4, 3) := by decide +kernel
theorem dX13_small_19 : decode cX13_small 19 = .ok (.iload_n 0, 1) := by decide +kernel
theorem dX13_small_20 : decode cX13_small 20 = .ok (.ireturn, 1) := by decide +kernel
theorem dX13_isSign_0 : decode cX13_isSign 0 = .ok (.iload_n 0, 1) := by decide +kernel
theorem dX13_isSign_1 : decode cX13_isSign 1 = .ok (.bipush 65, 2) := by decide +kernel
theorem dX13_isSign_3 : decode cX13_isSign 3 = .ok (.if_icmp .lt 9, 3) := by decide +kernel
theorem dX13_isSign_6 : decode cX13_isSign 6 = .ok (.iload_n 0, 1) := by decide +kernel
theorem dX13_isSign_7 : decode cX13_isSign 7 = .ok (.bipush 90, 2) := by decide +kernel
theorem dX13_isSign_9 : decode cX13_isSign 9 = .ok (.if_icmp .le 33, 3) := by decide +kernel
theorem dX13_isSign_12 : decode cX13_isSign 12 = .ok (.iload_n 0, 1) := by decide +kernel
theorem dX13_isSign_13 : decode cX13_isSign 13 = .ok (.bipush 97, 2) := by decide +kernel
theorem dX13_isSign_15 : decode cX13_isSign 15 = .ok (.if_icmp .lt 9, 3) := by decide +kernel
theorem dX13_isSign_18 : decode cX13_isSign 18 = .ok (.iload_n 0, 1) := by decide +kernel
theorem dX13_isSign_19 : decode cX13_isSign 19 = .ok (.bipush 122, 2) := by decide +kernel
theorem dX13_isSign_21 : decode cX13_isSign 21 = .ok (.if_icmp .le 21, 3) := by decide +kernel
theorem dX13_isSign_24 : decode cX13_isSign 24 = .ok (.iload_n 0, 1) := by decide +kernel
theorem dX13_isSign_25 : decode cX13_isSign 25 = .ok (.bipush 48, 2) := by decide +kernel
theorem dX13_isSign_27 : decode cX13_isSign 27 = .ok (.if_icmp .lt 9, 3) := by decide +kernel
theorem dX13_isSign_30 : decode cX13_isSign 30 = .ok (.iload_n 0, 1) := by decide +kernel
theorem dX13_isSign_31 : decode cX13_isSign 31 = .ok (.bipush 57, 2) := by decide +kernel
theorem dX13_isSign_33 : decode cX13_isSign 33 = .ok (.if_icmp .le 9, 3) := by decide +kernel
theorem dX13_isSign_36 : decode cX13_isSign 36 = .ok (.iload_n 0, 1) := by decide +kernel
theorem dX13_isSign_37 : decode cX13_isSign 37 = .ok (.bipush 45, 2) := by decide +kernel
theorem dX13_isSign_39 : decode cX13_isSign 39 = .ok (.if_icmp .ne 7, 3) := by decide +kernel
theorem dX13_isSign_42 : decode cX13_isSign 42 = .ok (.iconst 1, 1) := by decide +kernel
theorem dX13_isSign_43 : decode cX13_isSign 43 = .ok (.goto 4, 3) := by decide +kernel
theorem dX13_isSign_46 : decode cX13_isSign 46 = .ok (.iconst 0, 1) := by decide +kernel
theorem dX13_isSign_47 : decode cX13_isSign 47 = .ok (.ireturn, 1) := by decide +kernel
theorem dX13_alike_0 : decode cX13_alike 0 = .ok (.aload_n 0, 1) := by decide +kernel
theorem dX13_alike_1 : decode cX13_alike 1 = .ok (.iload_n 1, 1) := by decide +kernel
theorem dX13_alike_2 : decode cX13_alike 2 = .ok (.iaload, 1) := by decide +kernel
theorem dX13_alike_3 : decode cX13_alike 3 = .ok (.aload_n 2, 1) := by decide +kernel
theorem dX13_alike_4 : decode cX13_alike 4 = .ok (.iload_n 3, 1) := by decide +kernel
theorem dX13_alike_5 : decode cX13_alike 5 = .ok (.iaload, 1) := by decide +kernel
theorem dX13_alike_6 : decode cX13_alike 6 = .ok (.if_icmp .ne 7, 3) := by decide +kernel
theorem dX13_alike_9 : decode cX13_alike 9 = .ok (.iconst 1, 1) := by decide +kernel
theorem dX13_alike_10 : decode cX13_alike 10 = .ok (.goto 4, 3) := by decide +kernel
theorem dX13_alike_13 : decode cX13_alike 13 = .ok (.iconst 0, 1) := by decide +kernel
theorem dX13_alike_14 : decode cX13_alike 14 = .ok (.istore 4, 2) := by decide +kernel
theorem dX13_alike_16 : decode cX13_alike 16 = .ok (.iconst 1, 1) := by decide +kernel
theorem dX13_alike_17 : decode cX13_alike 17 = .ok (.istore 5, 2) := by decide +kernel
theorem dX13_alike_19 : decode cX13_alike 19 = .ok (.iload 5, 2) := by decide +kernel
theorem dX13_alike_21 : decode cX13_alike 21 = .ok (.aload_n 0, 1) := by decide +kernel
theorem dX13_alike_22 : decode cX13_alike 22 = .ok (.iload_n 1, 1) := by decide +kernel
theorem dX13_alike_23 : decode cX13_alike 23 = .ok (.iaload, 1) := by decide +kernel
theorem dX13_alike_24 : decode cX13_alike 24 = .ok (.if_icmp .gt 42, 3) := by decide +kernel
theorem dX13_alike_27 : decode cX13_alike 27 = .ok (.iload 4, 2) := by decide +kernel
theorem dX13_alike_29 : decode cX13_alike 29 = .ok (.ifCond .eq 37, 3) := by decide +kernel
theorem dX13_alike_32 : decode cX13_alike 32 = .ok (.aload_n 0, 1) := by decide +kernel
theorem dX13_alike_33 : decode cX13_alike 33 = .ok (.iload_n 1, 1) := by decide +kernel
theorem dX13_alike_34 : decode cX13_alike 34 = .ok (.iload 5, 2) := by decide +kernel
theorem dX13_alike_36 : decode cX13_alike 36 = .ok (.iadd, 1) := by decide +kernel
theorem dX13_alike_37 : decode cX13_alike 37 = .ok (.iaload, 1) := by decide +kernel
theorem dX13_alike_38 : decode cX13_alike 38 = .ok (.invokestatic 191, 3) := by decide +kernel
theorem dX13_alike_41 : decode cX13_alike 41 = .ok (.aload_n 2, 1) := by decide +kernel
theorem dX13_alike_42 : decode cX13_alike 42 = .ok (.iload_n 3, 1) := by decide +kernel
theorem dX13_alike_43 : decode cX13_alike 43 = .ok (.iload 5, 2) := by decide +kernel
theorem dX13_alike_45 : decode cX13_alike 45 = .ok (.iadd, 1) := by decide +kernel
theorem dX13_alike_46 : decode cX13_alike 46 = .ok (.iaload, 1) := by decide +kernel
theorem dX13_alike_47 : decode cX13_alike 47 = .ok (.invokestatic 191, 3) := by decide +kernel
theorem dX13_alike_50 : decode cX13_alike 50 = .ok (.if_icmp .ne 7, 3) := by decide +kernel
theorem dX13_alike_53 : decode cX13_alike 53 = .ok (.iconst 1, 1) := by decide +kernel
theorem dX13_alike_54 : decode cX13_alike 54 = .ok (.goto 4, 3) := by decide +kernel
theorem dX13_alike_57 : decode cX13_alike 57 = .ok (.iconst 0, 1) := by decide +kernel
theorem dX13_alike_58 : decode cX13_alike 58 = .ok (.istore 4, 2) := by decide +kernel
theorem dX13_alike_60 : decode cX13_alike 60 = .ok (.iinc 5 1, 3) := by decide +kernel
theorem dX13_alike_63 : decode cX13_alike 63 = .ok (.goto (-44), 3) := by decide +kernel
theorem dX13_alike_66 : decode cX13_alike 66 = .ok (.iload 4, 2) := by decide +kernel
theorem dX13_alike_68 : decode cX13_alike 68 = .ok (.ireturn, 1) := by decide +kernel
theorem dX13_same_0 : decode cX13_same 0 = .ok (.aload_n 0, 1) := by decide +kernel
theorem dX13_same_1 : decode cX13_same 1 = .ok (.iload_n 1, 1) := by decide +kernel
theorem dX13_same_2 : decode cX13_same 2 = .ok (.iaload, 1) := by decide +kernel
theorem dX13_same_3 : decode cX13_same 3 = .ok (.aload_n 2, 1) := by decide +kernel
theorem dX13_same_4 : decode cX13_same 4 = .ok (.iload_n 3, 1) := by decide +kernel
theorem dX13_same_5 : decode cX13_same 5 = .ok (.iaload, 1) := by decide +kernel
theorem dX13_same_6 : decode cX13_same 6 = .ok (.if_icmp .ne 7, 3) := by decide +kernel
theorem dX13_same_9 : decode cX13_same 9 = .ok (.iconst 1, 1) := by decide +kernel
theorem dX13_same_10 : decode cX13_same 10 = .ok (.goto 4, 3) := by decide +kernel
theorem dX13_same_13 : decode cX13_same 13 = .ok (.iconst 0, 1) := by decide +kernel
theorem dX13_same_14 : decode cX13_same 14 = .ok (.istore 4, 2) := by decide +kernel
theorem dX13_same_16 : decode cX13_same 16 = .ok (.iconst 1, 1) := by decide +kernel
theorem dX13_same_17 : decode cX13_same 17 = .ok (.istore 5, 2) := by decide +kernel
theorem dX13_same_19 : decode cX13_same 19 = .ok (.iload 5, 2) := by decide +kernel
theorem dX13_same_21 : decode cX13_same 21 = .ok (.aload_n 0, 1) := by decide +kernel
theorem dX13_same_22 : decode cX13_same 22 = .ok (.iload_n 1, 1) := by decide +kernel
theorem dX13_same_23 : decode cX13_same 23 = .ok (.iaload, 1) := by decide +kernel
theorem dX13_same_24 : decode cX13_same 24 = .ok (.if_icmp .gt 36, 3) := by decide +kernel
theorem dX13_same_27 : decode cX13_same 27 = .ok (.iload 4, 2) := by decide +kernel
theorem dX13_same_29 : decode cX13_same 29 = .ok (.ifCond .eq 31, 3) := by decide +kernel
theorem dX13_same_32 : decode cX13_same 32 = .ok (.aload_n 0, 1) := by decide +kernel
theorem dX13_same_33 : decode cX13_same 33 = .ok (.iload_n 1, 1) := by decide +kernel
theorem dX13_same_34 : decode cX13_same 34 = .ok (.iload 5, 2) := by decide +kernel
theorem dX13_same_36 : decode cX13_same 36 = .ok (.iadd, 1) := by decide +kernel
theorem dX13_same_37 : decode cX13_same 37 = .ok (.iaload, 1) := by decide +kernel
theorem dX13_same_38 : decode cX13_same 38 = .ok (.aload_n 2, 1) := by decide +kernel
theorem dX13_same_39 : decode cX13_same 39 = .ok (.iload_n 3, 1) := by decide +kernel
theorem dX13_same_40 : decode cX13_same 40 = .ok (.iload 5, 2) := by decide +kernel
theorem dX13_same_42 : decode cX13_same 42 = .ok (.iadd, 1) := by decide +kernel
theorem dX13_same_43 : decode cX13_same 43 = .ok (.iaload, 1) := by decide +kernel
theorem dX13_same_44 : decode cX13_same 44 = .ok (.if_icmp .ne 7, 3) := by decide +kernel
theorem dX13_same_47 : decode cX13_same 47 = .ok (.iconst 1, 1) := by decide +kernel
theorem dX13_same_48 : decode cX13_same 48 = .ok (.goto 4, 3) := by decide +kernel
theorem dX13_same_51 : decode cX13_same 51 = .ok (.iconst 0, 1) := by decide +kernel
theorem dX13_same_52 : decode cX13_same 52 = .ok (.istore 4, 2) := by decide +kernel
theorem dX13_same_54 : decode cX13_same 54 = .ok (.iinc 5 1, 3) := by decide +kernel
theorem dX13_same_57 : decode cX13_same 57 = .ok (.goto (-38), 3) := by decide +kernel
theorem dX13_same_60 : decode cX13_same 60 = .ok (.iload 4, 2) := by decide +kernel
theorem dX13_same_62 : decode cX13_same 62 = .ok (.ireturn, 1) := by decide +kernel
theorem dX13_copy_0 : decode cX13_copy 0 = .ok (.iconst 0, 1) := by decide +kernel
theorem dX13_copy_1 : decode cX13_copy 1 = .ok (.istore 4, 2) := by decide +kernel
theorem dX13_copy_3 : decode cX13_copy 3 = .ok (.iload 4, 2) := by decide +kernel
theorem dX13_copy_5 : decode cX13_copy 5 = .ok (.bipush 16, 2) := by decide +kernel
theorem dX13_copy_7 : decode cX13_copy 7 = .ok (.if_icmp .ge 21, 3) := by decide +kernel
theorem dX13_copy_10 : decode cX13_copy 10 = .ok (.aload_n 2, 1) := by decide +kernel
theorem dX13_copy_11 : decode cX13_copy 11 = .ok (.iload_n 3, 1) := by decide +kernel
theorem dX13_copy_12 : decode cX13_copy 12 = .ok (.iload 4, 2) := by decide +kernel
theorem dX13_copy_14 : decode cX13_copy 14 = .ok (.iadd, 1) := by decide +kernel
theorem dX13_copy_15 : decode cX13_copy 15 = .ok (.aload_n 0, 1) := by decide +kernel
theorem dX13_copy_16 : decode cX13_copy 16 = .ok (.iload_n 1, 1) := by decide +kernel
theorem dX13_copy_17 : decode cX13_copy 17 = .ok (.iload 4, 2) := by decide +kernel
theorem dX13_copy_19 : decode cX13_copy 19 = .ok (.iadd, 1) := by decide +kernel
theorem dX13_copy_20 : decode cX13_copy 20 = .ok (.iaload, 1) := by decide +kernel
theorem dX13_copy_21 : decode cX13_copy 21 = .ok (.iastore, 1) := by decide +kernel
theorem dX13_copy_22 : decode cX13_copy 22 = .ok (.iinc 4 1, 3) := by decide +kernel
theorem dX13_copy_25 : decode cX13_copy 25 = .ok (.goto (-22), 3) := by decide +kernel
theorem dX13_copy_28 : decode cX13_copy 28 = .ok (.return_, 1) := by decide +kernel
theorem dX13_takesWord_0 : decode cX13_takesWord 0 = .ok (.aload_n 0, 1) := by decide +kernel
theorem dX13_takesWord_1 : decode cX13_takesWord 1 = .ok (.getfield 188, 3) := by decide +kernel
theorem dX13_takesWord_4 : decode cX13_takesWord 4 = .ok (.istore_n 1, 1) := by decide +kernel
theorem dX13_takesWord_5 : decode cX13_takesWord 5 = .ok (.aload_n 0, 1) := by decide +kernel
theorem dX13_takesWord_6 : decode cX13_takesWord 6 = .ok (.iconst 0, 1) := by decide +kernel
theorem dX13_takesWord_7 : decode cX13_takesWord 7 = .ok (.putfield 188, 3) := by decide +kernel
theorem dX13_takesWord_10 : decode cX13_takesWord 10 = .ok (.iload_n 1, 1) := by decide +kernel
theorem dX13_takesWord_11 : decode cX13_takesWord 11 = .ok (.iconst 1, 1) := by decide +kernel
theorem dX13_takesWord_12 : decode cX13_takesWord 12 = .ok (.if_icmp .lt 9, 3) := by decide +kernel
theorem dX13_takesWord_15 : decode cX13_takesWord 15 = .ok (.iload_n 1, 1) := by decide +kernel
theorem dX13_takesWord_16 : decode cX13_takesWord 16 = .ok (.bipush 15, 2) := by decide +kernel
theorem dX13_takesWord_18 : decode cX13_takesWord 18 = .ok (.if_icmp .le 5, 3) := by decide +kernel
theorem dX13_takesWord_21 : decode cX13_takesWord 21 = .ok (.iconst 0, 1) := by decide +kernel
theorem dX13_takesWord_22 : decode cX13_takesWord 22 = .ok (.ireturn, 1) := by decide +kernel
theorem dX13_takesWord_23 : decode cX13_takesWord 23 = .ok (.aload_n 0, 1) := by decide +kernel
theorem dX13_takesWord_24 : decode cX13_takesWord 24 = .ok (.getfield 148, 3) := by decide +kernel
theorem dX13_takesWord_27 : decode cX13_takesWord 27 = .ok (.iconst 0, 1) := by decide +kernel
theorem dX13_takesWord_28 : decode cX13_takesWord 28 = .ok (.iload_n 1, 1) := by decide +kernel
theorem dX13_takesWord_29 : decode cX13_takesWord 29 = .ok (.iastore, 1) := by decide +kernel
theorem dX13_takesWord_30 : decode cX13_takesWord 30 = .ok (.iconst 1, 1) := by decide +kernel
theorem dX13_takesWord_31 : decode cX13_takesWord 31 = .ok (.istore_n 2, 1) := by decide +kernel
theorem dX13_takesWord_32 : decode cX13_takesWord 32 = .ok (.iconst 0, 1) := by decide +kernel
theorem dX13_takesWord_33 : decode cX13_takesWord 33 = .ok (.istore_n 3, 1) := by decide +kernel
theorem dX13_takesWord_34 : decode cX13_takesWord 34 = .ok (.iload_n 3, 1) := by decide +kernel
theorem dX13_takesWord_35 : decode cX13_takesWord 35 = .ok (.iload_n 1, 1) := by decide +kernel
theorem dX13_takesWord_36 : decode cX13_takesWord 36 = .ok (.if_icmp .ge 45, 3) := by decide +kernel
theorem dX13_takesWord_39 : decode cX13_takesWord 39 = .ok (.aload_n 0, 1) := by decide +kernel
theorem dX13_takesWord_40 : decode cX13_takesWord 40 = .ok (.getfield 148, 3) := by decide +kernel
theorem dX13_takesWord_43 : decode cX13_takesWord 43 = .ok (.iconst 1, 1) := by decide +kernel
theorem dX13_takesWord_44 : decode cX13_takesWord 44 = .ok (.iload_n 3, 1) := by decide +kernel
theorem dX13_takesWord_45 : decode cX13_takesWord 45 = .ok (.iadd, 1) := by decide +kernel
theorem dX13_takesWord_46 : decode cX13_takesWord 46 = .ok (.aload_n 0, 1) := by decide +kernel
theorem dX13_takesWord_47 : decode cX13_takesWord 47 = .ok (.getfield 7, 3) := by decide +kernel
theorem dX13_takesWord_50 : decode cX13_takesWord 50 = .ok (.iload_n 3, 1) := by decide +kernel
theorem dX13_takesWord_51 : decode cX13_takesWord 51 = .ok (.iaload, 1) := by decide +kernel
theorem dX13_takesWord_52 : decode cX13_takesWord 52 = .ok (.iastore, 1) := by decide +kernel
theorem dX13_takesWord_53 : decode cX13_takesWord 53 = .ok (.iload_n 2, 1) := by decide +kernel
theorem dX13_takesWord_54 : decode cX13_takesWord 54 = .ok (.ifCond .eq 19, 3) := by decide +kernel
theorem dX13_takesWord_57 : decode cX13_takesWord 57 = .ok (.aload_n 0, 1) := by decide +kernel
theorem dX13_takesWord_58 : decode cX13_takesWord 58 = .ok (.getfield 7, 3) := by decide +kernel
theorem dX13_takesWord_61 : decode cX13_takesWord 61 = .ok (.iload_n 3, 1) := by decide +kernel
theorem dX13_takesWord_62 : decode cX13_takesWord 62 = .ok (.iaload, 1) := by decide +kernel
theorem dX13_takesWord_63 : decode cX13_takesWord 63 = .ok (.invokestatic 195, 3) := by decide +kernel
theorem dX13_takesWord_66 : decode cX13_takesWord 66 = .ok (.ifCond .eq 7, 3) := by decide +kernel
theorem dX13_takesWord_69 : decode cX13_takesWord 69 = .ok (.iconst 1, 1) := by decide +kernel
theorem dX13_takesWord_70 : decode cX13_takesWord 70 = .ok (.goto 4, 3) := by decide +kernel
theorem dX13_takesWord_73 : decode cX13_takesWord 73 = .ok (.iconst 0, 1) := by decide +kernel
theorem dX13_takesWord_74 : decode cX13_takesWord 74 = .ok (.istore_n 2, 1) := by decide +kernel
theorem dX13_takesWord_75 : decode cX13_takesWord 75 = .ok (.iinc 3 1, 3) := by decide +kernel
theorem dX13_takesWord_78 : decode cX13_takesWord 78 = .ok (.goto (-44), 3) := by decide +kernel
theorem dX13_takesWord_81 : decode cX13_takesWord 81 = .ok (.iload_n 2, 1) := by decide +kernel
theorem dX13_takesWord_82 : decode cX13_takesWord 82 = .ok (.ireturn, 1) := by decide +kernel
theorem dX13_begin_0 : decode cX13_begin 0 = .ok (.aload_n 0, 1) := by decide +kernel
theorem dX13_begin_1 : decode cX13_begin 1 = .ok (.getfield 151, 3) := by decide +kernel
theorem dX13_begin_4 : decode cX13_begin 4 = .ok (.iconst 0, 1) := by decide +kernel
theorem dX13_begin_5 : decode cX13_begin 5 = .ok (.iload_n 1, 1) := by decide +kernel
theorem dX13_begin_6 : decode cX13_begin 6 = .ok (.iastore, 1) := by decide +kernel
theorem dX13_begin_7 : decode cX13_begin 7 = .ok (.aload_n 0, 1) := by decide +kernel
theorem dX13_begin_8 : decode cX13_begin 8 = .ok (.iconst 1, 1) := by decide +kernel
theorem dX13_begin_9 : decode cX13_begin 9 = .ok (.putfield 199, 3) := by decide +kernel
theorem dX13_begin_12 : decode cX13_begin 12 = .ok (.aload_n 0, 1) := by decide +kernel
theorem dX13_begin_13 : decode cX13_begin 13 = .ok (.iconst 0, 1) := by decide +kernel
theorem dX13_begin_14 : decode cX13_begin 14 = .ok (.putfield 202, 3) := by decide +kernel
theorem dX13_begin_17 : decode cX13_begin 17 = .ok (.return_, 1) := by decide +kernel
theorem dX13_put_0 : decode cX13_put 0 = .ok (.iload_n 2, 1) := by decide +kernel
theorem dX13_put_1 : decode cX13_put 1 = .ok (.iconst 1, 1) := by decide +kernel
theorem dX13_put_2 : decode cX13_put 2 = .ok (.isub, 1) := by decide +kernel
theorem dX13_put_3 : decode cX13_put 3 = .ok (.istore_n 3, 1) := by decide +kernel
theorem dX13_put_4 : decode cX13_put 4 = .ok (.iload_n 3, 1) := by decide +kernel
theorem dX13_put_5 : decode cX13_put 5 = .ok (.ifCond .lt 38, 3) := by decide +kernel
theorem dX13_put_8 : decode cX13_put 8 = .ok (.aload_n 0, 1) := by decide +kernel
theorem dX13_put_9 : decode cX13_put 9 = .ok (.getfield 151, 3) := by decide +kernel
theorem dX13_put_12 : decode cX13_put 12 = .ok (.aload_n 0, 1) := by decide +kernel
theorem dX13_put_13 : decode cX13_put 13 = .ok (.getfield 199, 3) := by decide +kernel
theorem dX13_put_16 : decode cX13_put 16 = .ok (.iload_n 1, 1) := by decide +kernel
theorem dX13_put_17 : decode cX13_put 17 = .ok (.bipush 8, 2) := by decide +kernel
theorem dX13_put_19 : decode cX13_put 19 = .ok (.iload_n 3, 1) := by decide +kernel
theorem dX13_put_20 : decode cX13_put 20 = .ok (.imul, 1) := by decide +kernel
theorem dX13_put_21 : decode cX13_put 21 = .ok (.ishr, 1) := by decide +kernel
theorem dX13_put_22 : decode cX13_put 22 = .ok (.sipush 255, 3) := by decide +kernel
theorem dX13_put_25 : decode cX13_put 25 = .ok (.iand, 1) := by decide +kernel
theorem dX13_put_26 : decode cX13_put 26 = .ok (.iastore, 1) := by decide +kernel
theorem dX13_put_27 : decode cX13_put 27 = .ok (.aload_n 0, 1) := by decide +kernel
theorem dX13_put_28 : decode cX13_put 28 = .ok (.dup, 1) := by decide +kernel
theorem dX13_put_29 : decode cX13_put 29 = .ok (.getfield 199, 3) := by decide +kernel
theorem dX13_put_32 : decode cX13_put 32 = .ok (.iconst 1, 1) := by decide +kernel
theorem dX13_put_33 : decode cX13_put 33 = .ok (.iadd, 1) := by decide +kernel
theorem dX13_put_34 : decode cX13_put 34 = .ok (.putfield 199, 3) := by decide +kernel
theorem dX13_put_37 : decode cX13_put 37 = .ok (.iinc 3 (-1), 3) := by decide +kernel
theorem dX13_put_40 : decode cX13_put 40 = .ok (.goto (-36), 3) := by decide +kernel
theorem dX13_put_43 : decode cX13_put 43 = .ok (.return_, 1) := by decide +kernel
theorem dX13_putWord_0 : decode cX13_putWord 0 = .ok (.iconst 0, 1) := by decide +kernel
theorem dX13_putWord_1 : decode cX13_putWord 1 = .ok (.istore_n 3, 1) := by decide +kernel
theorem dX13_putWord_2 : decode cX13_putWord 2 = .ok (.iload_n 3, 1) := by decide +kernel
theorem dX13_putWord_3 : decode cX13_putWord 3 = .ok (.aload_n 0, 1) := by decide +kernel
theorem dX13_putWord_4 : decode cX13_putWord 4 = .ok (.getfield 202, 3) := by decide +kernel
theorem dX13_putWord_7 : decode cX13_putWord 7 = .ok (.if_icmp .ge 41, 3) := by decide +kernel
theorem dX13_putWord_10 : decode cX13_putWord 10 = .ok (.aload_n 1, 1) := by decide +kernel
theorem dX13_putWord_11 : decode cX13_putWord 11 = .ok (.iload_n 2, 1) := by decide +kernel
theorem dX13_putWord_12 : decode cX13_putWord 12 = .ok (.aload_n 0, 1) := by decide +kernel
theorem dX13_putWord_13 : decode cX13_putWord 13 = .ok (.getfield 157, 3) := by decide +kernel
theorem dX13_putWord_16 : decode cX13_putWord 16 = .ok (.bipush 16, 2) := by decide +kernel
theorem dX13_putWord_18 : decode cX13_putWord 18 = .ok (.iload_n 3, 1) := by decide +kernel
theorem dX13_putWord_19 : decode cX13_putWord 19 = .ok (.imul, 1) := by decide +kernel
theorem dX13_putWord_20 : decode cX13_putWord 20 = .ok (.invokestatic 205, 3) := by decide +kernel
theorem dX13_putWord_23 : decode cX13_putWord 23 = .ok (.ifCond .eq 19, 3) := by decide +kernel
theorem dX13_putWord_26 : decode cX13_putWord 26 = .ok (.aload_n 0, 1) := by decide +kernel
theorem dX13_putWord_27 : decode cX13_putWord 27 = .ok (.sipush 128, 3) := by decide +kernel
theorem dX13_putWord_30 : decode cX13_putWord 30 = .ok (.aload_n 0, 1) := by decide +kernel
theorem dX13_putWord_31 : decode cX13_putWord 31 = .ok (.getfield 154, 3) := by decide +kernel
theorem dX13_putWord_34 : decode cX13_putWord 34 = .ok (.iload_n 3, 1) := by decide +kernel
theorem dX13_putWord_35 : decode cX13_putWord 35 = .ok (.iaload, 1) := by decide +kernel
theorem dX13_putWord_36 : decode cX13_putWord 36 = .ok (.iadd, 1) := by decide +kernel
theorem dX13_putWord_37 : decode cX13_putWord 37 = .ok (.iconst 1, 1) := by decide +kernel
theorem dX13_putWord_38 : decode cX13_putWord 38 = .ok (.invokevirtual 209, 3) := by decide +kernel
theorem dX13_putWord_41 : decode cX13_putWord 41 = .ok (.return_, 1) := by decide +kernel
theorem dX13_putWord_42 : decode cX13_putWord 42 = .ok (.iinc 3 1, 3) := by decide +kernel
theorem dX13_putWord_45 : decode cX13_putWord 45 = .ok (.goto (-43), 3) := by decide +kernel
theorem dX13_putWord_48 : decode cX13_putWord 48 = .ok (.aload_n 0, 1) := by decide +kernel
theorem dX13_putWord_49 : decode cX13_putWord 49 = .ok (.getfield 199, 3) := by decide +kernel
theorem dX13_putWord_52 : decode cX13_putWord 52 = .ok (.sipush 128, 3) := by decide +kernel
theorem dX13_putWord_55 : decode cX13_putWord 55 = .ok (.if_icmp .ge 42, 3) := by decide +kernel
theorem dX13_putWord_58 : decode cX13_putWord 58 = .ok (.aload_n 0, 1) := by decide +kernel
theorem dX13_putWord_59 : decode cX13_putWord 59 = .ok (.getfield 154, 3) := by decide +kernel
theorem dX13_putWord_62 : decode cX13_putWord 62 = .ok (.aload_n 0, 1) := by decide +kernel
theorem dX13_putWord_63 : decode cX13_putWord 63 = .ok (.getfield 202, 3) := by decide +kernel
theorem dX13_putWord_66 : decode cX13_putWord 66 = .ok (.aload_n 0, 1) := by decide +kernel
theorem dX13_putWord_67 : decode cX13_putWord 67 = .ok (.getfield 199, 3) := by decide +kernel
theorem dX13_putWord_70 : decode cX13_putWord 70 = .ok (.iastore, 1) := by decide +kernel
theorem dX13_putWord_71 : decode cX13_putWord 71 = .ok (.aload_n 1, 1) := by decide +kernel
theorem dX13_putWord_72 : decode cX13_putWord 72 = .ok (.iload_n 2, 1) := by decide +kernel
theorem dX13_putWord_73 : decode cX13_putWord 73 = .ok (.aload_n 0, 1) := by decide +kernel
theorem dX13_putWord_74 : decode cX13_putWord 74 = .ok (.getfield 157, 3) := by decide +kernel
theorem dX13_putWord_77 : decode cX13_putWord 77 = .ok (.bipush 16, 2) := by decide +kernel
theorem dX13_putWord_79 : decode cX13_putWord 79 = .ok (.aload_n 0, 1) := by decide +kernel
theorem dX13_putWord_80 : decode cX13_putWord 80 = .ok (.getfield 202, 3) := by decide +kernel
theorem dX13_putWord_83 : decode cX13_putWord 83 = .ok (.imul, 1) := by decide +kernel
theorem dX13_putWord_84 : decode cX13_putWord 84 = .ok (.invokestatic 213, 3) := by decide +kernel
theorem dX13_putWord_87 : decode cX13_putWord 87 = .ok (.aload_n 0, 1) := by decide +kernel
theorem dX13_putWord_88 : decode cX13_putWord 88 = .ok (.dup, 1) := by decide +kernel
theorem dX13_putWord_89 : decode cX13_putWord 89 = .ok (.getfield 202, 3) := by decide +kernel
theorem dX13_putWord_92 : decode cX13_putWord 92 = .ok (.iconst 1, 1) := by decide +kernel
theorem dX13_putWord_93 : decode cX13_putWord 93 = .ok (.iadd, 1) := by decide +kernel
theorem dX13_putWord_94 : decode cX13_putWord 94 = .ok (.putfield 202, 3) := by decide +kernel
theorem dX13_putWord_97 : decode cX13_putWord 97 = .ok (.iconst 0, 1) := by decide +kernel
theorem dX13_putWord_98 : decode cX13_putWord 98 = .ok (.istore_n 3, 1) := by decide +kernel
theorem dX13_putWord_99 : decode cX13_putWord 99 = .ok (.iload_n 3, 1) := by decide +kernel
theorem dX13_putWord_100 : decode cX13_putWord 100 = .ok (.aload_n 1, 1) := by decide +kernel
theorem dX13_putWord_101 : decode cX13_putWord 101 = .ok (.iload_n 2, 1) := by decide +kernel
theorem dX13_putWord_102 : decode cX13_putWord 102 = .ok (.iaload, 1) := by decide +kernel
theorem dX13_putWord_103 : decode cX13_putWord 103 = .ok (.if_icmp .gt 19, 3) := by decide +kernel
theorem dX13_putWord_106 : decode cX13_putWord 106 = .ok (.aload_n 0, 1) := by decide +kernel
theorem dX13_putWord_107 : decode cX13_putWord 107 = .ok (.aload_n 1, 1) := by decide +kernel
theorem dX13_putWord_108 : decode cX13_putWord 108 = .ok (.iload_n 2, 1) := by decide +kernel
theorem dX13_putWord_109 : decode cX13_putWord 109 = .ok (.iload_n 3, 1) := by decide +kernel
theorem dX13_putWord_110 : decode cX13_putWord 110 = .ok (.iadd, 1) := by decide +kernel
theorem dX13_putWord_111 : decode cX13_putWord 111 = .ok (.iaload, 1) := by decide +kernel
theorem dX13_putWord_112 : decode cX13_putWord 112 = .ok (.iconst 1, 1) := by decide +kernel
theorem dX13_putWord_113 : decode cX13_putWord 113 = .ok (.invokevirtual 209, 3) := by decide +kernel
theorem dX13_putWord_116 : decode cX13_putWord 116 = .ok (.iinc 3 1, 3) := by decide +kernel
theorem dX13_putWord_119 : decode cX13_putWord 119 = .ok (.goto (-20), 3) := by decide +kernel
theorem dX13_putWord_122 : decode cX13_putWord 122 = .ok (.return_, 1) := by decide +kernel
theorem dX13_send_0 : decode cX13_send 0 = .ok (.aload_n 0, 1) := by decide +kernel
theorem dX13_send_1 : decode cX13_send 1 = .ok (.getfield 217, 3) := by decide +kernel
theorem dX13_send_4 : decode cX13_send 4 = .ok (.aload_n 0, 1) := by decide +kernel
theorem dX13_send_5 : decode cX13_send 5 = .ok (.getfield 220, 3) := by decide +kernel
theorem dX13_send_8 : decode cX13_send 8 = .ok (.iadd, 1) := by decide +kernel
theorem dX13_send_9 : decode cX13_send 9 = .ok (.sipush 800, 3) := by decide +kernel
theorem dX13_send_12 : decode cX13_send 12 = .ok (.irem, 1) := by decide +kernel
theorem dX13_send_13 : decode cX13_send 13 = .ok (.istore_n 2, 1) := by decide +kernel
theorem dX13_send_14 : decode cX13_send 14 = .ok (.aload_n 0, 1) := by decide +kernel
theorem dX13_send_15 : decode cX13_send 15 = .ok (.dup, 1) := by decide +kernel
theorem dX13_send_16 : decode cX13_send 16 = .ok (.getfield 220, 3) := by decide +kernel
theorem dX13_send_19 : decode cX13_send 19 = .ok (.iconst 1, 1) := by decide +kernel
theorem dX13_send_20 : decode cX13_send 20 = .ok (.iadd, 1) := by decide +kernel
theorem dX13_send_21 : decode cX13_send 21 = .ok (.putfield 220, 3) := by decide +kernel
theorem dX13_send_24 : decode cX13_send 24 = .ok (.aload_n 0, 1) := by decide +kernel
theorem dX13_send_25 : decode cX13_send 25 = .ok (.getfield 136, 3) := by decide +kernel
theorem dX13_send_28 : decode cX13_send 28 = .ok (.iload_n 2, 1) := by decide +kernel
theorem dX13_send_29 : decode cX13_send 29 = .ok (.iload_n 1, 1) := by decide +kernel
theorem dX13_send_30 : decode cX13_send 30 = .ok (.iastore, 1) := by decide +kernel
theorem dX13_send_31 : decode cX13_send 31 = .ok (.aload_n 0, 1) := by decide +kernel
theorem dX13_send_32 : decode cX13_send 32 = .ok (.getfield 139, 3) := by decide +kernel
theorem dX13_send_35 : decode cX13_send 35 = .ok (.iload_n 2, 1) := by decide +kernel
theorem dX13_send_36 : decode cX13_send 36 = .ok (.aload_n 0, 1) := by decide +kernel
theorem dX13_send_37 : decode cX13_send 37 = .ok (.getfield 20, 3) := by decide +kernel
theorem dX13_send_40 : decode cX13_send 40 = .ok (.iload_n 1, 1) := by decide +kernel
theorem dX13_send_41 : decode cX13_send 41 = .ok (.iaload, 1) := by decide +kernel
theorem dX13_send_42 : decode cX13_send 42 = .ok (.iastore, 1) := by decide +kernel
theorem dX13_send_43 : decode cX13_send 43 = .ok (.aload_n 0, 1) := by decide +kernel
theorem dX13_send_44 : decode cX13_send 44 = .ok (.getfield 133, 3) := by decide +kernel
theorem dX13_send_47 : decode cX13_send 47 = .ok (.iload_n 2, 1) := by decide +kernel
theorem dX13_send_48 : decode cX13_send 48 = .ok (.aload_n 0, 1) := by decide +kernel
theorem dX13_send_49 : decode cX13_send 49 = .ok (.getfield 199, 3) := by decide +kernel
theorem dX13_send_52 : decode cX13_send 52 = .ok (.iastore, 1) := by decide +kernel
theorem dX13_send_53 : decode cX13_send 53 = .ok (.iconst 0, 1) := by decide +kernel
theorem dX13_send_54 : decode cX13_send 54 = .ok (.istore_n 3, 1) := by decide +kernel
theorem dX13_send_55 : decode cX13_send 55 = .ok (.iload_n 3, 1) := by decide +kernel
theorem dX13_send_56 : decode cX13_send 56 = .ok (.aload_n 0, 1) := by decide +kernel
theorem dX13_send_57 : decode cX13_send 57 = .ok (.getfield 199, 3) := by decide +kernel
theorem dX13_send_60 : decode cX13_send 60 = .ok (.if_icmp .ge 39, 3) := by decide +kernel
theorem dX13_send_63 : decode cX13_send 63 = .ok (.aload_n 0, 1) := by decide +kernel
theorem dX13_send_64 : decode cX13_send 64 = .ok (.getfield 130, 3) := by decide +kernel
theorem dX13_send_67 : decode cX13_send 67 = .ok (.sipush 200, 3) := by decide +kernel
theorem dX13_send_70 : decode cX13_send 70 = .ok (.iload_n 2, 1) := by decide +kernel
theorem dX13_send_71 : decode cX13_send 71 = .ok (.imul, 1) := by decide +kernel
theorem dX13_send_72 : decode cX13_send 72 = .ok (.iload_n 3, 1) := by decide +kernel
theorem dX13_send_73 : decode cX13_send 73 = .ok (.iadd, 1) := by decide +kernel
theorem dX13_send_74 : decode cX13_send 74 = .ok (.aload_n 0, 1) := by decide +kernel
theorem dX13_send_75 : decode cX13_send 75 = .ok (.getfield 151, 3) := by decide +kernel
theorem dX13_send_78 : decode cX13_send 78 = .ok (.iload_n 3, 1) := by decide +kernel
theorem dX13_send_79 : decode cX13_send 79 = .ok (.iaload, 1) := by decide +kernel
theorem dX13_send_80 : decode cX13_send 80 = .ok (.iastore, 1) := by decide +kernel
theorem dX13_send_81 : decode cX13_send 81 = .ok (.aload_n 0, 1) := by decide +kernel
theorem dX13_send_82 : decode cX13_send 82 = .ok (.getfield 145, 3) := by decide +kernel
theorem dX13_send_85 : decode cX13_send 85 = .ok (.iload_n 3, 1) := by decide +kernel
theorem dX13_send_86 : decode cX13_send 86 = .ok (.aload_n 0, 1) := by decide +kernel
theorem dX13_send_87 : decode cX13_send 87 = .ok (.getfield 151, 3) := by decide +kernel
theorem dX13_send_90 : decode cX13_send 90 = .ok (.iload_n 3, 1) := by decide +kernel
theorem dX13_send_91 : decode cX13_send 91 = .ok (.iaload, 1) := by decide +kernel
theorem dX13_send_92 : decode cX13_send 92 = .ok (.iastore, 1) := by decide +kernel
theorem dX13_send_93 : decode cX13_send 93 = .ok (.iinc 3 1, 3) := by decide +kernel
theorem dX13_send_96 : decode cX13_send 96 = .ok (.goto (-41), 3) := by decide +kernel
theorem dX13_send_99 : decode cX13_send 99 = .ok (.aload_n 0, 1) := by decide +kernel
theorem dX13_send_100 : decode cX13_send 100 = .ok (.aload_n 0, 1) := by decide +kernel
theorem dX13_send_101 : decode cX13_send 101 = .ok (.getfield 199, 3) := by decide +kernel
theorem dX13_send_104 : decode cX13_send 104 = .ok (.putfield 223, 3) := by decide +kernel
theorem dX13_send_107 : decode cX13_send 107 = .ok (.aload_n 0, 1) := by decide +kernel
theorem dX13_send_108 : decode cX13_send 108 = .ok (.getfield 142, 3) := by decide +kernel
theorem dX13_send_111 : decode cX13_send 111 = .ok (.iconst 1, 1) := by decide +kernel
theorem dX13_send_112 : decode cX13_send 112 = .ok (.dup2, 1) := by decide +kernel
theorem dX13_send_113 : decode cX13_send 113 = .ok (.iaload, 1) := by decide +kernel
theorem dX13_send_114 : decode cX13_send 114 = .ok (.iconst 1, 1) := by decide +kernel
theorem dX13_send_115 : decode cX13_send 115 = .ok (.iadd, 1) := by decide +kernel
theorem dX13_send_116 : decode cX13_send 116 = .ok (.iastore, 1) := by decide +kernel
theorem dX13_send_117 : decode cX13_send 117 = .ok (.aload_n 0, 1) := by decide +kernel
theorem dX13_send_118 : decode cX13_send 118 = .ok (.getfield 142, 3) := by decide +kernel
theorem dX13_send_121 : decode cX13_send 121 = .ok (.iconst 2, 1) := by decide +kernel
theorem dX13_send_122 : decode cX13_send 122 = .ok (.dup2, 1) := by decide +kernel
theorem dX13_send_123 : decode cX13_send 123 = .ok (.iaload, 1) := by decide +kernel
theorem dX13_send_124 : decode cX13_send 124 = .ok (.aload_n 0, 1) := by decide +kernel
theorem dX13_send_125 : decode cX13_send 125 = .ok (.getfield 199, 3) := by decide +kernel
theorem dX13_send_128 : decode cX13_send 128 = .ok (.iadd, 1) := by decide +kernel
theorem dX13_send_129 : decode cX13_send 129 = .ok (.iastore, 1) := by decide +kernel
theorem dX13_send_130 : decode cX13_send 130 = .ok (.aload_n 0, 1) := by decide +kernel
theorem dX13_send_131 : decode cX13_send 131 = .ok (.getfield 142, 3) := by decide +kernel
theorem dX13_send_134 : decode cX13_send 134 = .ok (.iconst 4, 1) := by decide +kernel
theorem dX13_send_135 : decode cX13_send 135 = .ok (.aload_n 0, 1) := by decide +kernel
theorem dX13_send_136 : decode cX13_send 136 = .ok (.getfield 151, 3) := by decide +kernel
theorem dX13_send_139 : decode cX13_send 139 = .ok (.iconst 0, 1) := by decide +kernel
theorem dX13_send_140 : decode cX13_send 140 = .ok (.iaload, 1) := by decide +kernel
theorem dX13_send_141 : decode cX13_send 141 = .ok (.iadd, 1) := by decide +kernel
theorem dX13_send_142 : decode cX13_send 142 = .ok (.dup2, 1) := by decide +kernel
theorem dX13_send_143 : decode cX13_send 143 = .ok (.iaload, 1) := by decide +kernel
theorem dX13_send_144 : decode cX13_send 144 = .ok (.iconst 1, 1) := by decide +kernel
theorem dX13_send_145 : decode cX13_send 145 = .ok (.iadd, 1) := by decide +kernel
theorem dX13_send_146 : decode cX13_send 146 = .ok (.iastore, 1) := by decide +kernel
theorem dX13_send_147 : decode cX13_send 147 = .ok (.aload_n 0, 1) := by decide +kernel
theorem dX13_send_148 : decode cX13_send 148 = .ok (.getfield 142, 3) := by decide +kernel
theorem dX13_send_151 : decode cX13_send 151 = .ok (.bipush 10, 2) := by decide +kernel
theorem dX13_send_153 : decode cX13_send 153 = .ok (.aload_n 0, 1) := by decide +kernel
theorem dX13_send_154 : decode cX13_send 154 = .ok (.getfield 226, 3) := by decide +kernel
theorem dX13_send_157 : decode cX13_send 157 = .ok (.l2i, 1) := by decide +kernel
theorem dX13_send_158 : decode cX13_send 158 = .ok (.iastore, 1) := by decide +kernel
theorem dX13_send_159 : decode cX13_send 159 = .ok (.return_, 1) := by decide +kernel
theorem dX13_address_0 : decode cX13_address 0 = .ok (.ldc2_w 230, 3) := by decide +kernel
theorem dX13_address_3 : decode cX13_address 3 = .ok (.aload_n 0, 1) := by decide +kernel
theorem dX13_address_4 : decode cX13_address 4 = .ok (.getfield 17, 3) := by decide +kernel
theorem dX13_address_7 : decode cX13_address 7 = .ok (.iload_n 1, 1) := by decide +kernel
theorem dX13_address_8 : decode cX13_address 8 = .ok (.iaload, 1) := by decide +kernel
theorem dX13_address_9 : decode cX13_address 9 = .ok (.i2l, 1) := by decide +kernel
theorem dX13_address_10 : decode cX13_address 10 = .ok (.lmul, 1) := by decide +kernel
theorem dX13_address_11 : decode cX13_address 11 = .ok (.ldc2_w 232, 3) := by decide +kernel
theorem dX13_address_14 : decode cX13_address 14 = .ok (.aload_n 0, 1) := by decide +kernel
theorem dX13_address_15 : decode cX13_address 15 = .ok (.getfield 23, 3) := by decide +kernel
theorem dX13_address_18 : decode cX13_address 18 = .ok (.iload_n 1, 1) := by decide +kernel
theorem dX13_address_19 : decode cX13_address 19 = .ok (.iaload, 1) := by decide +kernel
theorem dX13_address_20 : decode cX13_address 20 = .ok (.i2l, 1) := by decide +kernel
theorem dX13_address_21 : decode cX13_address 21 = .ok (.lmul, 1) := by decide +kernel
theorem dX13_address_22 : decode cX13_address 22 = .ok (.ladd, 1) := by decide +kernel
theorem dX13_address_23 : decode cX13_address 23 = .ok (.ldc2_w 234, 3) := by decide +kernel
theorem dX13_address_26 : decode cX13_address 26 = .ok (.lrem, 1) := by decide +kernel
theorem dX13_address_27 : decode cX13_address 27 = .ok (.l2i, 1) := by decide +kernel
theorem dX13_address_28 : decode cX13_address 28 = .ok (.ireturn, 1) := by decide +kernel
theorem dX13_sendAddress_0 : decode cX13_sendAddress 0 = .ok (.aload_n 0, 1) := by decide +kernel
theorem dX13_sendAddress_1 : decode cX13_sendAddress 1 = .ok (.iload_n 2, 1) := by decide +kernel
theorem dX13_sendAddress_2 : decode cX13_sendAddress 2 = .ok (.invokevirtual 236, 3) := by decide +kernel
theorem dX13_sendAddress_5 : decode cX13_sendAddress 5 = .ok (.aload_n 0, 1) := by decide +kernel
theorem dX13_sendAddress_6 : decode cX13_sendAddress 6 = .ok (.aload_n 0, 1) := by decide +kernel
theorem dX13_sendAddress_7 : decode cX13_sendAddress 7 = .ok (.iload_n 1, 1) := by decide +kernel
theorem dX13_sendAddress_8 : decode cX13_sendAddress 8 = .ok (.invokevirtual 240, 3) := by decide +kernel
theorem dX13_sendAddress_11 : decode cX13_sendAddress 11 = .ok (.iconst 2, 1) := by decide +kernel
theorem dX13_sendAddress_12 : decode cX13_sendAddress 12 = .ok (.invokevirtual 209, 3) := by decide +kernel
theorem dX13_sendAddress_15 : decode cX13_sendAddress 15 = .ok (.aload_n 0, 1) := by decide +kernel
theorem dX13_sendAddress_16 : decode cX13_sendAddress 16 = .ok (.aload_n 0, 1) := by decide +kernel
theorem dX13_sendAddress_17 : decode cX13_sendAddress 17 = .ok (.getfield 17, 3) := by decide +kernel
theorem dX13_sendAddress_20 : decode cX13_sendAddress 20 = .ok (.iload_n 1, 1) := by decide +kernel
theorem dX13_sendAddress_21 : decode cX13_sendAddress 21 = .ok (.iaload, 1) := by decide +kernel
theorem dX13_sendAddress_22 : decode cX13_sendAddress 22 = .ok (.iconst 2, 1) := by decide +kernel
theorem dX13_sendAddress_23 : decode cX13_sendAddress 23 = .ok (.invokevirtual 209, 3) := by decide +kernel
theorem dX13_sendAddress_26 : decode cX13_sendAddress 26 = .ok (.aload_n 0, 1) := by decide +kernel
theorem dX13_sendAddress_27 : decode cX13_sendAddress 27 = .ok (.iload_n 1, 1) := by decide +kernel
theorem dX13_sendAddress_28 : decode cX13_sendAddress 28 = .ok (.invokevirtual 243, 3) := by decide +kernel
theorem dX13_sendAddress_31 : decode cX13_sendAddress 31 = .ok (.return_, 1) := by decide +kernel
theorem dX13_putOwn_0 : decode cX13_putOwn 0 = .ok (.aload_n 0, 1) := by decide +kernel
theorem dX13_putOwn_1 : decode cX13_putOwn 1 = .ok (.iconst 1, 1) := by decide +kernel
theorem dX13_putOwn_2 : decode cX13_putOwn 2 = .ok (.iconst 1, 1) := by decide +kernel
theorem dX13_putOwn_3 : decode cX13_putOwn 3 = .ok (.invokevirtual 209, 3) := by decide +kernel
theorem dX13_putOwn_6 : decode cX13_putOwn 6 = .ok (.aload_n 0, 1) := by decide +kernel
theorem dX13_putOwn_7 : decode cX13_putOwn 7 = .ok (.iconst 1, 1) := by decide +kernel
theorem dX13_putOwn_8 : decode cX13_putOwn 8 = .ok (.iconst 1, 1) := by decide +kernel
theorem dX13_putOwn_9 : decode cX13_putOwn 9 = .ok (.invokevirtual 209, 3) := by decide +kernel
theorem dX13_putOwn_12 : decode cX13_putOwn 12 = .ok (.aload_n 0, 1) := by decide +kernel
theorem dX13_putOwn_13 : decode cX13_putOwn 13 = .ok (.iload_n 2, 1) := by decide +kernel
theorem dX13_putOwn_14 : decode cX13_putOwn 14 = .ok (.iconst 4, 1) := by decide +kernel
theorem dX13_putOwn_15 : decode cX13_putOwn 15 = .ok (.invokevirtual 209, 3) := by decide +kernel
theorem dX13_putOwn_18 : decode cX13_putOwn 18 = .ok (.aload_n 0, 1) := by decide +kernel
theorem dX13_putOwn_19 : decode cX13_putOwn 19 = .ok (.aload_n 0, 1) := by decide +kernel
theorem dX13_putOwn_20 : decode cX13_putOwn 20 = .ok (.getfield 66, 3) := by decide +kernel
theorem dX13_putOwn_23 : decode cX13_putOwn 23 = .ok (.bipush 16, 2) := by decide +kernel
theorem dX13_putOwn_25 : decode cX13_putOwn 25 = .ok (.iload_n 1, 1) := by decide +kernel
theorem dX13_putOwn_26 : decode cX13_putOwn 26 = .ok (.imul, 1) := by decide +kernel
theorem dX13_putOwn_27 : decode cX13_putOwn 27 = .ok (.invokevirtual 246, 3) := by decide +kernel
theorem dX13_putOwn_30 : decode cX13_putOwn 30 = .ok (.aload_n 0, 1) := by decide +kernel
theorem dX13_putOwn_31 : decode cX13_putOwn 31 = .ok (.aload_n 0, 1) := by decide +kernel
theorem dX13_putOwn_32 : decode cX13_putOwn 32 = .ok (.iload_n 1, 1) := by decide +kernel
theorem dX13_putOwn_33 : decode cX13_putOwn 33 = .ok (.invokevirtual 240, 3) := by decide +kernel
theorem dX13_putOwn_36 : decode cX13_putOwn 36 = .ok (.iconst 2, 1) := by decide +kernel
theorem dX13_putOwn_37 : decode cX13_putOwn 37 = .ok (.invokevirtual 209, 3) := by decide +kernel
theorem dX13_putOwn_40 : decode cX13_putOwn 40 = .ok (.return_, 1) := by decide +kernel
theorem dX13_putService_0 : decode cX13_putService 0 = .ok (.aload_n 0, 1) := by decide +kernel
theorem dX13_putService_1 : decode cX13_putService 1 = .ok (.iconst 2, 1) := by decide +kernel
theorem dX13_putService_2 : decode cX13_putService 2 = .ok (.iconst 1, 1) := by decide +kernel
theorem dX13_putService_3 : decode cX13_putService 3 = .ok (.invokevirtual 209, 3) := by decide +kernel
theorem dX13_putService_6 : decode cX13_putService 6 = .ok (.aload_n 0, 1) := by decide +kernel
theorem dX13_putService_7 : decode cX13_putService 7 = .ok (.iconst 0, 1) := by decide +kernel
theorem dX13_putService_8 : decode cX13_putService 8 = .ok (.iconst 1, 1) := by decide +kernel
theorem dX13_putService_9 : decode cX13_putService 9 = .ok (.invokevirtual 209, 3) := by decide +kernel
theorem dX13_putService_12 : decode cX13_putService 12 = .ok (.aload_n 0, 1) := by decide +kernel
theorem dX13_putService_13 : decode cX13_putService 13 = .ok (.iload_n 3, 1) := by decide +kernel
theorem dX13_putService_14 : decode cX13_putService 14 = .ok (.iconst 4, 1) := by decide +kernel
theorem dX13_putService_15 : decode cX13_putService 15 = .ok (.invokevirtual 209, 3) := by decide +kernel
theorem dX13_putService_18 : decode cX13_putService 18 = .ok (.aload_n 0, 1) := by decide +kernel
theorem dX13_putService_19 : decode cX13_putService 19 = .ok (.aload_n 0, 1) := by decide +kernel
theorem dX13_putService_20 : decode cX13_putService 20 = .ok (.getfield 69, 3) := by decide +kernel
theorem dX13_putService_23 : decode cX13_putService 23 = .ok (.bipush 64, 2) := by decide +kernel
theorem dX13_putService_25 : decode cX13_putService 25 = .ok (.iload_n 1, 1) := by decide +kernel
theorem dX13_putService_26 : decode cX13_putService 26 = .ok (.imul, 1) := by decide +kernel
theorem dX13_putService_27 : decode cX13_putService 27 = .ok (.bipush 16, 2) := by decide +kernel
theorem dX13_putService_29 : decode cX13_putService 29 = .ok (.iload_n 2, 1) := by decide +kernel
theorem dX13_putService_30 : decode cX13_putService 30 = .ok (.imul, 1) := by decide +kernel
theorem dX13_putService_31 : decode cX13_putService 31 = .ok (.iadd, 1) := by decide +kernel
theorem dX13_putService_32 : decode cX13_putService 32 = .ok (.invokevirtual 246, 3) := by decide +kernel
theorem dX13_putService_35 : decode cX13_putService 35 = .ok (.aload_n 0, 1) := by decide +kernel
theorem dX13_putService_36 : decode cX13_putService 36 = .ok (.aload_n 0, 1) := by decide +kernel
theorem dX13_putService_37 : decode cX13_putService 37 = .ok (.getfield 66, 3) := by decide +kernel
theorem dX13_putService_40 : decode cX13_putService 40 = .ok (.bipush 16, 2) := by decide +kernel
theorem dX13_putService_42 : decode cX13_putService 42 = .ok (.iload_n 1, 1) := by decide +kernel
theorem dX13_putService_43 : decode cX13_putService 43 = .ok (.imul, 1) := by decide +kernel
theorem dX13_putService_44 : decode cX13_putService 44 = .ok (.invokevirtual 246, 3) := by decide +kernel
theorem dX13_putService_47 : decode cX13_putService 47 = .ok (.aload_n 0, 1) := by decide +kernel
theorem dX13_putService_48 : decode cX13_putService 48 = .ok (.aload_n 0, 1) := by decide +kernel
theorem dX13_putService_49 : decode cX13_putService 49 = .ok (.getfield 72, 3) := by decide +kernel
theorem dX13_putService_52 : decode cX13_putService 52 = .ok (.iconst 4, 1) := by decide +kernel
theorem dX13_putService_53 : decode cX13_putService 53 = .ok (.iload_n 1, 1) := by decide +kernel
theorem dX13_putService_54 : decode cX13_putService 54 = .ok (.imul, 1) := by decide +kernel
theorem dX13_putService_55 : decode cX13_putService 55 = .ok (.iload_n 2, 1) := by decide +kernel
theorem dX13_putService_56 : decode cX13_putService 56 = .ok (.iadd, 1) := by decide +kernel
theorem dX13_putService_57 : decode cX13_putService 57 = .ok (.iaload, 1) := by decide +kernel
theorem dX13_putService_58 : decode cX13_putService 58 = .ok (.iconst 2, 1) := by decide +kernel
theorem dX13_putService_59 : decode cX13_putService 59 = .ok (.invokevirtual 209, 3) := by decide +kernel
theorem dX13_putService_62 : decode cX13_putService 62 = .ok (.return_, 1) := by decide +kernel
theorem dX13_tells_0 : decode cX13_tells 0 = .ok (.aload_n 0, 1) := by decide +kernel
theorem dX13_tells_1 : decode cX13_tells 1 = .ok (.iconst 5, 1) := by decide +kernel
theorem dX13_tells_2 : decode cX13_tells 2 = .ok (.invokevirtual 236, 3) := by decide +kernel
theorem dX13_tells_5 : decode cX13_tells 5 = .ok (.aload_n 0, 1) := by decide +kernel
theorem dX13_tells_6 : decode cX13_tells 6 = .ok (.iload_n 3, 1) := by decide +kernel
theorem dX13_tells_7 : decode cX13_tells 7 = .ok (.ifCond .eq 14, 3) := by decide +kernel
theorem dX13_tells_10 : decode cX13_tells 10 = .ok (.iconst 1, 1) := by decide +kernel
theorem dX13_tells_11 : decode cX13_tells 11 = .ok (.aload_n 0, 1) := by decide +kernel
theorem dX13_tells_12 : decode cX13_tells 12 = .ok (.getfield 75, 3) := by decide +kernel
theorem dX13_tells_15 : decode cX13_tells 15 = .ok (.iload_n 1, 1) := by decide +kernel
theorem dX13_tells_16 : decode cX13_tells 16 = .ok (.iaload, 1) := by decide +kernel
theorem dX13_tells_17 : decode cX13_tells 17 = .ok (.iadd, 1) := by decide +kernel
theorem dX13_tells_18 : decode cX13_tells 18 = .ok (.goto 4, 3) := by decide +kernel
theorem dX13_tells_21 : decode cX13_tells 21 = .ok (.iconst 1, 1) := by decide +kernel
theorem dX13_tells_22 : decode cX13_tells 22 = .ok (.iconst 1, 1) := by decide +kernel
theorem dX13_tells_23 : decode cX13_tells 23 = .ok (.invokevirtual 209, 3) := by decide +kernel
theorem dX13_tells_26 : decode cX13_tells 26 = .ok (.aload_n 0, 1) := by decide +kernel
theorem dX13_tells_27 : decode cX13_tells 27 = .ok (.iload_n 1, 1) := by decide +kernel
theorem dX13_tells_28 : decode cX13_tells 28 = .ok (.iload_n 2, 1) := by decide +kernel
theorem dX13_tells_29 : decode cX13_tells 29 = .ok (.invokevirtual 250, 3) := by decide +kernel
theorem dX13_tells_32 : decode cX13_tells 32 = .ok (.iconst 0, 1) := by decide +kernel
theorem dX13_tells_33 : decode cX13_tells 33 = .ok (.istore 4, 2) := by decide +kernel
theorem dX13_tells_35 : decode cX13_tells 35 = .ok (.iload 4, 2) := by decide +kernel
theorem dX13_tells_37 : decode cX13_tells 37 = .ok (.aload_n 0, 1) := by decide +kernel
theorem dX13_tells_38 : decode cX13_tells 38 = .ok (.getfield 75, 3) := by decide +kernel
theorem dX13_tells_41 : decode cX13_tells 41 = .ok (.iload_n 1, 1) := by decide +kernel
theorem dX13_tells_42 : decode cX13_tells 42 = .ok (.iaload, 1) := by decide +kernel
theorem dX13_tells_43 : decode cX13_tells 43 = .ok (.if_icmp .ge 21, 3) := by decide +kernel
theorem dX13_tells_46 : decode cX13_tells 46 = .ok (.iload_n 3, 1) := by decide +kernel
theorem dX13_tells_47 : decode cX13_tells 47 = .ok (.ifCond .eq 17, 3) := by decide +kernel
theorem dX13_tells_50 : decode cX13_tells 50 = .ok (.aload_n 0, 1) := by decide +kernel
theorem dX13_tells_51 : decode cX13_tells 51 = .ok (.iload_n 1, 1) := by decide +kernel
theorem dX13_tells_52 : decode cX13_tells 52 = .ok (.iload 4, 2) := by decide +kernel
theorem dX13_tells_54 : decode cX13_tells 54 = .ok (.iload_n 2, 1) := by decide +kernel
theorem dX13_tells_55 : decode cX13_tells 55 = .ok (.invokevirtual 253, 3) := by decide +kernel
theorem dX13_tells_58 : decode cX13_tells 58 = .ok (.iinc 4 1, 3) := by decide +kernel
theorem dX13_tells_61 : decode cX13_tells 61 = .ok (.goto (-26), 3) := by decide +kernel
theorem dX13_tells_64 : decode cX13_tells 64 = .ok (.aload_n 0, 1) := by decide +kernel
theorem dX13_tells_65 : decode cX13_tells 65 = .ok (.iload_n 1, 1) := by decide +kernel
theorem dX13_tells_66 : decode cX13_tells 66 = .ok (.invokevirtual 243, 3) := by decide +kernel
theorem dX13_tells_69 : decode cX13_tells 69 = .ok (.return_, 1) := by decide +kernel
theorem dX13_sendAsk_0 : decode cX13_sendAsk 0 = .ok (.aload_n 0, 1) := by decide +kernel
theorem dX13_sendAsk_1 : decode cX13_sendAsk 1 = .ok (.iconst 4, 1) := by decide +kernel
theorem dX13_sendAsk_2 : decode cX13_sendAsk 2 = .ok (.invokevirtual 236, 3) := by decide +kernel
theorem dX13_sendAsk_5 : decode cX13_sendAsk 5 = .ok (.aload_n 0, 1) := by decide +kernel
theorem dX13_sendAsk_6 : decode cX13_sendAsk 6 = .ok (.iload_n 2, 1) := by decide +kernel
theorem dX13_sendAsk_7 : decode cX13_sendAsk 7 = .ok (.iconst 1, 1) := by decide +kernel
theorem dX13_sendAsk_8 : decode cX13_sendAsk 8 = .ok (.invokevirtual 209, 3) := by decide +kernel
theorem dX13_sendAsk_11 : decode cX13_sendAsk 11 = .ok (.aload_n 0, 1) := by decide +kernel
theorem dX13_sendAsk_12 : decode cX13_sendAsk 12 = .ok (.aload_n 3, 1) := by decide +kernel
theorem dX13_sendAsk_13 : decode cX13_sendAsk 13 = .ok (.iload 4, 2) := by decide +kernel
theorem dX13_sendAsk_15 : decode cX13_sendAsk 15 = .ok (.invokevirtual 246, 3) := by decide +kernel
theorem dX13_sendAsk_18 : decode cX13_sendAsk 18 = .ok (.aload_n 0, 1) := by decide +kernel
theorem dX13_sendAsk_19 : decode cX13_sendAsk 19 = .ok (.getfield 199, 3) := by decide +kernel
theorem dX13_sendAsk_22 : decode cX13_sendAsk 22 = .ok (.istore 6, 2) := by decide +kernel
theorem dX13_sendAsk_24 : decode cX13_sendAsk 24 = .ok (.aload_n 0, 1) := by decide +kernel
theorem dX13_sendAsk_25 : decode cX13_sendAsk 25 = .ok (.iconst 0, 1) := by decide +kernel
theorem dX13_sendAsk_26 : decode cX13_sendAsk 26 = .ok (.iconst 1, 1) := by decide +kernel
theorem dX13_sendAsk_27 : decode cX13_sendAsk 27 = .ok (.invokevirtual 209, 3) := by decide +kernel
theorem dX13_sendAsk_30 : decode cX13_sendAsk 30 = .ok (.bipush 24, 2) := by decide +kernel
theorem dX13_sendAsk_32 : decode cX13_sendAsk 32 = .ok (.iload_n 1, 1) := by decide +kernel
theorem dX13_sendAsk_33 : decode cX13_sendAsk 33 = .ok (.imul, 1) := by decide +kernel
theorem dX13_sendAsk_34 : decode cX13_sendAsk 34 = .ok (.istore 7, 2) := by decide +kernel
theorem dX13_sendAsk_36 : decode cX13_sendAsk 36 = .ok (.iload 7, 2) := by decide +kernel
theorem dX13_sendAsk_38 : decode cX13_sendAsk 38 = .ok (.bipush 24, 2) := by decide +kernel
theorem dX13_sendAsk_40 : decode cX13_sendAsk 40 = .ok (.iload_n 1, 1) := by decide +kernel
theorem dX13_sendAsk_41 : decode cX13_sendAsk 41 = .ok (.imul, 1) := by decide +kernel
theorem dX13_sendAsk_42 : decode cX13_sendAsk 42 = .ok (.aload_n 0, 1) := by decide +kernel
theorem dX13_sendAsk_43 : decode cX13_sendAsk 43 = .ok (.getfield 99, 3) := by decide +kernel
theorem dX13_sendAsk_46 : decode cX13_sendAsk 46 = .ok (.iload_n 1, 1) := by decide +kernel
