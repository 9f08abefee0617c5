theorem dL_lone_416 : decode cL_lone 416 = .ok (.aload_n 1, 1) := by decide +kernel
theorem dL_lone_417 : decode cL_lone 417 = .ok (.bipush 80, 2) := by decide +kernel
theorem dL_lone_419 : decode cL_lone 419 = .ok (.iconst 2, 1) := by decide +kernel
theorem dL_lone_420 : decode cL_lone 420 = .ok (.newarray .int, 2) := by decide +kernel
theorem dL_lone_422 : decode cL_lone 422 = .ok (.dup, 1) := by decide +kernel
theorem dL_lone_423 : decode cL_lone 423 = .ok (.iconst 0, 1) := by decide +kernel
theorem dL_lone_424 : decode cL_lone 424 = .ok (.bipush 7, 2) := by decide +kernel
theorem dL_lone_426 : decode cL_lone 426 = .ok (.iastore, 1) := by decide +kernel
theorem dL_lone_427 : decode cL_lone 427 = .ok (.dup, 1) := by decide +kernel
theorem dL_lone_428 : decode cL_lone 428 = .ok (.iconst 1, 1) := by decide +kernel
theorem dL_lone_429 : decode cL_lone 429 = .ok (.iconst 2, 1) := by decide +kernel
theorem dL_lone_430 : decode cL_lone 430 = .ok (.iastore, 1) := by decide +kernel
theorem dL_lone_431 : decode cL_lone 431 = .ok (.invokestatic 176, 3) := by decide +kernel
theorem dL_lone_434 : decode cL_lone 434 = .ok (.iload_n 2, 1) := by decide +kernel
theorem dL_lone_435 : decode cL_lone 435 = .ok (.if_icmp .ne 138, 3) := by decide +kernel
theorem dL_lone_438 : decode cL_lone 438 = .ok (.aload_n 1, 1) := by decide +kernel
theorem dL_lone_439 : decode cL_lone 439 = .ok (.bipush 112, 2) := by decide +kernel
theorem dL_lone_441 : decode cL_lone 441 = .ok (.iconst 1, 1) := by decide +kernel
theorem dL_lone_442 : decode cL_lone 442 = .ok (.newarray .int, 2) := by decide +kernel
theorem dL_lone_444 : decode cL_lone 444 = .ok (.dup, 1) := by decide +kernel
theorem dL_lone_445 : decode cL_lone 445 = .ok (.iconst 0, 1) := by decide +kernel
theorem dL_lone_446 : decode cL_lone 446 = .ok (.bipush 7, 2) := by decide +kernel
theorem dL_lone_448 : decode cL_lone 448 = .ok (.iastore, 1) := by decide +kernel
theorem dL_lone_449 : decode cL_lone 449 = .ok (.invokestatic 176, 3) := by decide +kernel
theorem dL_lone_452 : decode cL_lone 452 = .ok (.iconst 2, 1) := by decide +kernel
theorem dL_lone_453 : decode cL_lone 453 = .ok (.if_icmp .ge 120, 3) := by decide +kernel
theorem dL_lone_456 : decode cL_lone 456 = .ok (.aload_n 1, 1) := by decide +kernel
theorem dL_lone_457 : decode cL_lone 457 = .ok (.bipush 99, 2) := by decide +kernel
theorem dL_lone_459 : decode cL_lone 459 = .ok (.iconst 0, 1) := by decide +kernel
theorem dL_lone_460 : decode cL_lone 460 = .ok (.newarray .int, 2) := by decide +kernel
theorem dL_lone_462 : decode cL_lone 462 = .ok (.invokestatic 176, 3) := by decide +kernel
theorem dL_lone_465 : decode cL_lone 465 = .ok (.iconst 2, 1) := by decide +kernel
theorem dL_lone_466 : decode cL_lone 466 = .ok (.if_icmp .ne 107, 3) := by decide +kernel
theorem dL_lone_469 : decode cL_lone 469 = .ok (.aload_n 1, 1) := by decide +kernel
theorem dL_lone_470 : decode cL_lone 470 = .ok (.bipush 109, 2) := by decide +kernel
theorem dL_lone_472 : decode cL_lone 472 = .ok (.iconst 3, 1) := by decide +kernel
theorem dL_lone_473 : decode cL_lone 473 = .ok (.newarray .int, 2) := by decide +kernel
theorem dL_lone_475 : decode cL_lone 475 = .ok (.dup, 1) := by decide +kernel
theorem dL_lone_476 : decode cL_lone 476 = .ok (.iconst 0, 1) := by decide +kernel
theorem dL_lone_477 : decode cL_lone 477 = .ok (.bipush 7, 2) := by decide +kernel
theorem dL_lone_479 : decode cL_lone 479 = .ok (.iastore, 1) := by decide +kernel
theorem dL_lone_480 : decode cL_lone 480 = .ok (.dup, 1) := by decide +kernel
theorem dL_lone_481 : decode cL_lone 481 = .ok (.iconst 1, 1) := by decide +kernel
theorem dL_lone_482 : decode cL_lone 482 = .ok (.bipush 8, 2) := by decide +kernel
theorem dL_lone_484 : decode cL_lone 484 = .ok (.iastore, 1) := by decide +kernel
theorem dL_lone_485 : decode cL_lone 485 = .ok (.dup, 1) := by decide +kernel
theorem dL_lone_486 : decode cL_lone 486 = .ok (.iconst 2, 1) := by decide +kernel
theorem dL_lone_487 : decode cL_lone 487 = .ok (.iconst 0, 1) := by decide +kernel
theorem dL_lone_488 : decode cL_lone 488 = .ok (.iastore, 1) := by decide +kernel
theorem dL_lone_489 : decode cL_lone 489 = .ok (.invokestatic 176, 3) := by decide +kernel
theorem dL_lone_492 : decode cL_lone 492 = .ok (.ldc 88, 2) := by decide +kernel
theorem dL_lone_494 : decode cL_lone 494 = .ok (.if_icmp .ne 79, 3) := by decide +kernel
theorem dL_lone_497 : decode cL_lone 497 = .ok (.aload_n 1, 1) := by decide +kernel
theorem dL_lone_498 : decode cL_lone 498 = .ok (.bipush 66, 2) := by decide +kernel
theorem dL_lone_500 : decode cL_lone 500 = .ok (.iconst 4, 1) := by decide +kernel
theorem dL_lone_501 : decode cL_lone 501 = .ok (.newarray .int, 2) := by decide +kernel
theorem dL_lone_503 : decode cL_lone 503 = .ok (.dup, 1) := by decide +kernel
theorem dL_lone_504 : decode cL_lone 504 = .ok (.iconst 0, 1) := by decide +kernel
theorem dL_lone_505 : decode cL_lone 505 = .ok (.bipush 7, 2) := by decide +kernel
theorem dL_lone_507 : decode cL_lone 507 = .ok (.iastore, 1) := by decide +kernel
theorem dL_lone_508 : decode cL_lone 508 = .ok (.dup, 1) := by decide +kernel
theorem dL_lone_509 : decode cL_lone 509 = .ok (.iconst 1, 1) := by decide +kernel
theorem dL_lone_510 : decode cL_lone 510 = .ok (.bipush 9, 2) := by decide +kernel
theorem dL_lone_512 : decode cL_lone 512 = .ok (.iastore, 1) := by decide +kernel
theorem dL_lone_513 : decode cL_lone 513 = .ok (.dup, 1) := by decide +kernel
theorem dL_lone_514 : decode cL_lone 514 = .ok (.iconst 2, 1) := by decide +kernel
theorem dL_lone_515 : decode cL_lone 515 = .ok (.iconst 4, 1) := by decide +kernel
theorem dL_lone_516 : decode cL_lone 516 = .ok (.iastore, 1) := by decide +kernel
theorem dL_lone_517 : decode cL_lone 517 = .ok (.dup, 1) := by decide +kernel
theorem dL_lone_518 : decode cL_lone 518 = .ok (.iconst 3, 1) := by decide +kernel
theorem dL_lone_519 : decode cL_lone 519 = .ok (.iconst 0, 1) := by decide +kernel
theorem dL_lone_520 : decode cL_lone 520 = .ok (.iastore, 1) := by decide +kernel
theorem dL_lone_521 : decode cL_lone 521 = .ok (.invokestatic 176, 3) := by decide +kernel
theorem dL_lone_524 : decode cL_lone 524 = .ok (.iconst 1, 1) := by decide +kernel
theorem dL_lone_525 : decode cL_lone 525 = .ok (.if_icmp .ne 48, 3) := by decide +kernel
theorem dL_lone_528 : decode cL_lone 528 = .ok (.aload_n 1, 1) := by decide +kernel
theorem dL_lone_529 : decode cL_lone 529 = .ok (.bipush 102, 2) := by decide +kernel
theorem dL_lone_531 : decode cL_lone 531 = .ok (.iconst 1, 1) := by decide +kernel
theorem dL_lone_532 : decode cL_lone 532 = .ok (.newarray .int, 2) := by decide +kernel
theorem dL_lone_534 : decode cL_lone 534 = .ok (.dup, 1) := by decide +kernel
theorem dL_lone_535 : decode cL_lone 535 = .ok (.iconst 0, 1) := by decide +kernel
theorem dL_lone_536 : decode cL_lone 536 = .ok (.bipush 7, 2) := by decide +kernel
theorem dL_lone_538 : decode cL_lone 538 = .ok (.iastore, 1) := by decide +kernel
theorem dL_lone_539 : decode cL_lone 539 = .ok (.invokestatic 176, 3) := by decide +kernel
theorem dL_lone_542 : decode cL_lone 542 = .ok (.ifCond .ne 31, 3) := by decide +kernel
theorem dL_lone_545 : decode cL_lone 545 = .ok (.aload_n 1, 1) := by decide +kernel
theorem dL_lone_546 : decode cL_lone 546 = .ok (.bipush 108, 2) := by decide +kernel
theorem dL_lone_548 : decode cL_lone 548 = .ok (.iconst 1, 1) := by decide +kernel
theorem dL_lone_549 : decode cL_lone 549 = .ok (.newarray .int, 2) := by decide +kernel
theorem dL_lone_551 : decode cL_lone 551 = .ok (.dup, 1) := by decide +kernel
theorem dL_lone_552 : decode cL_lone 552 = .ok (.iconst 0, 1) := by decide +kernel
theorem dL_lone_553 : decode cL_lone 553 = .ok (.bipush 7, 2) := by decide +kernel
theorem dL_lone_555 : decode cL_lone 555 = .ok (.iastore, 1) := by decide +kernel
theorem dL_lone_556 : decode cL_lone 556 = .ok (.invokestatic 176, 3) := by decide +kernel
theorem dL_lone_559 : decode cL_lone 559 = .ok (.ifCond .ne 14, 3) := by decide +kernel
theorem dL_lone_562 : decode cL_lone 562 = .ok (.aload_n 1, 1) := by decide +kernel
theorem dL_lone_563 : decode cL_lone 563 = .ok (.invokevirtual 172, 3) := by decide +kernel
theorem dL_lone_566 : decode cL_lone 566 = .ok (.ifCond .eq 7, 3) := by decide +kernel
theorem dL_lone_569 : decode cL_lone 569 = .ok (.iconst 1, 1) := by decide +kernel
theorem dL_lone_570 : decode cL_lone 570 = .ok (.goto 4, 3) := by decide +kernel
theorem dL_lone_573 : decode cL_lone 573 = .ok (.iconst 0, 1) := by decide +kernel
theorem dL_lone_574 : decode cL_lone 574 = .ok (.ireturn, 1) := by decide +kernel
set_option maxRecDepth 20000 in
theorem ggL_full_X5_init : GoodIn wsL_full wsX5_init := goodIn_r _ [10, 11, 12, 13, 14, 15, 16, 17, 18, 19, 20, 21, 4, 22, 23, 24, 25, 26, 27, 28, 29, 30, 31, 32, 33, 34, 35, 36, 37, 38, 39, 40, 41, 42, 43, 44, 45, 46, 47, 48, 49, 50, 51, 52, 53, 54, 55, 56, 57, 58, 59, 60, 61, 62, 63, 64, 65, 66, 67, 68, 69, 70, 71, 72, 73, 74, 75, 76, 77, 78, 79, 80, 81, 82, 83, 84, 85, 86, 87, 88, 518, 519, 520, 521, 522, 523, 524, 525, 526, 527, 528, 503, 504, 505, 506, 507, 508, 509, 510, 511, 512, 513, 514, 515, 516, 517, 529, 530, 531, 532, 533, 534, 535, 536, 537, 538, 539, 540, 541, 542, 543, 544] (by decide +kernel) (by decide +kernel)
set_option maxRecDepth 20000 in
theorem gL_full_X5_init : GoodIn wsL_full (wsX5_init) := ggL_full_X5_init
set_option maxRecDepth 20000 in
theorem ggL_full_X5_isTrue : GoodIn wsL_full wsX5_isTrue := goodIn_ca (goodIn_ca (goodIn_r _ [495, 17, 21, 25, 35, 272, 29, 273, 274, 72, 73, 69, 68, 255, 20, 256, 257, 61, 258, 259, 260, 261, 62, 63, 204, 205, 206, 207, 208, 209, 210, 211, 16, 212, 213, 50, 51, 52, 214, 215, 152, 216, 217, 218, 219, 220, 275, 276, 277, 278, 279, 280, 281, 67, 496, 497, 498, 499, 500, 501, 70, 502, 311, 312, 313, 314, 315, 316, 317, 318, 304, 305, 306, 293, 294, 295, 296, 503, 504, 505, 506, 507, 508, 509, 510, 511, 512, 513, 514, 515, 516, 517, 518, 519, 520, 521, 522, 523, 524, 525, 526, 527, 528, 529, 530, 531, 532, 533, 534, 535, 536, 537] (by decide +kernel) (by decide +kernel)) (goodIn_sub (fun _ h => List.mem_cons_of_mem _ (List.mem_append_left _ (List.mem_append_left _ (List.mem_append_left _ (List.mem_append_left _ (List.mem_append_left _ (List.mem_append_left _ (List.mem_append_left _ (List.mem_append_right _ h))))))))) (by decide +kernel))) (goodIn_sub (fun _ h => List.mem_cons_of_mem _ (List.mem_append_left _ (List.mem_append_right _ h))) (by decide +kernel))
set_option maxRecDepth 20000 in
theorem gL_full_X5_isTrue : GoodIn wsL_full (wsV RL 172 RX5 yX5_isTrue wsX5_isTrue) := goodIn_app (goodIn_of _ (by decide +kernel)) ggL_full_X5_isTrue
theorem dL_full_0 : decode cL_full 0 = .ok (.new 8, 3) := by decide +kernel
theorem dL_full_3 : decode cL_full 3 = .ok (.dup, 1) := by decide +kernel
theorem dL_full_4 : decode cL_full 4 = .ok (.invokespecial 152, 3) := by decide +kernel
theorem dL_full_7 : decode cL_full 7 = .ok (.astore_n 0, 1) := by decide +kernel
theorem dL_full_8 : decode cL_full 8 = .ok (.iconst 0, 1) := by decide +kernel
theorem dL_full_9 : decode cL_full 9 = .ok (.istore_n 1, 1) := by decide +kernel
theorem dL_full_10 : decode cL_full 10 = .ok (.iload_n 1, 1) := by decide +kernel
theorem dL_full_11 : decode cL_full 11 = .ok (.bipush 60, 2) := by decide +kernel
theorem dL_full_13 : decode cL_full 13 = .ok (.if_icmp .ge 58, 3) := by decide +kernel
theorem dL_full_16 : decode cL_full 16 = .ok (.aload_n 0, 1) := by decide +kernel
theorem dL_full_17 : decode cL_full 17 = .ok (.bipush 76, 2) := by decide +kernel
theorem dL_full_19 : decode cL_full 19 = .ok (.iconst 4, 1) := by decide +kernel
theorem dL_full_20 : decode cL_full 20 = .ok (.newarray .int, 2) := by decide +kernel
theorem dL_full_22 : decode cL_full 22 = .ok (.dup, 1) := by decide +kernel
theorem dL_full_23 : decode cL_full 23 = .ok (.iconst 0, 1) := by decide +kernel
theorem dL_full_24 : decode cL_full 24 = .ok (.iload_n 1, 1) := by decide +kernel
theorem dL_full_25 : decode cL_full 25 = .ok (.bipush 16, 2) := by decide +kernel
theorem dL_full_27 : decode cL_full 27 = .ok (.irem, 1) := by decide +kernel
theorem dL_full_28 : decode cL_full 28 = .ok (.iastore, 1) := by decide +kernel
theorem dL_full_29 : decode cL_full 29 = .ok (.dup, 1) := by decide +kernel
theorem dL_full_30 : decode cL_full 30 = .ok (.iconst 1, 1) := by decide +kernel
theorem dL_full_31 : decode cL_full 31 = .ok (.iload_n 1, 1) := by decide +kernel
theorem dL_full_32 : decode cL_full 32 = .ok (.iconst 1, 1) := by decide +kernel
theorem dL_full_33 : decode cL_full 33 = .ok (.iadd, 1) := by decide +kernel
theorem dL_full_34 : decode cL_full 34 = .ok (.bipush 16, 2) := by decide +kernel
theorem dL_full_36 : decode cL_full 36 = .ok (.irem, 1) := by decide +kernel
theorem dL_full_37 : decode cL_full 37 = .ok (.iastore, 1) := by decide +kernel
theorem dL_full_38 : decode cL_full 38 = .ok (.dup, 1) := by decide +kernel
theorem dL_full_39 : decode cL_full 39 = .ok (.iconst 2, 1) := by decide +kernel
theorem dL_full_40 : decode cL_full 40 = .ok (.iconst 1, 1) := by decide +kernel
theorem dL_full_41 : decode cL_full 41 = .ok (.iload_n 1, 1) := by decide +kernel
theorem dL_full_42 : decode cL_full 42 = .ok (.bipush 30, 2) := by decide +kernel
theorem dL_full_44 : decode cL_full 44 = .ok (.irem, 1) := by decide +kernel
theorem dL_full_45 : decode cL_full 45 = .ok (.iadd, 1) := by decide +kernel
theorem dL_full_46 : decode cL_full 46 = .ok (.iastore, 1) := by decide +kernel
theorem dL_full_47 : decode cL_full 47 = .ok (.dup, 1) := by decide +kernel
theorem dL_full_48 : decode cL_full 48 = .ok (.iconst 3, 1) := by decide +kernel
theorem dL_full_49 : decode cL_full 49 = .ok (.iconst 1, 1) := by decide +kernel
theorem dL_full_50 : decode cL_full 50 = .ok (.iload_n 1, 1) := by decide +kernel
theorem dL_full_51 : decode cL_full 51 = .ok (.bipush 9, 2) := by decide +kernel
theorem dL_full_53 : decode cL_full 53 = .ok (.irem, 1) := by decide +kernel
theorem dL_full_54 : decode cL_full 54 = .ok (.iadd, 1) := by decide +kernel
theorem dL_full_55 : decode cL_full 55 = .ok (.iastore, 1) := by decide +kernel
theorem dL_full_56 : decode cL_full 56 = .ok (.invokestatic 176, 3) := by decide +kernel
theorem dL_full_59 : decode cL_full 59 = .ok (.iload_n 1, 1) := by decide +kernel
theorem dL_full_60 : decode cL_full 60 = .ok (.if_icmp .eq 5, 3) := by decide +kernel
theorem dL_full_63 : decode cL_full 63 = .ok (.iconst 0, 1) := by decide +kernel
theorem dL_full_64 : decode cL_full 64 = .ok (.ireturn, 1) := by decide +kernel
theorem dL_full_65 : decode cL_full 65 = .ok (.iinc 1 1, 3) := by decide +kernel
theorem dL_full_68 : decode cL_full 68 = .ok (.goto (-58), 3) := by decide +kernel
theorem dL_full_71 : decode cL_full 71 = .ok (.iconst 0, 1) := by decide +kernel
theorem dL_full_72 : decode cL_full 72 = .ok (.istore_n 1, 1) := by decide +kernel
theorem dL_full_73 : decode cL_full 73 = .ok (.iload_n 1, 1) := by decide +kernel
theorem dL_full_74 : decode cL_full 74 = .ok (.bipush 20, 2) := by decide +kernel
theorem dL_full_76 : decode cL_full 76 = .ok (.if_icmp .ge 33, 3) := by decide +kernel
theorem dL_full_79 : decode cL_full 79 = .ok (.aload_n 0, 1) := by decide +kernel
theorem dL_full_80 : decode cL_full 80 = .ok (.bipush 77, 2) := by decide +kernel
theorem dL_full_82 : decode cL_full 82 = .ok (.iconst 1, 1) := by decide +kernel
theorem dL_full_83 : decode cL_full 83 = .ok (.newarray .int, 2) := by decide +kernel
theorem dL_full_85 : decode cL_full 85 = .ok (.dup, 1) := by decide +kernel
theorem dL_full_86 : decode cL_full 86 = .ok (.iconst 0, 1) := by decide +kernel
theorem dL_full_87 : decode cL_full 87 = .ok (.bipush 7, 2) := by decide +kernel
theorem dL_full_89 : decode cL_full 89 = .ok (.iload_n 1, 1) := by decide +kernel
theorem dL_full_90 : decode cL_full 90 = .ok (.imul, 1) := by decide +kernel
theorem dL_full_91 : decode cL_full 91 = .ok (.iastore, 1) := by decide +kernel
theorem dL_full_92 : decode cL_full 92 = .ok (.invokestatic 176, 3) := by decide +kernel
theorem dL_full_95 : decode cL_full 95 = .ok (.iload_n 1, 1) := by decide +kernel
theorem dL_full_96 : decode cL_full 96 = .ok (.iconst 1, 1) := by decide +kernel
theorem dL_full_97 : decode cL_full 97 = .ok (.iadd, 1) := by decide +kernel
theorem dL_full_98 : decode cL_full 98 = .ok (.if_icmp .eq 5, 3) := by decide +kernel
theorem dL_full_101 : decode cL_full 101 = .ok (.iconst 0, 1) := by decide +kernel
theorem dL_full_102 : decode cL_full 102 = .ok (.ireturn, 1) := by decide +kernel
theorem dL_full_103 : decode cL_full 103 = .ok (.iinc 1 1, 3) := by decide +kernel
theorem dL_full_106 : decode cL_full 106 = .ok (.goto (-33), 3) := by decide +kernel
theorem dL_full_109 : decode cL_full 109 = .ok (.iconst 0, 1) := by decide +kernel
theorem dL_full_110 : decode cL_full 110 = .ok (.istore_n 1, 1) := by decide +kernel
theorem dL_full_111 : decode cL_full 111 = .ok (.iload_n 1, 1) := by decide +kernel
theorem dL_full_112 : decode cL_full 112 = .ok (.bipush 9, 2) := by decide +kernel
theorem dL_full_114 : decode cL_full 114 = .ok (.if_icmp .ge 40, 3) := by decide +kernel
theorem dL_full_117 : decode cL_full 117 = .ok (.aload_n 0, 1) := by decide +kernel
theorem dL_full_118 : decode cL_full 118 = .ok (.bipush 66, 2) := by decide +kernel
theorem dL_full_120 : decode cL_full 120 = .ok (.iconst 4, 1) := by decide +kernel
theorem dL_full_121 : decode cL_full 121 = .ok (.newarray .int, 2) := by decide +kernel
theorem dL_full_123 : decode cL_full 123 = .ok (.dup, 1) := by decide +kernel
theorem dL_full_124 : decode cL_full 124 = .ok (.iconst 0, 1) := by decide +kernel
theorem dL_full_125 : decode cL_full 125 = .ok (.iload_n 1, 1) := by decide +kernel
theorem dL_full_126 : decode cL_full 126 = .ok (.iastore, 1) := by decide +kernel
theorem dL_full_127 : decode cL_full 127 = .ok (.dup, 1) := by decide +kernel
theorem dL_full_128 : decode cL_full 128 = .ok (.iconst 1, 1) := by decide +kernel
theorem dL_full_129 : decode cL_full 129 = .ok (.bipush 97, 2) := by decide +kernel
theorem dL_full_131 : decode cL_full 131 = .ok (.iastore, 1) := by decide +kernel
theorem dL_full_132 : decode cL_full 132 = .ok (.dup, 1) := by decide +kernel
theorem dL_full_133 : decode cL_full 133 = .ok (.iconst 2, 1) := by decide +kernel
theorem dL_full_134 : decode cL_full 134 = .ok (.iconst 0, 1) := by decide +kernel
theorem dL_full_135 : decode cL_full 135 = .ok (.iastore, 1) := by decide +kernel
theorem dL_full_136 : decode cL_full 136 = .ok (.dup, 1) := by decide +kernel
theorem dL_full_137 : decode cL_full 137 = .ok (.iconst 3, 1) := by decide +kernel
theorem dL_full_138 : decode cL_full 138 = .ok (.iconst 0, 1) := by decide +kernel
theorem dL_full_139 : decode cL_full 139 = .ok (.iastore, 1) := by decide +kernel
theorem dL_full_140 : decode cL_full 140 = .ok (.invokestatic 176, 3) := by decide +kernel
theorem dL_full_143 : decode cL_full 143 = .ok (.ifCond .eq 5, 3) := by decide +kernel
theorem dL_full_146 : decode cL_full 146 = .ok (.iconst 0, 1) := by decide +kernel
theorem dL_full_147 : decode cL_full 147 = .ok (.ireturn, 1) := by decide +kernel
theorem dL_full_148 : decode cL_full 148 = .ok (.iinc 1 1, 3) := by decide +kernel
theorem dL_full_151 : decode cL_full 151 = .ok (.goto (-40), 3) := by decide +kernel
theorem dL_full_154 : decode cL_full 154 = .ok (.aload_n 0, 1) := by decide +kernel
theorem dL_full_155 : decode cL_full 155 = .ok (.bipush 76, 2) := by decide +kernel
theorem dL_full_157 : decode cL_full 157 = .ok (.iconst 4, 1) := by decide +kernel
theorem dL_full_158 : decode cL_full 158 = .ok (.newarray .int, 2) := by decide +kernel
theorem dL_full_160 : decode cL_full 160 = .ok (.dup, 1) := by decide +kernel
theorem dL_full_161 : decode cL_full 161 = .ok (.iconst 0, 1) := by decide +kernel
theorem dL_full_162 : decode cL_full 162 = .ok (.iconst 0, 1) := by decide +kernel
theorem dL_full_163 : decode cL_full 163 = .ok (.iastore, 1) := by decide +kernel
theorem dL_full_164 : decode cL_full 164 = .ok (.dup, 1) := by decide +kernel
theorem dL_full_165 : decode cL_full 165 = .ok (.iconst 1, 1) := by decide +kernel
theorem dL_full_166 : decode cL_full 166 = .ok (.iconst 1, 1) := by decide +kernel
theorem dL_full_167 : decode cL_full 167 = .ok (.iastore, 1) := by decide +kernel
theorem dL_full_168 : decode cL_full 168 = .ok (.dup, 1) := by decide +kernel
theorem dL_full_169 : decode cL_full 169 = .ok (.iconst 2, 1) := by decide +kernel
theorem dL_full_170 : decode cL_full 170 = .ok (.iconst 1, 1) := by decide +kernel
theorem dL_full_171 : decode cL_full 171 = .ok (.iastore, 1) := by decide +kernel
theorem dL_full_172 : decode cL_full 172 = .ok (.dup, 1) := by decide +kernel
theorem dL_full_173 : decode cL_full 173 = .ok (.iconst 3, 1) := by decide +kernel
theorem dL_full_174 : decode cL_full 174 = .ok (.iconst 1, 1) := by decide +kernel
theorem dL_full_175 : decode cL_full 175 = .ok (.iastore, 1) := by decide +kernel
theorem dL_full_176 : decode cL_full 176 = .ok (.invokestatic 176, 3) := by decide +kernel
theorem dL_full_179 : decode cL_full 179 = .ok (.ldc 79, 2) := by decide +kernel
theorem dL_full_181 : decode cL_full 181 = .ok (.if_icmp .ne 169, 3) := by decide +kernel
theorem dL_full_184 : decode cL_full 184 = .ok (.aload_n 0, 1) := by decide +kernel
theorem dL_full_185 : decode cL_full 185 = .ok (.bipush 77, 2) := by decide +kernel
theorem dL_full_187 : decode cL_full 187 = .ok (.iconst 1, 1) := by decide +kernel
theorem dL_full_188 : decode cL_full 188 = .ok (.newarray .int, 2) := by decide +kernel
theorem dL_full_190 : decode cL_full 190 = .ok (.dup, 1) := by decide +kernel
theorem dL_full_191 : decode cL_full 191 = .ok (.iconst 0, 1) := by decide +kernel
theorem dL_full_192 : decode cL_full 192 = .ok (.iconst 0, 1) := by decide +kernel
theorem dL_full_193 : decode cL_full 193 = .ok (.iastore, 1) := by decide +kernel
theorem dL_full_194 : decode cL_full 194 = .ok (.invokestatic 176, 3) := by decide +kernel
theorem dL_full_197 : decode cL_full 197 = .ok (.ldc 79, 2) := by decide +kernel
theorem dL_full_199 : decode cL_full 199 = .ok (.if_icmp .ne 151, 3) := by decide +kernel
theorem dL_full_202 : decode cL_full 202 = .ok (.aload_n 0, 1) := by decide +kernel
theorem dL_full_203 : decode cL_full 203 = .ok (.bipush 70, 2) := by decide +kernel
theorem dL_full_205 : decode cL_full 205 = .ok (.iconst 0, 1) := by decide +kernel
theorem dL_full_206 : decode cL_full 206 = .ok (.newarray .int, 2) := by decide +kernel
theorem dL_full_208 : decode cL_full 208 = .ok (.invokestatic 176, 3) := by decide +kernel
theorem dL_full_211 : decode cL_full 211 = .ok (.iconst 1, 1) := by decide +kernel
theorem dL_full_212 : decode cL_full 212 = .ok (.if_icmp .ne 138, 3) := by decide +kernel
theorem dL_full_215 : decode cL_full 215 = .ok (.aload_n 0, 1) := by decide +kernel
theorem dL_full_216 : decode cL_full 216 = .ok (.bipush 117, 2) := by decide +kernel
theorem dL_full_218 : decode cL_full 218 = .ok (.iconst 1, 1) := by decide +kernel
theorem dL_full_219 : decode cL_full 219 = .ok (.newarray .int, 2) := by decide +kernel
theorem dL_full_221 : decode cL_full 221 = .ok (.dup, 1) := by decide +kernel
theorem dL_full_222 : decode cL_full 222 = .ok (.iconst 0, 1) := by decide +kernel
theorem dL_full_223 : decode cL_full 223 = .ok (.iconst 0, 1) := by decide +kernel
theorem dL_full_224 : decode cL_full 224 = .ok (.iastore, 1) := by decide +kernel
theorem dL_full_225 : decode cL_full 225 = .ok (.invokestatic 176, 3) := by decide +kernel
theorem dL_full_228 : decode cL_full 228 = .ok (.bipush 7, 2) := by decide +kernel
theorem dL_full_230 : decode cL_full 230 = .ok (.if_icmp .ne 120, 3) := by decide +kernel
theorem dL_full_233 : decode cL_full 233 = .ok (.aload_n 0, 1) := by decide +kernel
theorem dL_full_234 : decode cL_full 234 = .ok (.bipush 88, 2) := by decide +kernel
theorem dL_full_236 : decode cL_full 236 = .ok (.iconst 0, 1) := by decide +kernel
theorem dL_full_237 : decode cL_full 237 = .ok (.newarray .int, 2) := by decide +kernel
theorem dL_full_239 : decode cL_full 239 = .ok (.invokestatic 176, 3) := by decide +kernel
theorem dL_full_242 : decode cL_full 242 = .ok (.ldc 82, 2) := by decide +kernel
theorem dL_full_244 : decode cL_full 244 = .ok (.if_icmp .ne 106, 3) := by decide +kernel
theorem dL_full_247 : decode cL_full 247 = .ok (.aload_n 0, 1) := by decide +kernel
theorem dL_full_248 : decode cL_full 248 = .ok (.bipush 78, 2) := by decide +kernel
theorem dL_full_250 : decode cL_full 250 = .ok (.iconst 3, 1) := by decide +kernel
theorem dL_full_251 : decode cL_full 251 = .ok (.newarray .int, 2) := by decide +kernel
theorem dL_full_253 : decode cL_full 253 = .ok (.dup, 1) := by decide +kernel
theorem dL_full_254 : decode cL_full 254 = .ok (.iconst 0, 1) := by decide +kernel
theorem dL_full_255 : decode cL_full 255 = .ok (.bipush 97, 2) := by decide +kernel
theorem dL_full_257 : decode cL_full 257 = .ok (.iastore, 1) := by decide +kernel
theorem dL_full_258 : decode cL_full 258 = .ok (.dup, 1) := by decide +kernel
theorem dL_full_259 : decode cL_full 259 = .ok (.iconst 1, 1) := by decide +kernel
theorem dL_full_260 : decode cL_full 260 = .ok (.iconst 1, 1) := by decide +kernel
theorem dL_full_261 : decode cL_full 261 = .ok (.iastore, 1) := by decide +kernel
theorem dL_full_262 : decode cL_full 262 = .ok (.dup, 1) := by decide +kernel
theorem dL_full_263 : decode cL_full 263 = .ok (.iconst 2, 1) := by decide +kernel
theorem dL_full_264 : decode cL_full 264 = .ok (.iconst 1, 1) := by decide +kernel
theorem dL_full_265 : decode cL_full 265 = .ok (.iastore, 1) := by decide +kernel
theorem dL_full_266 : decode cL_full 266 = .ok (.invokestatic 176, 3) := by decide +kernel
theorem dL_full_269 : decode cL_full 269 = .ok (.ldc 82, 2) := by decide +kernel
theorem dL_full_271 : decode cL_full 271 = .ok (.if_icmp .ne 79, 3) := by decide +kernel
theorem dL_full_274 : decode cL_full 274 = .ok (.aload_n 0, 1) := by decide +kernel
theorem dL_full_275 : decode cL_full 275 = .ok (.bipush 67, 2) := by decide +kernel
theorem dL_full_277 : decode cL_full 277 = .ok (.iconst 1, 1) := by decide +kernel
theorem dL_full_278 : decode cL_full 278 = .ok (.newarray .int, 2) := by decide +kernel
theorem dL_full_280 : decode cL_full 280 = .ok (.dup, 1) := by decide +kernel
theorem dL_full_281 : decode cL_full 281 = .ok (.iconst 0, 1) := by decide +kernel
theorem dL_full_282 : decode cL_full 282 = .ok (.bipush 59, 2) := by decide +kernel
theorem dL_full_284 : decode cL_full 284 = .ok (.iastore, 1) := by decide +kernel
theorem dL_full_285 : decode cL_full 285 = .ok (.invokestatic 176, 3) := by decide +kernel
theorem dL_full_288 : decode cL_full 288 = .ok (.bipush 59, 2) := by decide +kernel
theorem dL_full_290 : decode cL_full 290 = .ok (.if_icmp .ne 60, 3) := by decide +kernel
theorem dL_full_293 : decode cL_full 293 = .ok (.aload_n 0, 1) := by decide +kernel
theorem dL_full_294 : decode cL_full 294 = .ok (.bipush 78, 2) := by decide +kernel
theorem dL_full_296 : decode cL_full 296 = .ok (.iconst 3, 1) := by decide +kernel
theorem dL_full_297 : decode cL_full 297 = .ok (.newarray .int, 2) := by decide +kernel
theorem dL_full_299 : decode cL_full 299 = .ok (.dup, 1) := by decide +kernel
theorem dL_full_300 : decode cL_full 300 = .ok (.iconst 0, 1) := by decide +kernel
theorem dL_full_301 : decode cL_full 301 = .ok (.bipush 104, 2) := by decide +kernel
theorem dL_full_303 : decode cL_full 303 = .ok (.iastore, 1) := by decide +kernel
theorem dL_full_304 : decode cL_full 304 = .ok (.dup, 1) := by decide +kernel
theorem dL_full_305 : decode cL_full 305 = .ok (.iconst 1, 1) := by decide +kernel
theorem dL_full_306 : decode cL_full 306 = .ok (.iconst 1, 1) := by decide +kernel
theorem dL_full_307 : decode cL_full 307 = .ok (.iastore, 1) := by decide +kernel
theorem dL_full_308 : decode cL_full 308 = .ok (.dup, 1) := by decide +kernel
theorem dL_full_309 : decode cL_full 309 = .ok (.iconst 2, 1) := by decide +kernel
theorem dL_full_310 : decode cL_full 310 = .ok (.iconst 1, 1) := by decide +kernel
theorem dL_full_311 : decode cL_full 311 = .ok (.iastore, 1) := by decide +kernel
theorem dL_full_312 : decode cL_full 312 = .ok (.invokestatic 176, 3) := by decide +kernel
theorem dL_full_315 : decode cL_full 315 = .ok (.bipush 16, 2) := by decide +kernel
theorem dL_full_317 : decode cL_full 317 = .ok (.if_icmp .ne 33, 3) := by decide +kernel
theorem dL_full_320 : decode cL_full 320 = .ok (.aload_n 0, 1) := by decide +kernel
theorem dL_full_321 : decode cL_full 321 = .ok (.bipush 67, 2) := by decide +kernel
theorem dL_full_323 : decode cL_full 323 = .ok (.iconst 1, 1) := by decide +kernel
theorem dL_full_324 : decode cL_full 324 = .ok (.newarray .int, 2) := by decide +kernel
theorem dL_full_326 : decode cL_full 326 = .ok (.dup, 1) := by decide +kernel
theorem dL_full_327 : decode cL_full 327 = .ok (.iconst 0, 1) := by decide +kernel
theorem dL_full_328 : decode cL_full 328 = .ok (.bipush 16, 2) := by decide +kernel
theorem dL_full_330 : decode cL_full 330 = .ok (.iastore, 1) := by decide +kernel
theorem dL_full_331 : decode cL_full 331 = .ok (.invokestatic 176, 3) := by decide +kernel
theorem dL_full_334 : decode cL_full 334 = .ok (.ldc 73, 2) := by decide +kernel
theorem dL_full_336 : decode cL_full 336 = .ok (.if_icmp .ne 14, 3) := by decide +kernel
theorem dL_full_339 : decode cL_full 339 = .ok (.aload_n 0, 1) := by decide +kernel
theorem dL_full_340 : decode cL_full 340 = .ok (.invokevirtual 172, 3) := by decide +kernel
theorem dL_full_343 : decode cL_full 343 = .ok (.ifCond .eq 7, 3) := by decide +kernel
theorem dL_full_346 : decode cL_full 346 = .ok (.iconst 1, 1) := by decide +kernel
theorem dL_full_347 : decode cL_full 347 = .ok (.goto 4, 3) := by decide +kernel
theorem dL_full_350 : decode cL_full 350 = .ok (.iconst 0, 1) := by decide +kernel
theorem dL_full_351 : decode cL_full 351 = .ok (.ireturn, 1) := by decide +kernel
