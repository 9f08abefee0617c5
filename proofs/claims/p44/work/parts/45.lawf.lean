theorem dL_nets_489 : decode cL_nets 489 = .ok (.invokestatic 176, 3) := by decide +kernel
theorem dL_nets_492 : decode cL_nets 492 = .ok (.iastore, 1) := by decide +kernel
theorem dL_nets_493 : decode cL_nets 493 = .ok (.iinc 11 1, 3) := by decide +kernel
theorem dL_nets_496 : decode cL_nets 496 = .ok (.goto (-30), 3) := by decide +kernel
theorem dL_nets_499 : decode cL_nets 499 = .ok (.iload 4, 2) := by decide +kernel
theorem dL_nets_501 : decode cL_nets 501 = .ok (.ifCond .ne 61, 3) := by decide +kernel
theorem dL_nets_504 : decode cL_nets 504 = .ok (.aload_n 1, 1) := by decide +kernel
theorem dL_nets_505 : decode cL_nets 505 = .ok (.bipush 82, 2) := by decide +kernel
theorem dL_nets_507 : decode cL_nets 507 = .ok (.iconst 1, 1) := by decide +kernel
theorem dL_nets_508 : decode cL_nets 508 = .ok (.newarray .int, 2) := by decide +kernel
theorem dL_nets_510 : decode cL_nets 510 = .ok (.dup, 1) := by decide +kernel
theorem dL_nets_511 : decode cL_nets 511 = .ok (.iconst 0, 1) := by decide +kernel
theorem dL_nets_512 : decode cL_nets 512 = .ok (.iconst 1, 1) := by decide +kernel
theorem dL_nets_513 : decode cL_nets 513 = .ok (.iastore, 1) := by decide +kernel
theorem dL_nets_514 : decode cL_nets 514 = .ok (.invokestatic 176, 3) := by decide +kernel
theorem dL_nets_517 : decode cL_nets 517 = .ok (.iconst 1, 1) := by decide +kernel
theorem dL_nets_518 : decode cL_nets 518 = .ok (.if_icmp .ne 42, 3) := by decide +kernel
theorem dL_nets_521 : decode cL_nets 521 = .ok (.aload_n 1, 1) := by decide +kernel
theorem dL_nets_522 : decode cL_nets 522 = .ok (.bipush 108, 2) := by decide +kernel
theorem dL_nets_524 : decode cL_nets 524 = .ok (.iconst 1, 1) := by decide +kernel
theorem dL_nets_525 : decode cL_nets 525 = .ok (.newarray .int, 2) := by decide +kernel
theorem dL_nets_527 : decode cL_nets 527 = .ok (.dup, 1) := by decide +kernel
theorem dL_nets_528 : decode cL_nets 528 = .ok (.iconst 0, 1) := by decide +kernel
theorem dL_nets_529 : decode cL_nets 529 = .ok (.aload_n 3, 1) := by decide +kernel
theorem dL_nets_530 : decode cL_nets 530 = .ok (.iload 9, 2) := by decide +kernel
theorem dL_nets_532 : decode cL_nets 532 = .ok (.iaload, 1) := by decide +kernel
theorem dL_nets_533 : decode cL_nets 533 = .ok (.iastore, 1) := by decide +kernel
theorem dL_nets_534 : decode cL_nets 534 = .ok (.invokestatic 176, 3) := by decide +kernel
theorem dL_nets_537 : decode cL_nets 537 = .ok (.iconst 1, 1) := by decide +kernel
theorem dL_nets_538 : decode cL_nets 538 = .ok (.if_icmp .ne 22, 3) := by decide +kernel
theorem dL_nets_541 : decode cL_nets 541 = .ok (.aload_n 1, 1) := by decide +kernel
theorem dL_nets_542 : decode cL_nets 542 = .ok (.bipush 112, 2) := by decide +kernel
theorem dL_nets_544 : decode cL_nets 544 = .ok (.iconst 1, 1) := by decide +kernel
theorem dL_nets_545 : decode cL_nets 545 = .ok (.newarray .int, 2) := by decide +kernel
theorem dL_nets_547 : decode cL_nets 547 = .ok (.dup, 1) := by decide +kernel
theorem dL_nets_548 : decode cL_nets 548 = .ok (.iconst 0, 1) := by decide +kernel
theorem dL_nets_549 : decode cL_nets 549 = .ok (.aload_n 3, 1) := by decide +kernel
theorem dL_nets_550 : decode cL_nets 550 = .ok (.iload 9, 2) := by decide +kernel
theorem dL_nets_552 : decode cL_nets 552 = .ok (.iaload, 1) := by decide +kernel
theorem dL_nets_553 : decode cL_nets 553 = .ok (.iastore, 1) := by decide +kernel
theorem dL_nets_554 : decode cL_nets 554 = .ok (.invokestatic 176, 3) := by decide +kernel
theorem dL_nets_557 : decode cL_nets 557 = .ok (.ifCond .eq 5, 3) := by decide +kernel
theorem dL_nets_560 : decode cL_nets 560 = .ok (.iconst 0, 1) := by decide +kernel
theorem dL_nets_561 : decode cL_nets 561 = .ok (.ireturn, 1) := by decide +kernel
theorem dL_nets_562 : decode cL_nets 562 = .ok (.iconst 0, 1) := by decide +kernel
theorem dL_nets_563 : decode cL_nets 563 = .ok (.istore 11, 2) := by decide +kernel
theorem dL_nets_565 : decode cL_nets 565 = .ok (.iload 11, 2) := by decide +kernel
theorem dL_nets_567 : decode cL_nets 567 = .ok (.iload_n 2, 1) := by decide +kernel
theorem dL_nets_568 : decode cL_nets 568 = .ok (.if_icmp .ge 58, 3) := by decide +kernel
theorem dL_nets_571 : decode cL_nets 571 = .ok (.iload 4, 2) := by decide +kernel
theorem dL_nets_573 : decode cL_nets 573 = .ok (.ifCond .ne 53, 3) := by decide +kernel
theorem dL_nets_576 : decode cL_nets 576 = .ok (.aload_n 1, 1) := by decide +kernel
theorem dL_nets_577 : decode cL_nets 577 = .ok (.bipush 119, 2) := by decide +kernel
theorem dL_nets_579 : decode cL_nets 579 = .ok (.iconst 1, 1) := by decide +kernel
theorem dL_nets_580 : decode cL_nets 580 = .ok (.newarray .int, 2) := by decide +kernel
theorem dL_nets_582 : decode cL_nets 582 = .ok (.dup, 1) := by decide +kernel
theorem dL_nets_583 : decode cL_nets 583 = .ok (.iconst 0, 1) := by decide +kernel
theorem dL_nets_584 : decode cL_nets 584 = .ok (.aload_n 3, 1) := by decide +kernel
theorem dL_nets_585 : decode cL_nets 585 = .ok (.iload 11, 2) := by decide +kernel
theorem dL_nets_587 : decode cL_nets 587 = .ok (.iaload, 1) := by decide +kernel
theorem dL_nets_588 : decode cL_nets 588 = .ok (.iastore, 1) := by decide +kernel
theorem dL_nets_589 : decode cL_nets 589 = .ok (.invokestatic 176, 3) := by decide +kernel
theorem dL_nets_592 : decode cL_nets 592 = .ok (.aload 10, 2) := by decide +kernel
theorem dL_nets_594 : decode cL_nets 594 = .ok (.iload 11, 2) := by decide +kernel
theorem dL_nets_596 : decode cL_nets 596 = .ok (.iaload, 1) := by decide +kernel
theorem dL_nets_597 : decode cL_nets 597 = .ok (.isub, 1) := by decide +kernel
theorem dL_nets_598 : decode cL_nets 598 = .ok (.aload 7, 2) := by decide +kernel
theorem dL_nets_600 : decode cL_nets 600 = .ok (.iload 9, 2) := by decide +kernel
theorem dL_nets_602 : decode cL_nets 602 = .ok (.aaload, 1) := by decide +kernel
theorem dL_nets_603 : decode cL_nets 603 = .ok (.iload 11, 2) := by decide +kernel
theorem dL_nets_605 : decode cL_nets 605 = .ok (.baload, 1) := by decide +kernel
theorem dL_nets_606 : decode cL_nets 606 = .ok (.ifCond .eq 8, 3) := by decide +kernel
theorem dL_nets_609 : decode cL_nets 609 = .ok (.iload 6, 2) := by decide +kernel
theorem dL_nets_611 : decode cL_nets 611 = .ok (.goto 4, 3) := by decide +kernel
theorem dL_nets_614 : decode cL_nets 614 = .ok (.iconst 0, 1) := by decide +kernel
theorem dL_nets_615 : decode cL_nets 615 = .ok (.if_icmp .eq 5, 3) := by decide +kernel
theorem dL_nets_618 : decode cL_nets 618 = .ok (.iconst 0, 1) := by decide +kernel
theorem dL_nets_619 : decode cL_nets 619 = .ok (.ireturn, 1) := by decide +kernel
theorem dL_nets_620 : decode cL_nets 620 = .ok (.iinc 11 1, 3) := by decide +kernel
theorem dL_nets_623 : decode cL_nets 623 = .ok (.goto (-58), 3) := by decide +kernel
theorem dL_nets_626 : decode cL_nets 626 = .ok (.iinc 4 1, 3) := by decide +kernel
theorem dL_nets_629 : decode cL_nets 629 = .ok (.goto (-493), 3) := by decide +kernel
theorem dL_nets_632 : decode cL_nets 632 = .ok (.aload_n 1, 1) := by decide +kernel
theorem dL_nets_633 : decode cL_nets 633 = .ok (.invokevirtual 172, 3) := by decide +kernel
theorem dL_nets_636 : decode cL_nets 636 = .ok (.ireturn, 1) := by decide +kernel
set_option maxRecDepth 20000 in
theorem ggL_lone_X5_init : GoodIn wsL_lone wsX5_init := goodIn_r _ [9, 10, 11, 12, 13, 14, 15, 16, 17, 18, 19, 20, 4, 21, 22, 23, 24, 25, 26, 27, 28, 29, 30, 31, 32, 33, 34, 35, 36, 37, 38, 39, 40, 41, 42, 43, 44, 45, 46, 47, 48, 49, 50, 51, 52, 53, 54, 55, 56, 57, 58, 59, 60, 61, 62, 63, 64, 65, 66, 67, 68, 69, 70, 71, 72, 73, 74, 75, 76, 77, 78, 79, 80, 81, 82, 83, 84, 85, 86, 87, 538, 539, 540, 541, 542, 543, 544, 545, 546, 547, 548, 523, 524, 525, 526, 527, 528, 529, 530, 531, 532, 533, 534, 535, 536, 537, 549, 550, 551, 552, 553, 554, 555, 556, 557, 558, 559, 560, 561, 562, 563, 564] (by decide +kernel) (by decide +kernel)
set_option maxRecDepth 20000 in
theorem gL_lone_X5_init : GoodIn wsL_lone (wsX5_init) := ggL_lone_X5_init
set_option maxRecDepth 20000 in
theorem ggL_lone_X5_isTrue : GoodIn wsL_lone wsX5_isTrue := goodIn_ca (goodIn_ca (goodIn_r _ [515, 16, 20, 24, 34, 278, 28, 279, 280, 71, 72, 68, 67, 261, 19, 262, 263, 60, 264, 265, 266, 267, 61, 62, 210, 211, 212, 213, 214, 215, 216, 217, 15, 218, 219, 49, 50, 51, 220, 221, 158, 222, 223, 224, 225, 226, 281, 282, 283, 284, 285, 286, 287, 66, 516, 517, 518, 519, 520, 521, 69, 522, 317, 318, 319, 320, 321, 322, 323, 324, 310, 311, 312, 299, 300, 301, 302, 523, 524, 525, 526, 527, 528, 529, 530, 531, 532, 533, 534, 535, 536, 537, 538, 539, 540, 541, 542, 543, 544, 545, 546, 547, 548, 549, 550, 551, 552, 553, 554, 555, 556, 557] (by decide +kernel) (by decide +kernel)) (goodIn_sub (fun _ h => List.mem_cons_of_mem _ (List.mem_append_left _ (List.mem_append_left _ (List.mem_append_left _ (List.mem_append_left _ (List.mem_append_left _ (List.mem_append_left _ (List.mem_append_left _ (List.mem_append_right _ h))))))))) (by decide +kernel))) (goodIn_sub (fun _ h => List.mem_cons_of_mem _ (List.mem_append_left _ (List.mem_append_left _ (List.mem_append_left _ (List.mem_append_left _ (List.mem_append_left _ (List.mem_append_left _ (List.mem_append_right _ h)))))))) (by decide +kernel))
set_option maxRecDepth 20000 in
theorem gL_lone_X5_isTrue : GoodIn wsL_lone (wsV RL 172 RX5 yX5_isTrue wsX5_isTrue) := goodIn_app (goodIn_of _ (by decide +kernel)) ggL_lone_X5_isTrue
theorem dL_lone_0 : decode cL_lone 0 = .ok (.new 8, 3) := by decide +kernel
theorem dL_lone_3 : decode cL_lone 3 = .ok (.dup, 1) := by decide +kernel
theorem dL_lone_4 : decode cL_lone 4 = .ok (.invokespecial 152, 3) := by decide +kernel
theorem dL_lone_7 : decode cL_lone 7 = .ok (.astore_n 1, 1) := by decide +kernel
theorem dL_lone_8 : decode cL_lone 8 = .ok (.iconst 2, 1) := by decide +kernel
theorem dL_lone_9 : decode cL_lone 9 = .ok (.aload_n 0, 1) := by decide +kernel
theorem dL_lone_10 : decode cL_lone 10 = .ok (.bipush 30, 2) := by decide +kernel
theorem dL_lone_12 : decode cL_lone 12 = .ok (.invokestatic 189, 3) := by decide +kernel
theorem dL_lone_15 : decode cL_lone 15 = .ok (.bipush 98, 2) := by decide +kernel
theorem dL_lone_17 : decode cL_lone 17 = .ok (.invokestatic 193, 3) := by decide +kernel
theorem dL_lone_20 : decode cL_lone 20 = .ok (.iadd, 1) := by decide +kernel
theorem dL_lone_21 : decode cL_lone 21 = .ok (.istore_n 2, 1) := by decide +kernel
theorem dL_lone_22 : decode cL_lone 22 = .ok (.aload_n 0, 1) := by decide +kernel
theorem dL_lone_23 : decode cL_lone 23 = .ok (.bipush 31, 2) := by decide +kernel
theorem dL_lone_25 : decode cL_lone 25 = .ok (.invokestatic 189, 3) := by decide +kernel
theorem dL_lone_28 : decode cL_lone 28 = .ok (.iload_n 2, 1) := by decide +kernel
theorem dL_lone_29 : decode cL_lone 29 = .ok (.invokestatic 193, 3) := by decide +kernel
theorem dL_lone_32 : decode cL_lone 32 = .ok (.istore_n 3, 1) := by decide +kernel
theorem dL_lone_33 : decode cL_lone 33 = .ok (.iconst 1, 1) := by decide +kernel
theorem dL_lone_34 : decode cL_lone 34 = .ok (.aload_n 0, 1) := by decide +kernel
theorem dL_lone_35 : decode cL_lone 35 = .ok (.bipush 32, 2) := by decide +kernel
theorem dL_lone_37 : decode cL_lone 37 = .ok (.invokestatic 189, 3) := by decide +kernel
theorem dL_lone_40 : decode cL_lone 40 = .ok (.sipush 400, 3) := by decide +kernel
theorem dL_lone_43 : decode cL_lone 43 = .ok (.invokestatic 193, 3) := by decide +kernel
theorem dL_lone_46 : decode cL_lone 46 = .ok (.iadd, 1) := by decide +kernel
theorem dL_lone_47 : decode cL_lone 47 = .ok (.istore 4, 2) := by decide +kernel
theorem dL_lone_49 : decode cL_lone 49 = .ok (.aload_n 1, 1) := by decide +kernel
theorem dL_lone_50 : decode cL_lone 50 = .ok (.bipush 66, 2) := by decide +kernel
theorem dL_lone_52 : decode cL_lone 52 = .ok (.iconst 4, 1) := by decide +kernel
theorem dL_lone_53 : decode cL_lone 53 = .ok (.newarray .int, 2) := by decide +kernel
theorem dL_lone_55 : decode cL_lone 55 = .ok (.dup, 1) := by decide +kernel
theorem dL_lone_56 : decode cL_lone 56 = .ok (.iconst 0, 1) := by decide +kernel
theorem dL_lone_57 : decode cL_lone 57 = .ok (.bipush 7, 2) := by decide +kernel
theorem dL_lone_59 : decode cL_lone 59 = .ok (.iastore, 1) := by decide +kernel
theorem dL_lone_60 : decode cL_lone 60 = .ok (.dup, 1) := by decide +kernel
theorem dL_lone_61 : decode cL_lone 61 = .ok (.iconst 1, 1) := by decide +kernel
theorem dL_lone_62 : decode cL_lone 62 = .ok (.iload_n 2, 1) := by decide +kernel
theorem dL_lone_63 : decode cL_lone 63 = .ok (.iastore, 1) := by decide +kernel
theorem dL_lone_64 : decode cL_lone 64 = .ok (.dup, 1) := by decide +kernel
theorem dL_lone_65 : decode cL_lone 65 = .ok (.iconst 2, 1) := by decide +kernel
theorem dL_lone_66 : decode cL_lone 66 = .ok (.iload_n 3, 1) := by decide +kernel
theorem dL_lone_67 : decode cL_lone 67 = .ok (.iastore, 1) := by decide +kernel
theorem dL_lone_68 : decode cL_lone 68 = .ok (.dup, 1) := by decide +kernel
theorem dL_lone_69 : decode cL_lone 69 = .ok (.iconst 3, 1) := by decide +kernel
theorem dL_lone_70 : decode cL_lone 70 = .ok (.iconst 0, 1) := by decide +kernel
theorem dL_lone_71 : decode cL_lone 71 = .ok (.iastore, 1) := by decide +kernel
theorem dL_lone_72 : decode cL_lone 72 = .ok (.invokestatic 176, 3) := by decide +kernel
theorem dL_lone_75 : decode cL_lone 75 = .ok (.ifCond .ne 160, 3) := by decide +kernel
theorem dL_lone_78 : decode cL_lone 78 = .ok (.aload_n 1, 1) := by decide +kernel
theorem dL_lone_79 : decode cL_lone 79 = .ok (.bipush 99, 2) := by decide +kernel
theorem dL_lone_81 : decode cL_lone 81 = .ok (.iconst 0, 1) := by decide +kernel
theorem dL_lone_82 : decode cL_lone 82 = .ok (.newarray .int, 2) := by decide +kernel
theorem dL_lone_84 : decode cL_lone 84 = .ok (.invokestatic 176, 3) := by decide +kernel
theorem dL_lone_87 : decode cL_lone 87 = .ok (.iload_n 2, 1) := by decide +kernel
theorem dL_lone_88 : decode cL_lone 88 = .ok (.if_icmp .ne 147, 3) := by decide +kernel
theorem dL_lone_91 : decode cL_lone 91 = .ok (.aload_n 1, 1) := by decide +kernel
theorem dL_lone_92 : decode cL_lone 92 = .ok (.bipush 100, 2) := by decide +kernel
theorem dL_lone_94 : decode cL_lone 94 = .ok (.iconst 0, 1) := by decide +kernel
theorem dL_lone_95 : decode cL_lone 95 = .ok (.newarray .int, 2) := by decide +kernel
theorem dL_lone_97 : decode cL_lone 97 = .ok (.invokestatic 176, 3) := by decide +kernel
theorem dL_lone_100 : decode cL_lone 100 = .ok (.ifCond .ne 135, 3) := by decide +kernel
theorem dL_lone_103 : decode cL_lone 103 = .ok (.aload_n 1, 1) := by decide +kernel
theorem dL_lone_104 : decode cL_lone 104 = .ok (.bipush 98, 2) := by decide +kernel
theorem dL_lone_106 : decode cL_lone 106 = .ok (.iconst 1, 1) := by decide +kernel
theorem dL_lone_107 : decode cL_lone 107 = .ok (.newarray .int, 2) := by decide +kernel
theorem dL_lone_109 : decode cL_lone 109 = .ok (.dup, 1) := by decide +kernel
theorem dL_lone_110 : decode cL_lone 110 = .ok (.iconst 0, 1) := by decide +kernel
theorem dL_lone_111 : decode cL_lone 111 = .ok (.bipush 7, 2) := by decide +kernel
theorem dL_lone_113 : decode cL_lone 113 = .ok (.iastore, 1) := by decide +kernel
theorem dL_lone_114 : decode cL_lone 114 = .ok (.invokestatic 176, 3) := by decide +kernel
theorem dL_lone_117 : decode cL_lone 117 = .ok (.iconst 1, 1) := by decide +kernel
theorem dL_lone_118 : decode cL_lone 118 = .ok (.if_icmp .ne 117, 3) := by decide +kernel
theorem dL_lone_121 : decode cL_lone 121 = .ok (.aload_n 1, 1) := by decide +kernel
theorem dL_lone_122 : decode cL_lone 122 = .ok (.bipush 103, 2) := by decide +kernel
theorem dL_lone_124 : decode cL_lone 124 = .ok (.iconst 0, 1) := by decide +kernel
theorem dL_lone_125 : decode cL_lone 125 = .ok (.newarray .int, 2) := by decide +kernel
theorem dL_lone_127 : decode cL_lone 127 = .ok (.invokestatic 176, 3) := by decide +kernel
theorem dL_lone_130 : decode cL_lone 130 = .ok (.iconst 1, 1) := by decide +kernel
theorem dL_lone_131 : decode cL_lone 131 = .ok (.if_icmp .ne 104, 3) := by decide +kernel
theorem dL_lone_134 : decode cL_lone 134 = .ok (.aload_n 1, 1) := by decide +kernel
theorem dL_lone_135 : decode cL_lone 135 = .ok (.bipush 73, 2) := by decide +kernel
theorem dL_lone_137 : decode cL_lone 137 = .ok (.iconst 0, 1) := by decide +kernel
theorem dL_lone_138 : decode cL_lone 138 = .ok (.newarray .int, 2) := by decide +kernel
theorem dL_lone_140 : decode cL_lone 140 = .ok (.invokestatic 176, 3) := by decide +kernel
theorem dL_lone_143 : decode cL_lone 143 = .ok (.iconst 1, 1) := by decide +kernel
theorem dL_lone_144 : decode cL_lone 144 = .ok (.if_icmp .ne 91, 3) := by decide +kernel
theorem dL_lone_147 : decode cL_lone 147 = .ok (.aload_n 1, 1) := by decide +kernel
theorem dL_lone_148 : decode cL_lone 148 = .ok (.bipush 105, 2) := by decide +kernel
theorem dL_lone_150 : decode cL_lone 150 = .ok (.iconst 2, 1) := by decide +kernel
theorem dL_lone_151 : decode cL_lone 151 = .ok (.newarray .int, 2) := by decide +kernel
theorem dL_lone_153 : decode cL_lone 153 = .ok (.dup, 1) := by decide +kernel
theorem dL_lone_154 : decode cL_lone 154 = .ok (.iconst 0, 1) := by decide +kernel
theorem dL_lone_155 : decode cL_lone 155 = .ok (.bipush 7, 2) := by decide +kernel
theorem dL_lone_157 : decode cL_lone 157 = .ok (.iastore, 1) := by decide +kernel
theorem dL_lone_158 : decode cL_lone 158 = .ok (.dup, 1) := by decide +kernel
theorem dL_lone_159 : decode cL_lone 159 = .ok (.iconst 1, 1) := by decide +kernel
theorem dL_lone_160 : decode cL_lone 160 = .ok (.bipush 7, 2) := by decide +kernel
theorem dL_lone_162 : decode cL_lone 162 = .ok (.iastore, 1) := by decide +kernel
theorem dL_lone_163 : decode cL_lone 163 = .ok (.invokestatic 176, 3) := by decide +kernel
theorem dL_lone_166 : decode cL_lone 166 = .ok (.iconst 1, 1) := by decide +kernel
theorem dL_lone_167 : decode cL_lone 167 = .ok (.if_icmp .ne 68, 3) := by decide +kernel
theorem dL_lone_170 : decode cL_lone 170 = .ok (.aload_n 1, 1) := by decide +kernel
theorem dL_lone_171 : decode cL_lone 171 = .ok (.bipush 71, 2) := by decide +kernel
theorem dL_lone_173 : decode cL_lone 173 = .ok (.iconst 1, 1) := by decide +kernel
theorem dL_lone_174 : decode cL_lone 174 = .ok (.newarray .int, 2) := by decide +kernel
theorem dL_lone_176 : decode cL_lone 176 = .ok (.dup, 1) := by decide +kernel
theorem dL_lone_177 : decode cL_lone 177 = .ok (.iconst 0, 1) := by decide +kernel
theorem dL_lone_178 : decode cL_lone 178 = .ok (.bipush 7, 2) := by decide +kernel
theorem dL_lone_180 : decode cL_lone 180 = .ok (.iastore, 1) := by decide +kernel
theorem dL_lone_181 : decode cL_lone 181 = .ok (.invokestatic 176, 3) := by decide +kernel
theorem dL_lone_184 : decode cL_lone 184 = .ok (.ifCond .ne 51, 3) := by decide +kernel
theorem dL_lone_187 : decode cL_lone 187 = .ok (.aload_n 1, 1) := by decide +kernel
theorem dL_lone_188 : decode cL_lone 188 = .ok (.bipush 111, 2) := by decide +kernel
theorem dL_lone_190 : decode cL_lone 190 = .ok (.iconst 1, 1) := by decide +kernel
theorem dL_lone_191 : decode cL_lone 191 = .ok (.newarray .int, 2) := by decide +kernel
theorem dL_lone_193 : decode cL_lone 193 = .ok (.dup, 1) := by decide +kernel
theorem dL_lone_194 : decode cL_lone 194 = .ok (.iconst 0, 1) := by decide +kernel
theorem dL_lone_195 : decode cL_lone 195 = .ok (.iconst 0, 1) := by decide +kernel
theorem dL_lone_196 : decode cL_lone 196 = .ok (.iastore, 1) := by decide +kernel
theorem dL_lone_197 : decode cL_lone 197 = .ok (.invokestatic 176, 3) := by decide +kernel
theorem dL_lone_200 : decode cL_lone 200 = .ok (.bipush 7, 2) := by decide +kernel
theorem dL_lone_202 : decode cL_lone 202 = .ok (.if_icmp .ne 33, 3) := by decide +kernel
theorem dL_lone_205 : decode cL_lone 205 = .ok (.aload_n 1, 1) := by decide +kernel
theorem dL_lone_206 : decode cL_lone 206 = .ok (.bipush 111, 2) := by decide +kernel
theorem dL_lone_208 : decode cL_lone 208 = .ok (.iconst 1, 1) := by decide +kernel
theorem dL_lone_209 : decode cL_lone 209 = .ok (.newarray .int, 2) := by decide +kernel
theorem dL_lone_211 : decode cL_lone 211 = .ok (.dup, 1) := by decide +kernel
theorem dL_lone_212 : decode cL_lone 212 = .ok (.iconst 0, 1) := by decide +kernel
theorem dL_lone_213 : decode cL_lone 213 = .ok (.iconst 1, 1) := by decide +kernel
theorem dL_lone_214 : decode cL_lone 214 = .ok (.iastore, 1) := by decide +kernel
theorem dL_lone_215 : decode cL_lone 215 = .ok (.invokestatic 176, 3) := by decide +kernel
theorem dL_lone_218 : decode cL_lone 218 = .ok (.ldc 88, 2) := by decide +kernel
theorem dL_lone_220 : decode cL_lone 220 = .ok (.if_icmp .ne 15, 3) := by decide +kernel
theorem dL_lone_223 : decode cL_lone 223 = .ok (.aload_n 1, 1) := by decide +kernel
theorem dL_lone_224 : decode cL_lone 224 = .ok (.bipush 88, 2) := by decide +kernel
theorem dL_lone_226 : decode cL_lone 226 = .ok (.iconst 0, 1) := by decide +kernel
theorem dL_lone_227 : decode cL_lone 227 = .ok (.newarray .int, 2) := by decide +kernel
theorem dL_lone_229 : decode cL_lone 229 = .ok (.invokestatic 176, 3) := by decide +kernel
theorem dL_lone_232 : decode cL_lone 232 = .ok (.ifCond .eq 5, 3) := by decide +kernel
theorem dL_lone_235 : decode cL_lone 235 = .ok (.iconst 0, 1) := by decide +kernel
theorem dL_lone_236 : decode cL_lone 236 = .ok (.ireturn, 1) := by decide +kernel
theorem dL_lone_237 : decode cL_lone 237 = .ok (.iload_n 3, 1) := by decide +kernel
theorem dL_lone_238 : decode cL_lone 238 = .ok (.iload 4, 2) := by decide +kernel
theorem dL_lone_240 : decode cL_lone 240 = .ok (.iadd, 1) := by decide +kernel
theorem dL_lone_241 : decode cL_lone 241 = .ok (.iload_n 2, 1) := by decide +kernel
theorem dL_lone_242 : decode cL_lone 242 = .ok (.idiv, 1) := by decide +kernel
theorem dL_lone_243 : decode cL_lone 243 = .ok (.istore 5, 2) := by decide +kernel
theorem dL_lone_245 : decode cL_lone 245 = .ok (.aload_n 1, 1) := by decide +kernel
theorem dL_lone_246 : decode cL_lone 246 = .ok (.bipush 82, 2) := by decide +kernel
theorem dL_lone_248 : decode cL_lone 248 = .ok (.iconst 1, 1) := by decide +kernel
theorem dL_lone_249 : decode cL_lone 249 = .ok (.newarray .int, 2) := by decide +kernel
theorem dL_lone_251 : decode cL_lone 251 = .ok (.dup, 1) := by decide +kernel
theorem dL_lone_252 : decode cL_lone 252 = .ok (.iconst 0, 1) := by decide +kernel
theorem dL_lone_253 : decode cL_lone 253 = .ok (.iload 4, 2) := by decide +kernel
theorem dL_lone_255 : decode cL_lone 255 = .ok (.iastore, 1) := by decide +kernel
theorem dL_lone_256 : decode cL_lone 256 = .ok (.invokestatic 176, 3) := by decide +kernel
theorem dL_lone_259 : decode cL_lone 259 = .ok (.iload 5, 2) := by decide +kernel
theorem dL_lone_261 : decode cL_lone 261 = .ok (.if_icmp .ne 80, 3) := by decide +kernel
theorem dL_lone_264 : decode cL_lone 264 = .ok (.aload_n 1, 1) := by decide +kernel
theorem dL_lone_265 : decode cL_lone 265 = .ok (.bipush 102, 2) := by decide +kernel
theorem dL_lone_267 : decode cL_lone 267 = .ok (.iconst 1, 1) := by decide +kernel
theorem dL_lone_268 : decode cL_lone 268 = .ok (.newarray .int, 2) := by decide +kernel
theorem dL_lone_270 : decode cL_lone 270 = .ok (.dup, 1) := by decide +kernel
theorem dL_lone_271 : decode cL_lone 271 = .ok (.iconst 0, 1) := by decide +kernel
theorem dL_lone_272 : decode cL_lone 272 = .ok (.bipush 7, 2) := by decide +kernel
theorem dL_lone_274 : decode cL_lone 274 = .ok (.iastore, 1) := by decide +kernel
theorem dL_lone_275 : decode cL_lone 275 = .ok (.invokestatic 176, 3) := by decide +kernel
theorem dL_lone_278 : decode cL_lone 278 = .ok (.iload 5, 2) := by decide +kernel
theorem dL_lone_280 : decode cL_lone 280 = .ok (.if_icmp .ne 61, 3) := by decide +kernel
theorem dL_lone_283 : decode cL_lone 283 = .ok (.aload_n 1, 1) := by decide +kernel
theorem dL_lone_284 : decode cL_lone 284 = .ok (.bipush 112, 2) := by decide +kernel
theorem dL_lone_286 : decode cL_lone 286 = .ok (.iconst 1, 1) := by decide +kernel
theorem dL_lone_287 : decode cL_lone 287 = .ok (.newarray .int, 2) := by decide +kernel
theorem dL_lone_289 : decode cL_lone 289 = .ok (.dup, 1) := by decide +kernel
theorem dL_lone_290 : decode cL_lone 290 = .ok (.iconst 0, 1) := by decide +kernel
theorem dL_lone_291 : decode cL_lone 291 = .ok (.bipush 7, 2) := by decide +kernel
theorem dL_lone_293 : decode cL_lone 293 = .ok (.iastore, 1) := by decide +kernel
theorem dL_lone_294 : decode cL_lone 294 = .ok (.invokestatic 176, 3) := by decide +kernel
theorem dL_lone_297 : decode cL_lone 297 = .ok (.iload_n 3, 1) := by decide +kernel
theorem dL_lone_298 : decode cL_lone 298 = .ok (.iload 4, 2) := by decide +kernel
theorem dL_lone_300 : decode cL_lone 300 = .ok (.iadd, 1) := by decide +kernel
theorem dL_lone_301 : decode cL_lone 301 = .ok (.iload_n 2, 1) := by decide +kernel
theorem dL_lone_302 : decode cL_lone 302 = .ok (.irem, 1) := by decide +kernel
theorem dL_lone_303 : decode cL_lone 303 = .ok (.if_icmp .ne 38, 3) := by decide +kernel
theorem dL_lone_306 : decode cL_lone 306 = .ok (.aload_n 1, 1) := by decide +kernel
theorem dL_lone_307 : decode cL_lone 307 = .ok (.bipush 108, 2) := by decide +kernel
theorem dL_lone_309 : decode cL_lone 309 = .ok (.iconst 1, 1) := by decide +kernel
theorem dL_lone_310 : decode cL_lone 310 = .ok (.newarray .int, 2) := by decide +kernel
theorem dL_lone_312 : decode cL_lone 312 = .ok (.dup, 1) := by decide +kernel
theorem dL_lone_313 : decode cL_lone 313 = .ok (.iconst 0, 1) := by decide +kernel
theorem dL_lone_314 : decode cL_lone 314 = .ok (.bipush 7, 2) := by decide +kernel
theorem dL_lone_316 : decode cL_lone 316 = .ok (.iastore, 1) := by decide +kernel
theorem dL_lone_317 : decode cL_lone 317 = .ok (.invokestatic 176, 3) := by decide +kernel
theorem dL_lone_320 : decode cL_lone 320 = .ok (.iload 5, 2) := by decide +kernel
theorem dL_lone_322 : decode cL_lone 322 = .ok (.ifCond .ne 7, 3) := by decide +kernel
theorem dL_lone_325 : decode cL_lone 325 = .ok (.iconst 0, 1) := by decide +kernel
theorem dL_lone_326 : decode cL_lone 326 = .ok (.goto 12, 3) := by decide +kernel
theorem dL_lone_329 : decode cL_lone 329 = .ok (.iload 4, 2) := by decide +kernel
theorem dL_lone_331 : decode cL_lone 331 = .ok (.iload_n 3, 1) := by decide +kernel
theorem dL_lone_332 : decode cL_lone 332 = .ok (.iload 4, 2) := by decide +kernel
theorem dL_lone_334 : decode cL_lone 334 = .ok (.iadd, 1) := by decide +kernel
theorem dL_lone_335 : decode cL_lone 335 = .ok (.iload_n 2, 1) := by decide +kernel
theorem dL_lone_336 : decode cL_lone 336 = .ok (.irem, 1) := by decide +kernel
theorem dL_lone_337 : decode cL_lone 337 = .ok (.isub, 1) := by decide +kernel
theorem dL_lone_338 : decode cL_lone 338 = .ok (.if_icmp .eq 5, 3) := by decide +kernel
theorem dL_lone_341 : decode cL_lone 341 = .ok (.iconst 0, 1) := by decide +kernel
theorem dL_lone_342 : decode cL_lone 342 = .ok (.ireturn, 1) := by decide +kernel
theorem dL_lone_343 : decode cL_lone 343 = .ok (.aload_n 1, 1) := by decide +kernel
theorem dL_lone_344 : decode cL_lone 344 = .ok (.bipush 110, 2) := by decide +kernel
theorem dL_lone_346 : decode cL_lone 346 = .ok (.iconst 1, 1) := by decide +kernel
theorem dL_lone_347 : decode cL_lone 347 = .ok (.newarray .int, 2) := by decide +kernel
theorem dL_lone_349 : decode cL_lone 349 = .ok (.dup, 1) := by decide +kernel
theorem dL_lone_350 : decode cL_lone 350 = .ok (.iconst 0, 1) := by decide +kernel
theorem dL_lone_351 : decode cL_lone 351 = .ok (.bipush 99, 2) := by decide +kernel
theorem dL_lone_353 : decode cL_lone 353 = .ok (.iastore, 1) := by decide +kernel
theorem dL_lone_354 : decode cL_lone 354 = .ok (.invokestatic 176, 3) := by decide +kernel
theorem dL_lone_357 : decode cL_lone 357 = .ok (.ifCond .ne 216, 3) := by decide +kernel
theorem dL_lone_360 : decode cL_lone 360 = .ok (.aload_n 1, 1) := by decide +kernel
theorem dL_lone_361 : decode cL_lone 361 = .ok (.bipush 99, 2) := by decide +kernel
theorem dL_lone_363 : decode cL_lone 363 = .ok (.iconst 0, 1) := by decide +kernel
theorem dL_lone_364 : decode cL_lone 364 = .ok (.newarray .int, 2) := by decide +kernel
theorem dL_lone_366 : decode cL_lone 366 = .ok (.invokestatic 176, 3) := by decide +kernel
theorem dL_lone_369 : decode cL_lone 369 = .ok (.ldc 82, 2) := by decide +kernel
theorem dL_lone_371 : decode cL_lone 371 = .ok (.if_icmp .ne 202, 3) := by decide +kernel
theorem dL_lone_374 : decode cL_lone 374 = .ok (.aload_n 1, 1) := by decide +kernel
theorem dL_lone_375 : decode cL_lone 375 = .ok (.bipush 88, 2) := by decide +kernel
theorem dL_lone_377 : decode cL_lone 377 = .ok (.iconst 0, 1) := by decide +kernel
theorem dL_lone_378 : decode cL_lone 378 = .ok (.newarray .int, 2) := by decide +kernel
theorem dL_lone_380 : decode cL_lone 380 = .ok (.invokestatic 176, 3) := by decide +kernel
theorem dL_lone_383 : decode cL_lone 383 = .ok (.ldc 82, 2) := by decide +kernel
theorem dL_lone_385 : decode cL_lone 385 = .ok (.if_icmp .ne 188, 3) := by decide +kernel
theorem dL_lone_388 : decode cL_lone 388 = .ok (.aload_n 1, 1) := by decide +kernel
theorem dL_lone_389 : decode cL_lone 389 = .ok (.iconst 1, 1) := by decide +kernel
theorem dL_lone_390 : decode cL_lone 390 = .ok (.invokestatic 153, 3) := by decide +kernel
theorem dL_lone_393 : decode cL_lone 393 = .ok (.ldc 82, 2) := by decide +kernel
theorem dL_lone_395 : decode cL_lone 395 = .ok (.if_icmp .ne 178, 3) := by decide +kernel
theorem dL_lone_398 : decode cL_lone 398 = .ok (.aload_n 1, 1) := by decide +kernel
theorem dL_lone_399 : decode cL_lone 399 = .ok (.bipush 110, 2) := by decide +kernel
theorem dL_lone_401 : decode cL_lone 401 = .ok (.iconst 1, 1) := by decide +kernel
theorem dL_lone_402 : decode cL_lone 402 = .ok (.newarray .int, 2) := by decide +kernel
theorem dL_lone_404 : decode cL_lone 404 = .ok (.dup, 1) := by decide +kernel
theorem dL_lone_405 : decode cL_lone 405 = .ok (.iconst 0, 1) := by decide +kernel
theorem dL_lone_406 : decode cL_lone 406 = .ok (.iconst 0, 1) := by decide +kernel
theorem dL_lone_407 : decode cL_lone 407 = .ok (.iastore, 1) := by decide +kernel
theorem dL_lone_408 : decode cL_lone 408 = .ok (.invokestatic 176, 3) := by decide +kernel
theorem dL_lone_411 : decode cL_lone 411 = .ok (.bipush 99, 2) := by decide +kernel
theorem dL_lone_413 : decode cL_lone 413 = .ok (.if_icmp .ne 160, 3) := by decide +kernel
