theorem dX3_init_0 : decode cX3_init 0 = .ok (.aload_n 0, 1) := by decide +kernel
theorem dX3_init_1 : decode cX3_init 1 = .ok (.invokespecial 3, 3) := by decide +kernel
theorem dX3_init_4 : decode cX3_init 4 = .ok (.aload_n 0, 1) := by decide +kernel
theorem dX3_init_5 : decode cX3_init 5 = .ok (.iconst 4, 1) := by decide +kernel
theorem dX3_init_6 : decode cX3_init 6 = .ok (.newarray .boolean, 2) := by decide +kernel
theorem dX3_init_8 : decode cX3_init 8 = .ok (.putfield 9, 3) := by decide +kernel
theorem dX3_init_11 : decode cX3_init 11 = .ok (.aload_n 0, 1) := by decide +kernel
theorem dX3_init_12 : decode cX3_init 12 = .ok (.iconst 4, 1) := by decide +kernel
theorem dX3_init_13 : decode cX3_init 13 = .ok (.newarray .double, 2) := by decide +kernel
theorem dX3_init_15 : decode cX3_init 15 = .ok (.putfield 15, 3) := by decide +kernel
theorem dX3_init_18 : decode cX3_init 18 = .ok (.aload_n 0, 1) := by decide +kernel
theorem dX3_init_19 : decode cX3_init 19 = .ok (.iconst 4, 1) := by decide +kernel
theorem dX3_init_20 : decode cX3_init 20 = .ok (.newarray .double, 2) := by decide +kernel
theorem dX3_init_22 : decode cX3_init 22 = .ok (.putfield 19, 3) := by decide +kernel
theorem dX3_init_25 : decode cX3_init 25 = .ok (.aload_n 0, 1) := by decide +kernel
theorem dX3_init_26 : decode cX3_init 26 = .ok (.bipush 10, 2) := by decide +kernel
theorem dX3_init_28 : decode cX3_init 28 = .ok (.putfield 22, 3) := by decide +kernel
theorem dX3_init_31 : decode cX3_init 31 = .ok (.aload_n 0, 1) := by decide +kernel
theorem dX3_init_32 : decode cX3_init 32 = .ok (.iconst 0, 1) := by decide +kernel
theorem dX3_init_33 : decode cX3_init 33 = .ok (.putfield 26, 3) := by decide +kernel
theorem dX3_init_36 : decode cX3_init 36 = .ok (.return_, 1) := by decide +kernel
theorem dX3_has_0 : decode cX3_has 0 = .ok (.iload_n 1, 1) := by decide +kernel
theorem dX3_has_1 : decode cX3_has 1 = .ok (.ifCond .lt 21, 3) := by decide +kernel
theorem dX3_has_4 : decode cX3_has 4 = .ok (.iload_n 1, 1) := by decide +kernel
theorem dX3_has_5 : decode cX3_has 5 = .ok (.iconst 4, 1) := by decide +kernel
theorem dX3_has_6 : decode cX3_has 6 = .ok (.if_icmp .ge 16, 3) := by decide +kernel
theorem dX3_has_9 : decode cX3_has 9 = .ok (.aload_n 0, 1) := by decide +kernel
theorem dX3_has_10 : decode cX3_has 10 = .ok (.getfield 9, 3) := by decide +kernel
theorem dX3_has_13 : decode cX3_has 13 = .ok (.iload_n 1, 1) := by decide +kernel
theorem dX3_has_14 : decode cX3_has 14 = .ok (.baload, 1) := by decide +kernel
theorem dX3_has_15 : decode cX3_has 15 = .ok (.ifCond .eq 7, 3) := by decide +kernel
theorem dX3_has_18 : decode cX3_has 18 = .ok (.iconst 1, 1) := by decide +kernel
theorem dX3_has_19 : decode cX3_has 19 = .ok (.goto 4, 3) := by decide +kernel
theorem dX3_has_22 : decode cX3_has 22 = .ok (.iconst 0, 1) := by decide +kernel
theorem dX3_has_23 : decode cX3_has 23 = .ok (.ireturn, 1) := by decide +kernel
theorem dX3_put_0 : decode cX3_put 0 = .ok (.iload_n 1, 1) := by decide +kernel
theorem dX3_put_1 : decode cX3_put 1 = .ok (.ifCond .lt 8, 3) := by decide +kernel
theorem dX3_put_4 : decode cX3_put 4 = .ok (.iload_n 1, 1) := by decide +kernel
theorem dX3_put_5 : decode cX3_put 5 = .ok (.iconst 4, 1) := by decide +kernel
theorem dX3_put_6 : decode cX3_put 6 = .ok (.if_icmp .lt 5, 3) := by decide +kernel
theorem dX3_put_9 : decode cX3_put 9 = .ok (.iconst 0, 1) := by decide +kernel
theorem dX3_put_10 : decode cX3_put 10 = .ok (.ireturn, 1) := by decide +kernel
theorem dX3_put_11 : decode cX3_put 11 = .ok (.aload_n 0, 1) := by decide +kernel
theorem dX3_put_12 : decode cX3_put 12 = .ok (.getfield 9, 3) := by decide +kernel
theorem dX3_put_15 : decode cX3_put 15 = .ok (.iload_n 1, 1) := by decide +kernel
theorem dX3_put_16 : decode cX3_put 16 = .ok (.baload, 1) := by decide +kernel
theorem dX3_put_17 : decode cX3_put 17 = .ok (.istore_n 3, 1) := by decide +kernel
theorem dX3_put_18 : decode cX3_put 18 = .ok (.aload_n 0, 1) := by decide +kernel
theorem dX3_put_19 : decode cX3_put 19 = .ok (.getfield 9, 3) := by decide +kernel
theorem dX3_put_22 : decode cX3_put 22 = .ok (.iload_n 1, 1) := by decide +kernel
theorem dX3_put_23 : decode cX3_put 23 = .ok (.iconst 1, 1) := by decide +kernel
theorem dX3_put_24 : decode cX3_put 24 = .ok (.bastore, 1) := by decide +kernel
theorem dX3_put_25 : decode cX3_put 25 = .ok (.aload_n 0, 1) := by decide +kernel
theorem dX3_put_26 : decode cX3_put 26 = .ok (.getfield 15, 3) := by decide +kernel
theorem dX3_put_29 : decode cX3_put 29 = .ok (.iload_n 1, 1) := by decide +kernel
theorem dX3_put_30 : decode cX3_put 30 = .ok (.fload_n 2, 1) := by decide +kernel
theorem dX3_put_31 : decode cX3_put 31 = .ok (.f2d, 1) := by decide +kernel
theorem dX3_put_32 : decode cX3_put 32 = .ok (.dastore, 1) := by decide +kernel
theorem dX3_put_33 : decode cX3_put 33 = .ok (.aload_n 0, 1) := by decide +kernel
theorem dX3_put_34 : decode cX3_put 34 = .ok (.getfield 19, 3) := by decide +kernel
theorem dX3_put_37 : decode cX3_put 37 = .ok (.iload_n 1, 1) := by decide +kernel
theorem dX3_put_38 : decode cX3_put 38 = .ok (.dconst 0, 1) := by decide +kernel
theorem dX3_put_39 : decode cX3_put 39 = .ok (.dastore, 1) := by decide +kernel
theorem dX3_put_40 : decode cX3_put 40 = .ok (.iload_n 3, 1) := by decide +kernel
theorem dX3_put_41 : decode cX3_put 41 = .ok (.ireturn, 1) := by decide +kernel
theorem dX3_count_0 : decode cX3_count 0 = .ok (.iconst 0, 1) := by decide +kernel
theorem dX3_count_1 : decode cX3_count 1 = .ok (.istore_n 1, 1) := by decide +kernel
theorem dX3_count_2 : decode cX3_count 2 = .ok (.iconst 0, 1) := by decide +kernel
theorem dX3_count_3 : decode cX3_count 3 = .ok (.istore_n 2, 1) := by decide +kernel
theorem dX3_count_4 : decode cX3_count 4 = .ok (.iload_n 2, 1) := by decide +kernel
theorem dX3_count_5 : decode cX3_count 5 = .ok (.iconst 4, 1) := by decide +kernel
theorem dX3_count_6 : decode cX3_count 6 = .ok (.if_icmp .ge 21, 3) := by decide +kernel
theorem dX3_count_9 : decode cX3_count 9 = .ok (.aload_n 0, 1) := by decide +kernel
theorem dX3_count_10 : decode cX3_count 10 = .ok (.getfield 9, 3) := by decide +kernel
theorem dX3_count_13 : decode cX3_count 13 = .ok (.iload_n 2, 1) := by decide +kernel
theorem dX3_count_14 : decode cX3_count 14 = .ok (.baload, 1) := by decide +kernel
theorem dX3_count_15 : decode cX3_count 15 = .ok (.ifCond .eq 6, 3) := by decide +kernel
theorem dX3_count_18 : decode cX3_count 18 = .ok (.iinc 1 1, 3) := by decide +kernel
theorem dX3_count_21 : decode cX3_count 21 = .ok (.iinc 2 1, 3) := by decide +kernel
theorem dX3_count_24 : decode cX3_count 24 = .ok (.goto (-20), 3) := by decide +kernel
theorem dX3_count_27 : decode cX3_count 27 = .ok (.iload_n 1, 1) := by decide +kernel
theorem dX3_count_28 : decode cX3_count 28 = .ok (.ireturn, 1) := by decide +kernel
set_option maxRecDepth 20000 in
theorem ggX3_step_X3_meanAngle : GoodIn wsX3_step wsX3_meanAngle := goodIn_ca (goodIn_r _ [11, 1, 3, 12, 13, 10, 14, 15, 16, 17, 18, 19, 20, 21, 22, 23, 24, 25, 26, 27, 28, 29, 30, 37, 38, 39, 40, 41] (by decide +kernel) (by decide +kernel)) (goodIn_sub (fun _ h => List.mem_cons_of_mem _ (List.mem_append_right _ h)) (by decide +kernel))
set_option maxRecDepth 20000 in
theorem gX3_step_X3_meanAngle : GoodIn wsX3_step (wsV RX3 29 RX3 yX3_meanAngle wsX3_meanAngle) := goodIn_app (goodIn_of _ (by decide +kernel)) ggX3_step_X3_meanAngle
set_option maxRecDepth 20000 in
theorem ggX3_step_X3_minus : GoodIn wsX3_step wsX3_minus := goodIn_r _ [33, 15, 16, 10, 17, 18, 19, 20, 21, 12, 13, 14, 22, 23, 24, 25, 26] (by decide +kernel) (by decide +kernel)
set_option maxRecDepth 20000 in
theorem gX3_step_X3_minus : GoodIn wsX3_step (va_wsS RX3 33 yX3_minus wsX3_minus) := goodIn_app (goodIn_of _ (by decide +kernel)) ggX3_step_X3_minus
set_option maxRecDepth 20000 in
theorem ggX3_step_X3_times : GoodIn wsX3_step wsX3_times := goodIn_r _ [36, 15, 16, 10, 17, 18, 19, 20, 21, 22, 23, 24, 25, 26] (by decide +kernel) (by decide +kernel)
set_option maxRecDepth 20000 in
theorem gX3_step_X3_times : GoodIn wsX3_step (va_wsS RX3 37 yX3_times wsX3_times) := goodIn_app (goodIn_of _ (by decide +kernel)) ggX3_step_X3_times
set_option maxRecDepth 20000 in
theorem ggX3_step_X3_plus : GoodIn wsX3_step wsX3_plus := goodIn_r _ [14, 15, 16, 10, 17, 18, 19, 20, 21, 22, 23, 24, 25, 26] (by decide +kernel) (by decide +kernel)
set_option maxRecDepth 20000 in
theorem gX3_step_X3_plus : GoodIn wsX3_step (va_wsS RX3 42 yX3_plus wsX3_plus) := goodIn_app (goodIn_of _ (by decide +kernel)) ggX3_step_X3_plus
theorem dX3_step_0 : decode cX3_step 0 = .ok (.aload_n 0, 1) := by decide +kernel
theorem dX3_step_1 : decode cX3_step 1 = .ok (.invokevirtual 29, 3) := by decide +kernel
theorem dX3_step_4 : decode cX3_step 4 = .ok (.dstore_n 1, 1) := by decide +kernel
theorem dX3_step_5 : decode cX3_step 5 = .ok (.iconst 0, 1) := by decide +kernel
theorem dX3_step_6 : decode cX3_step 6 = .ok (.istore_n 3, 1) := by decide +kernel
theorem dX3_step_7 : decode cX3_step 7 = .ok (.iload_n 3, 1) := by decide +kernel
theorem dX3_step_8 : decode cX3_step 8 = .ok (.iconst 4, 1) := by decide +kernel
theorem dX3_step_9 : decode cX3_step 9 = .ok (.if_icmp .ge 82, 3) := by decide +kernel
theorem dX3_step_12 : decode cX3_step 12 = .ok (.aload_n 0, 1) := by decide +kernel
theorem dX3_step_13 : decode cX3_step 13 = .ok (.getfield 9, 3) := by decide +kernel
theorem dX3_step_16 : decode cX3_step 16 = .ok (.iload_n 3, 1) := by decide +kernel
theorem dX3_step_17 : decode cX3_step 17 = .ok (.baload, 1) := by decide +kernel
theorem dX3_step_18 : decode cX3_step 18 = .ok (.ifCond .eq 67, 3) := by decide +kernel
theorem dX3_step_21 : decode cX3_step 21 = .ok (.aload_n 0, 1) := by decide +kernel
theorem dX3_step_22 : decode cX3_step 22 = .ok (.getfield 26, 3) := by decide +kernel
theorem dX3_step_25 : decode cX3_step 25 = .ok (.i2d, 1) := by decide +kernel
theorem dX3_step_26 : decode cX3_step 26 = .ok (.dload_n 1, 1) := by decide +kernel
theorem dX3_step_27 : decode cX3_step 27 = .ok (.aload_n 0, 1) := by decide +kernel
theorem dX3_step_28 : decode cX3_step 28 = .ok (.getfield 15, 3) := by decide +kernel
theorem dX3_step_31 : decode cX3_step 31 = .ok (.iload_n 3, 1) := by decide +kernel
theorem dX3_step_32 : decode cX3_step 32 = .ok (.daload, 1) := by decide +kernel
theorem dX3_step_33 : decode cX3_step 33 = .ok (.invokestatic 33, 3) := by decide +kernel
theorem dX3_step_36 : decode cX3_step 36 = .ok (.invokestatic 37, 3) := by decide +kernel
theorem dX3_step_39 : decode cX3_step 39 = .ok (.dstore 4, 2) := by decide +kernel
theorem dX3_step_41 : decode cX3_step 41 = .ok (.aload_n 0, 1) := by decide +kernel
theorem dX3_step_42 : decode cX3_step 42 = .ok (.getfield 22, 3) := by decide +kernel
theorem dX3_step_45 : decode cX3_step 45 = .ok (.i2d, 1) := by decide +kernel
theorem dX3_step_46 : decode cX3_step 46 = .ok (.aload_n 0, 1) := by decide +kernel
theorem dX3_step_47 : decode cX3_step 47 = .ok (.getfield 15, 3) := by decide +kernel
theorem dX3_step_50 : decode cX3_step 50 = .ok (.iload_n 3, 1) := by decide +kernel
theorem dX3_step_51 : decode cX3_step 51 = .ok (.daload, 1) := by decide +kernel
theorem dX3_step_52 : decode cX3_step 52 = .ok (.invokestatic 37, 3) := by decide +kernel
theorem dX3_step_55 : decode cX3_step 55 = .ok (.dstore 6, 2) := by decide +kernel
theorem dX3_step_57 : decode cX3_step 57 = .ok (.aload_n 0, 1) := by decide +kernel
theorem dX3_step_58 : decode cX3_step 58 = .ok (.getfield 19, 3) := by decide +kernel
theorem dX3_step_61 : decode cX3_step 61 = .ok (.iload_n 3, 1) := by decide +kernel
theorem dX3_step_62 : decode cX3_step 62 = .ok (.aload_n 0, 1) := by decide +kernel
theorem dX3_step_63 : decode cX3_step 63 = .ok (.getfield 19, 3) := by decide +kernel
theorem dX3_step_66 : decode cX3_step 66 = .ok (.iload_n 3, 1) := by decide +kernel
theorem dX3_step_67 : decode cX3_step 67 = .ok (.daload, 1) := by decide +kernel
theorem dX3_step_68 : decode cX3_step 68 = .ok (.ldc2_w 40, 3) := by decide +kernel
theorem dX3_step_71 : decode cX3_step 71 = .ok (.dload 4, 2) := by decide +kernel
theorem dX3_step_73 : decode cX3_step 73 = .ok (.dload 6, 2) := by decide +kernel
theorem dX3_step_75 : decode cX3_step 75 = .ok (.invokestatic 33, 3) := by decide +kernel
theorem dX3_step_78 : decode cX3_step 78 = .ok (.invokestatic 37, 3) := by decide +kernel
theorem dX3_step_81 : decode cX3_step 81 = .ok (.invokestatic 42, 3) := by decide +kernel
theorem dX3_step_84 : decode cX3_step 84 = .ok (.dastore, 1) := by decide +kernel
theorem dX3_step_85 : decode cX3_step 85 = .ok (.iinc 3 1, 3) := by decide +kernel
theorem dX3_step_88 : decode cX3_step 88 = .ok (.goto (-81), 3) := by decide +kernel
theorem dX3_step_91 : decode cX3_step 91 = .ok (.iconst 0, 1) := by decide +kernel
theorem dX3_step_92 : decode cX3_step 92 = .ok (.istore_n 3, 1) := by decide +kernel
theorem dX3_step_93 : decode cX3_step 93 = .ok (.iload_n 3, 1) := by decide +kernel
theorem dX3_step_94 : decode cX3_step 94 = .ok (.iconst 4, 1) := by decide +kernel
theorem dX3_step_95 : decode cX3_step 95 = .ok (.if_icmp .ge 45, 3) := by decide +kernel
theorem dX3_step_98 : decode cX3_step 98 = .ok (.aload_n 0, 1) := by decide +kernel
theorem dX3_step_99 : decode cX3_step 99 = .ok (.getfield 9, 3) := by decide +kernel
theorem dX3_step_102 : decode cX3_step 102 = .ok (.iload_n 3, 1) := by decide +kernel
theorem dX3_step_103 : decode cX3_step 103 = .ok (.baload, 1) := by decide +kernel
theorem dX3_step_104 : decode cX3_step 104 = .ok (.ifCond .eq 30, 3) := by decide +kernel
theorem dX3_step_107 : decode cX3_step 107 = .ok (.aload_n 0, 1) := by decide +kernel
theorem dX3_step_108 : decode cX3_step 108 = .ok (.getfield 15, 3) := by decide +kernel
theorem dX3_step_111 : decode cX3_step 111 = .ok (.iload_n 3, 1) := by decide +kernel
theorem dX3_step_112 : decode cX3_step 112 = .ok (.aload_n 0, 1) := by decide +kernel
theorem dX3_step_113 : decode cX3_step 113 = .ok (.getfield 15, 3) := by decide +kernel
theorem dX3_step_116 : decode cX3_step 116 = .ok (.iload_n 3, 1) := by decide +kernel
theorem dX3_step_117 : decode cX3_step 117 = .ok (.daload, 1) := by decide +kernel
theorem dX3_step_118 : decode cX3_step 118 = .ok (.ldc2_w 40, 3) := by decide +kernel
theorem dX3_step_121 : decode cX3_step 121 = .ok (.aload_n 0, 1) := by decide +kernel
theorem dX3_step_122 : decode cX3_step 122 = .ok (.getfield 19, 3) := by decide +kernel
theorem dX3_step_125 : decode cX3_step 125 = .ok (.iload_n 3, 1) := by decide +kernel
theorem dX3_step_126 : decode cX3_step 126 = .ok (.daload, 1) := by decide +kernel
theorem dX3_step_127 : decode cX3_step 127 = .ok (.invokestatic 37, 3) := by decide +kernel
theorem dX3_step_130 : decode cX3_step 130 = .ok (.invokestatic 42, 3) := by decide +kernel
theorem dX3_step_133 : decode cX3_step 133 = .ok (.dastore, 1) := by decide +kernel
theorem dX3_step_134 : decode cX3_step 134 = .ok (.iinc 3 1, 3) := by decide +kernel
theorem dX3_step_137 : decode cX3_step 137 = .ok (.goto (-44), 3) := by decide +kernel
theorem dX3_step_140 : decode cX3_step 140 = .ok (.return_, 1) := by decide +kernel
set_option maxRecDepth 20000 in
theorem ggX3_meanAngle_X3_plus : GoodIn wsX3_meanAngle wsX3_plus := goodIn_r _ [6, 7, 8, 5, 9, 10, 11, 12, 13, 14, 15, 16, 17, 18] (by decide +kernel) (by decide +kernel)
set_option maxRecDepth 20000 in
theorem gX3_meanAngle_X3_plus : GoodIn wsX3_meanAngle (va_wsS RX3 42 yX3_plus wsX3_plus) := goodIn_app (goodIn_of _ (by decide +kernel)) ggX3_meanAngle_X3_plus
set_option maxRecDepth 20000 in
theorem ggX3_meanAngle_X3_count : GoodIn wsX3_meanAngle wsX3_count := goodIn_ca (goodIn_r _ [22, 1, 23, 24, 25, 26, 27] (by decide +kernel) (by decide +kernel)) (goodIn_sub (fun _ h => List.mem_cons_of_mem _ (List.mem_append_right _ h)) (by decide +kernel))
set_option maxRecDepth 20000 in
theorem gX3_meanAngle_X3_count : GoodIn wsX3_meanAngle (wsV RX3 45 RX3 yX3_count wsX3_count) := goodIn_app (goodIn_of _ (by decide +kernel)) ggX3_meanAngle_X3_count
set_option maxRecDepth 20000 in
theorem ggX3_meanAngle_X3_isLost : GoodIn wsX3_meanAngle wsX3_isLost := goodIn_r _ [9, 10, 11, 5, 12, 13] (by decide +kernel) (by decide +kernel)
set_option maxRecDepth 20000 in
theorem gX3_meanAngle_X3_isLost : GoodIn wsX3_meanAngle (va_wsS RX3 49 yX3_isLost wsX3_isLost) := goodIn_app (goodIn_of _ (by decide +kernel)) ggX3_meanAngle_X3_isLost
theorem dX3_meanAngle_0 : decode cX3_meanAngle 0 = .ok (.dconst 0, 1) := by decide +kernel
theorem dX3_meanAngle_1 : decode cX3_meanAngle 1 = .ok (.dstore_n 1, 1) := by decide +kernel
theorem dX3_meanAngle_2 : decode cX3_meanAngle 2 = .ok (.iconst 0, 1) := by decide +kernel
theorem dX3_meanAngle_3 : decode cX3_meanAngle 3 = .ok (.istore_n 3, 1) := by decide +kernel
theorem dX3_meanAngle_4 : decode cX3_meanAngle 4 = .ok (.iload_n 3, 1) := by decide +kernel
theorem dX3_meanAngle_5 : decode cX3_meanAngle 5 = .ok (.iconst 4, 1) := by decide +kernel
theorem dX3_meanAngle_6 : decode cX3_meanAngle 6 = .ok (.if_icmp .ge 29, 3) := by decide +kernel
theorem dX3_meanAngle_9 : decode cX3_meanAngle 9 = .ok (.aload_n 0, 1) := by decide +kernel
theorem dX3_meanAngle_10 : decode cX3_meanAngle 10 = .ok (.getfield 9, 3) := by decide +kernel
theorem dX3_meanAngle_13 : decode cX3_meanAngle 13 = .ok (.iload_n 3, 1) := by decide +kernel
theorem dX3_meanAngle_14 : decode cX3_meanAngle 14 = .ok (.baload, 1) := by decide +kernel
theorem dX3_meanAngle_15 : decode cX3_meanAngle 15 = .ok (.ifCond .eq 14, 3) := by decide +kernel
theorem dX3_meanAngle_18 : decode cX3_meanAngle 18 = .ok (.dload_n 1, 1) := by decide +kernel
theorem dX3_meanAngle_19 : decode cX3_meanAngle 19 = .ok (.aload_n 0, 1) := by decide +kernel
theorem dX3_meanAngle_20 : decode cX3_meanAngle 20 = .ok (.getfield 15, 3) := by decide +kernel
theorem dX3_meanAngle_23 : decode cX3_meanAngle 23 = .ok (.iload_n 3, 1) := by decide +kernel
theorem dX3_meanAngle_24 : decode cX3_meanAngle 24 = .ok (.daload, 1) := by decide +kernel
theorem dX3_meanAngle_25 : decode cX3_meanAngle 25 = .ok (.invokestatic 42, 3) := by decide +kernel
theorem dX3_meanAngle_28 : decode cX3_meanAngle 28 = .ok (.dstore_n 1, 1) := by decide +kernel
theorem dX3_meanAngle_29 : decode cX3_meanAngle 29 = .ok (.iinc 3 1, 3) := by decide +kernel
theorem dX3_meanAngle_32 : decode cX3_meanAngle 32 = .ok (.goto (-28), 3) := by decide +kernel
theorem dX3_meanAngle_35 : decode cX3_meanAngle 35 = .ok (.aload_n 0, 1) := by decide +kernel
theorem dX3_meanAngle_36 : decode cX3_meanAngle 36 = .ok (.invokevirtual 45, 3) := by decide +kernel
theorem dX3_meanAngle_39 : decode cX3_meanAngle 39 = .ok (.istore_n 3, 1) := by decide +kernel
theorem dX3_meanAngle_40 : decode cX3_meanAngle 40 = .ok (.iload_n 3, 1) := by decide +kernel
theorem dX3_meanAngle_41 : decode cX3_meanAngle 41 = .ok (.ifCond .eq 10, 3) := by decide +kernel
theorem dX3_meanAngle_44 : decode cX3_meanAngle 44 = .ok (.dload_n 1, 1) := by decide +kernel
theorem dX3_meanAngle_45 : decode cX3_meanAngle 45 = .ok (.invokestatic 49, 3) := by decide +kernel
theorem dX3_meanAngle_48 : decode cX3_meanAngle 48 = .ok (.ifCond .eq 7, 3) := by decide +kernel
theorem dX3_meanAngle_51 : decode cX3_meanAngle 51 = .ok (.dload_n 1, 1) := by decide +kernel
theorem dX3_meanAngle_52 : decode cX3_meanAngle 52 = .ok (.goto 9, 3) := by decide +kernel
theorem dX3_meanAngle_55 : decode cX3_meanAngle 55 = .ok (.dload_n 1, 1) := by decide +kernel
theorem dX3_meanAngle_56 : decode cX3_meanAngle 56 = .ok (.d2f, 1) := by decide +kernel
theorem dX3_meanAngle_57 : decode cX3_meanAngle 57 = .ok (.iload_n 3, 1) := by decide +kernel
theorem dX3_meanAngle_58 : decode cX3_meanAngle 58 = .ok (.i2f, 1) := by decide +kernel
theorem dX3_meanAngle_59 : decode cX3_meanAngle 59 = .ok (.fdiv, 1) := by decide +kernel
theorem dX3_meanAngle_60 : decode cX3_meanAngle 60 = .ok (.f2d, 1) := by decide +kernel
theorem dX3_meanAngle_61 : decode cX3_meanAngle 61 = .ok (.dreturn, 1) := by decide +kernel
theorem dX3_lost_0 : decode cX3_lost 0 = .ok (.ldc2_w 53, 3) := by decide +kernel
theorem dX3_lost_3 : decode cX3_lost 3 = .ok (.dreturn, 1) := by decide +kernel
set_option maxRecDepth 20000 in
theorem ggX3_isLost_X3_lost : GoodIn wsX3_isLost wsX3_lost := goodIn_r _ [4, 5] (by decide +kernel) (by decide +kernel)
set_option maxRecDepth 20000 in
theorem gX3_isLost_X3_lost : GoodIn wsX3_isLost (va_wsS RX3 55 yX3_lost wsX3_lost) := goodIn_app (goodIn_of _ (by decide +kernel)) ggX3_isLost_X3_lost
theorem dX3_isLost_0 : decode cX3_isLost 0 = .ok (.dload_n 0, 1) := by decide +kernel
theorem dX3_isLost_1 : decode cX3_isLost 1 = .ok (.invokestatic 55, 3) := by decide +kernel
theorem dX3_isLost_4 : decode cX3_isLost 4 = .ok (.dcmp .l, 1) := by decide +kernel
theorem dX3_isLost_5 : decode cX3_isLost 5 = .ok (.ifCond .ne 7, 3) := by decide +kernel
theorem dX3_isLost_8 : decode cX3_isLost 8 = .ok (.iconst 1, 1) := by decide +kernel
theorem dX3_isLost_9 : decode cX3_isLost 9 = .ok (.goto 4, 3) := by decide +kernel
theorem dX3_isLost_12 : decode cX3_isLost 12 = .ok (.iconst 0, 1) := by decide +kernel
theorem dX3_isLost_13 : decode cX3_isLost 13 = .ok (.ireturn, 1) := by decide +kernel
theorem dX3_isEndless_0 : decode cX3_isEndless 0 = .ok (.dload_n 0, 1) := by decide +kernel
theorem dX3_isEndless_1 : decode cX3_isEndless 1 = .ok (.ldc2_w 58, 3) := by decide +kernel
theorem dX3_isEndless_4 : decode cX3_isEndless 4 = .ok (.dcmp .l, 1) := by decide +kernel
theorem dX3_isEndless_5 : decode cX3_isEndless 5 = .ok (.ifCond .gt 11, 3) := by decide +kernel
theorem dX3_isEndless_8 : decode cX3_isEndless 8 = .ok (.dload_n 0, 1) := by decide +kernel
theorem dX3_isEndless_9 : decode cX3_isEndless 9 = .ok (.ldc2_w 60, 3) := by decide +kernel
theorem dX3_isEndless_12 : decode cX3_isEndless 12 = .ok (.dcmp .g, 1) := by decide +kernel
theorem dX3_isEndless_13 : decode cX3_isEndless 13 = .ok (.ifCond .ge 7, 3) := by decide +kernel
theorem dX3_isEndless_16 : decode cX3_isEndless 16 = .ok (.iconst 1, 1) := by decide +kernel
theorem dX3_isEndless_17 : decode cX3_isEndless 17 = .ok (.goto 4, 3) := by decide +kernel
theorem dX3_isEndless_20 : decode cX3_isEndless 20 = .ok (.iconst 0, 1) := by decide +kernel
theorem dX3_isEndless_21 : decode cX3_isEndless 21 = .ok (.ireturn, 1) := by decide +kernel
set_option maxRecDepth 20000 in
theorem ggX3_plus_X3_isLost : GoodIn wsX3_plus wsX3_isLost := goodIn_r _ [4, 5, 6, 3, 7, 8] (by decide +kernel) (by decide +kernel)
set_option maxRecDepth 20000 in
theorem gX3_plus_X3_isLost : GoodIn wsX3_plus (va_wsS RX3 49 yX3_isLost wsX3_isLost) := goodIn_app (goodIn_of _ (by decide +kernel)) ggX3_plus_X3_isLost
set_option maxRecDepth 20000 in
theorem ggX3_plus_X3_isEndless : GoodIn wsX3_plus wsX3_isEndless := goodIn_r _ [11, 12, 13] (by decide +kernel) (by decide +kernel)
set_option maxRecDepth 20000 in
theorem gX3_plus_X3_isEndless : GoodIn wsX3_plus (va_wsS RX3 62 yX3_isEndless wsX3_isEndless) := goodIn_app (goodIn_of _ (by decide +kernel)) ggX3_plus_X3_isEndless
set_option maxRecDepth 20000 in
theorem ggX3_plus_X3_lost : GoodIn wsX3_plus wsX3_lost := goodIn_r _ [7, 8] (by decide +kernel) (by decide +kernel)
set_option maxRecDepth 20000 in
theorem gX3_plus_X3_lost : GoodIn wsX3_plus (va_wsS RX3 55 yX3_lost wsX3_lost) := goodIn_app (goodIn_of _ (by decide +kernel)) ggX3_plus_X3_lost
theorem dX3_plus_0 : decode cX3_plus 0 = .ok (.dload_n 0, 1) := by decide +kernel
theorem dX3_plus_1 : decode cX3_plus 1 = .ok (.invokestatic 49, 3) := by decide +kernel
theorem dX3_plus_4 : decode cX3_plus 4 = .ok (.ifCond .ne 49, 3) := by decide +kernel
theorem dX3_plus_7 : decode cX3_plus 7 = .ok (.dload_n 2, 1) := by decide +kernel
theorem dX3_plus_8 : decode cX3_plus 8 = .ok (.invokestatic 49, 3) := by decide +kernel
theorem dX3_plus_11 : decode cX3_plus 11 = .ok (.ifCond .ne 42, 3) := by decide +kernel
theorem dX3_plus_14 : decode cX3_plus 14 = .ok (.dload_n 0, 1) := by decide +kernel
theorem dX3_plus_15 : decode cX3_plus 15 = .ok (.invokestatic 62, 3) := by decide +kernel
theorem dX3_plus_18 : decode cX3_plus 18 = .ok (.ifCond .eq 39, 3) := by decide +kernel
theorem dX3_plus_21 : decode cX3_plus 21 = .ok (.dload_n 2, 1) := by decide +kernel
theorem dX3_plus_22 : decode cX3_plus 22 = .ok (.invokestatic 62, 3) := by decide +kernel
theorem dX3_plus_25 : decode cX3_plus 25 = .ok (.ifCond .eq 32, 3) := by decide +kernel
theorem dX3_plus_28 : decode cX3_plus 28 = .ok (.dload_n 0, 1) := by decide +kernel
theorem dX3_plus_29 : decode cX3_plus 29 = .ok (.dconst 0, 1) := by decide +kernel
theorem dX3_plus_30 : decode cX3_plus 30 = .ok (.dcmp .l, 1) := by decide +kernel
theorem dX3_plus_31 : decode cX3_plus 31 = .ok (.ifCond .le 7, 3) := by decide +kernel
theorem dX3_plus_34 : decode cX3_plus 34 = .ok (.iconst 1, 1) := by decide +kernel
theorem dX3_plus_35 : decode cX3_plus 35 = .ok (.goto 4, 3) := by decide +kernel
theorem dX3_plus_38 : decode cX3_plus 38 = .ok (.iconst 0, 1) := by decide +kernel
theorem dX3_plus_39 : decode cX3_plus 39 = .ok (.dload_n 2, 1) := by decide +kernel
theorem dX3_plus_40 : decode cX3_plus 40 = .ok (.dconst 0, 1) := by decide +kernel
theorem dX3_plus_41 : decode cX3_plus 41 = .ok (.dcmp .l, 1) := by decide +kernel
theorem dX3_plus_42 : decode cX3_plus 42 = .ok (.ifCond .le 7, 3) := by decide +kernel
theorem dX3_plus_45 : decode cX3_plus 45 = .ok (.iconst 1, 1) := by decide +kernel
theorem dX3_plus_46 : decode cX3_plus 46 = .ok (.goto 4, 3) := by decide +kernel
theorem dX3_plus_49 : decode cX3_plus 49 = .ok (.iconst 0, 1) := by decide +kernel
theorem dX3_plus_50 : decode cX3_plus 50 = .ok (.if_icmp .eq 7, 3) := by decide +kernel
theorem dX3_plus_53 : decode cX3_plus 53 = .ok (.invokestatic 55, 3) := by decide +kernel
theorem dX3_plus_56 : decode cX3_plus 56 = .ok (.dreturn, 1) := by decide +kernel
theorem dX3_plus_57 : decode cX3_plus 57 = .ok (.dload_n 0, 1) := by decide +kernel
theorem dX3_plus_58 : decode cX3_plus 58 = .ok (.d2f, 1) := by decide +kernel
theorem dX3_plus_59 : decode cX3_plus 59 = .ok (.dload_n 2, 1) := by decide +kernel
theorem dX3_plus_60 : decode cX3_plus 60 = .ok (.d2f, 1) := by decide +kernel
theorem dX3_plus_61 : decode cX3_plus 61 = .ok (.fadd, 1) := by decide +kernel
theorem dX3_plus_62 : decode cX3_plus 62 = .ok (.f2d, 1) := by decide +kernel
theorem dX3_plus_63 : decode cX3_plus 63 = .ok (.dreturn, 1) := by decide +kernel
set_option maxRecDepth 20000 in
theorem ggX3_minus_X3_isLost : GoodIn wsX3_minus wsX3_isLost := goodIn_r _ [4, 5, 6, 3, 7, 8] (by decide +kernel) (by decide +kernel)
set_option maxRecDepth 20000 in
theorem gX3_minus_X3_isLost : GoodIn wsX3_minus (va_wsS RX3 49 yX3_isLost wsX3_isLost) := goodIn_app (goodIn_of _ (by decide +kernel)) ggX3_minus_X3_isLost
set_option maxRecDepth 20000 in
theorem ggX3_minus_X3_lost : GoodIn wsX3_minus wsX3_lost := goodIn_r _ [7, 8] (by decide +kernel) (by decide +kernel)
set_option maxRecDepth 20000 in
theorem gX3_minus_X3_lost : GoodIn wsX3_minus (va_wsS RX3 55 yX3_lost wsX3_lost) := goodIn_app (goodIn_of _ (by decide +kernel)) ggX3_minus_X3_lost
set_option maxRecDepth 20000 in
theorem ggX3_minus_X3_plus : GoodIn wsX3_minus wsX3_plus := goodIn_r _ [11, 1, 2, 3, 4, 5, 6, 7, 8, 12, 13, 14, 15, 16] (by decide +kernel) (by decide +kernel)
set_option maxRecDepth 20000 in
theorem gX3_minus_X3_plus : GoodIn wsX3_minus (va_wsS RX3 42 yX3_plus wsX3_plus) := goodIn_app (goodIn_of _ (by decide +kernel)) ggX3_minus_X3_plus
theorem dX3_minus_0 : decode cX3_minus 0 = .ok (.dload_n 2, 1) := by decide +kernel
theorem dX3_minus_1 : decode cX3_minus 1 = .ok (.invokestatic 49, 3) := by decide +kernel
theorem dX3_minus_4 : decode cX3_minus 4 = .ok (.ifCond .eq 9, 3) := by decide +kernel
theorem dX3_minus_7 : decode cX3_minus 7 = .ok (.invokestatic 55, 3) := by decide +kernel
theorem dX3_minus_10 : decode cX3_minus 10 = .ok (.goto 9, 3) := by decide +kernel
theorem dX3_minus_13 : decode cX3_minus 13 = .ok (.dload_n 0, 1) := by decide +kernel
theorem dX3_minus_14 : decode cX3_minus 14 = .ok (.dload_n 2, 1) := by decide +kernel
theorem dX3_minus_15 : decode cX3_minus 15 = .ok (.dneg, 1) := by decide +kernel
theorem dX3_minus_16 : decode cX3_minus 16 = .ok (.invokestatic 42, 3) := by decide +kernel
theorem dX3_minus_19 : decode cX3_minus 19 = .ok (.dreturn, 1) := by decide +kernel
set_option maxRecDepth 20000 in
theorem ggX3_times_X3_isLost : GoodIn wsX3_times wsX3_isLost := goodIn_r _ [4, 5, 6, 3, 7, 8] (by decide +kernel) (by decide +kernel)
set_option maxRecDepth 20000 in
theorem gX3_times_X3_isLost : GoodIn wsX3_times (va_wsS RX3 49 yX3_isLost wsX3_isLost) := goodIn_app (goodIn_of _ (by decide +kernel)) ggX3_times_X3_isLost
set_option maxRecDepth 20000 in
theorem ggX3_times_X3_isEndless : GoodIn wsX3_times wsX3_isEndless := goodIn_r _ [11, 12, 13] (by decide +kernel) (by decide +kernel)
set_option maxRecDepth 20000 in
theorem gX3_times_X3_isEndless : GoodIn wsX3_times (va_wsS RX3 62 yX3_isEndless wsX3_isEndless) := goodIn_app (goodIn_of _ (by decide +kernel)) ggX3_times_X3_isEndless
set_option maxRecDepth 20000 in
theorem ggX3_times_X3_lost : GoodIn wsX3_times wsX3_lost := goodIn_r _ [7, 8] (by decide +kernel) (by decide +kernel)
set_option maxRecDepth 20000 in
theorem gX3_times_X3_lost : GoodIn wsX3_times (va_wsS RX3 55 yX3_lost wsX3_lost) := goodIn_app (goodIn_of _ (by decide +kernel)) ggX3_times_X3_lost
theorem dX3_times_0 : decode cX3_times 0 = .ok (.dload_n 0, 1) := by decide +kernel
theorem dX3_times_1 : decode cX3_times 1 = .ok (.invokestatic 49, 3) := by decide +kernel
theorem dX3_times_4 : decode cX3_times 4 = .ok (.ifCond .ne 36, 3) := by decide +kernel
theorem dX3_times_7 : decode cX3_times 7 = .ok (.dload_n 2, 1) := by decide +kernel
theorem dX3_times_8 : decode cX3_times 8 = .ok (.invokestatic 49, 3) := by decide +kernel
theorem dX3_times_11 : decode cX3_times 11 = .ok (.ifCond .ne 29, 3) := by decide +kernel
theorem dX3_times_14 : decode cX3_times 14 = .ok (.dload_n 0, 1) := by decide +kernel
theorem dX3_times_15 : decode cX3_times 15 = .ok (.invokestatic 62, 3) := by decide +kernel
theorem dX3_times_18 : decode cX3_times 18 = .ok (.ifCond .eq 9, 3) := by decide +kernel
theorem dX3_times_21 : decode cX3_times 21 = .ok (.dload_n 2, 1) := by decide +kernel
theorem dX3_times_22 : decode cX3_times 22 = .ok (.dconst 0, 1) := by decide +kernel
theorem dX3_times_23 : decode cX3_times 23 = .ok (.dcmp .l, 1) := by decide +kernel
theorem dX3_times_24 : decode cX3_times 24 = .ok (.ifCond .eq 16, 3) := by decide +kernel
theorem dX3_times_27 : decode cX3_times 27 = .ok (.dload_n 0, 1) := by decide +kernel
theorem dX3_times_28 : decode cX3_times 28 = .ok (.dconst 0, 1) := by decide +kernel
theorem dX3_times_29 : decode cX3_times 29 = .ok (.dcmp .l, 1) := by decide +kernel
theorem dX3_times_30 : decode cX3_times 30 = .ok (.ifCond .ne 14, 3) := by decide +kernel
theorem dX3_times_33 : decode cX3_times 33 = .ok (.dload_n 2, 1) := by decide +kernel
theorem dX3_times_34 : decode cX3_times 34 = .ok (.invokestatic 62, 3) := by decide +kernel
theorem dX3_times_37 : decode cX3_times 37 = .ok (.ifCond .eq 7, 3) := by decide +kernel
theorem dX3_times_40 : decode cX3_times 40 = .ok (.invokestatic 55, 3) := by decide +kernel
theorem dX3_times_43 : decode cX3_times 43 = .ok (.dreturn, 1) := by decide +kernel
theorem dX3_times_44 : decode cX3_times 44 = .ok (.dload_n 0, 1) := by decide +kernel
theorem dX3_times_45 : decode cX3_times 45 = .ok (.d2f, 1) := by decide +kernel
theorem dX3_times_46 : decode cX3_times 46 = .ok (.dload_n 2, 1) := by decide +kernel
theorem dX3_times_47 : decode cX3_times 47 = .ok (.d2f, 1) := by decide +kernel
theorem dX3_times_48 : decode cX3_times 48 = .ok (.fmul, 1) := by decide +kernel
theorem dX3_times_49 : decode cX3_times 49 = .ok (.f2d, 1) := by decide +kernel
theorem dX3_times_50 : decode cX3_times 50 = .ok (.dreturn, 1) := by decide +kernel
set_option maxRecDepth 20000 in
theorem ggX3_bitsOfAngle_X3_has : GoodIn wsX3_bitsOfAngle wsX3_has := goodIn_ca (goodIn_r _ [6, 7, 25, 26, 27, 28, 29] (by decide +kernel) (by decide +kernel)) (goodIn_sub (fun _ h => List.mem_cons_of_mem _ (List.mem_append_right _ h)) (by decide +kernel))
set_option maxRecDepth 20000 in
theorem gX3_bitsOfAngle_X3_has : GoodIn wsX3_bitsOfAngle (wsV RX3 65 RX3 yX3_has wsX3_has) := goodIn_app (goodIn_of _ (by decide +kernel)) ggX3_bitsOfAngle_X3_has
set_option maxRecDepth 20000 in
theorem ggX3_bitsOfAngle_X3_bitsOf : GoodIn wsX3_bitsOfAngle wsX3_bitsOf := goodIn_r _ [10, 11, 12, 13, 14, 5, 15, 16, 17, 18, 19, 20, 21, 22, 23, 24] (by decide +kernel) (by decide +kernel)
set_option maxRecDepth 20000 in
theorem gX3_bitsOfAngle_X3_bitsOf : GoodIn wsX3_bitsOfAngle (va_wsS RX3 69 yX3_bitsOf wsX3_bitsOf) := goodIn_app (goodIn_of _ (by decide +kernel)) ggX3_bitsOfAngle_X3_bitsOf
theorem dX3_bitsOfAngle_0 : decode cX3_bitsOfAngle 0 = .ok (.aload_n 0, 1) := by decide +kernel
theorem dX3_bitsOfAngle_1 : decode cX3_bitsOfAngle 1 = .ok (.iload_n 1, 1) := by decide +kernel
theorem dX3_bitsOfAngle_2 : decode cX3_bitsOfAngle 2 = .ok (.invokevirtual 65, 3) := by decide +kernel
theorem dX3_bitsOfAngle_5 : decode cX3_bitsOfAngle 5 = .ok (.ifCond .eq 20, 3) := by decide +kernel
theorem dX3_bitsOfAngle_8 : decode cX3_bitsOfAngle 8 = .ok (.aload_n 0, 1) := by decide +kernel
theorem dX3_bitsOfAngle_9 : decode cX3_bitsOfAngle 9 = .ok (.getfield 15, 3) := by decide +kernel
theorem dX3_bitsOfAngle_12 : decode cX3_bitsOfAngle 12 = .ok (.iload_n 1, 1) := by decide +kernel
theorem dX3_bitsOfAngle_13 : decode cX3_bitsOfAngle 13 = .ok (.daload, 1) := by decide +kernel
theorem dX3_bitsOfAngle_14 : decode cX3_bitsOfAngle 14 = .ok (.bipush 23, 2) := by decide +kernel
theorem dX3_bitsOfAngle_16 : decode cX3_bitsOfAngle 16 = .ok (.bipush 127, 2) := by decide +kernel
theorem dX3_bitsOfAngle_18 : decode cX3_bitsOfAngle 18 = .ok (.invokestatic 69, 3) := by decide +kernel
theorem dX3_bitsOfAngle_21 : decode cX3_bitsOfAngle 21 = .ok (.l2i, 1) := by decide +kernel
theorem dX3_bitsOfAngle_22 : decode cX3_bitsOfAngle 22 = .ok (.goto 4, 3) := by decide +kernel
theorem dX3_bitsOfAngle_25 : decode cX3_bitsOfAngle 25 = .ok (.iconst 0, 1) := by decide +kernel
theorem dX3_bitsOfAngle_26 : decode cX3_bitsOfAngle 26 = .ok (.ireturn, 1) := by decide +kernel
set_option maxRecDepth 20000 in
theorem ggX3_bitsOfEnergy_X3_isLost : GoodIn wsX3_bitsOfEnergy wsX3_isLost := goodIn_r _ [9, 10, 11, 8, 12, 13] (by decide +kernel) (by decide +kernel)
set_option maxRecDepth 20000 in
theorem gX3_bitsOfEnergy_X3_isLost : GoodIn wsX3_bitsOfEnergy (va_wsS RX3 49 yX3_isLost wsX3_isLost) := goodIn_app (goodIn_of _ (by decide +kernel)) ggX3_bitsOfEnergy_X3_isLost
set_option maxRecDepth 20000 in
theorem ggX3_bitsOfEnergy_X3_lost : GoodIn wsX3_bitsOfEnergy wsX3_lost := goodIn_r _ [12, 13] (by decide +kernel) (by decide +kernel)
set_option maxRecDepth 20000 in
theorem gX3_bitsOfEnergy_X3_lost : GoodIn wsX3_bitsOfEnergy (va_wsS RX3 55 yX3_lost wsX3_lost) := goodIn_app (goodIn_of _ (by decide +kernel)) ggX3_bitsOfEnergy_X3_lost
set_option maxRecDepth 20000 in
theorem ggX3_bitsOfEnergy_X3_bitsOf : GoodIn wsX3_bitsOfEnergy wsX3_bitsOf := goodIn_r _ [16, 17, 18, 6, 7, 8, 9, 10, 11, 12, 13, 19, 20, 21, 22, 23] (by decide +kernel) (by decide +kernel)
set_option maxRecDepth 20000 in
theorem gX3_bitsOfEnergy_X3_bitsOf : GoodIn wsX3_bitsOfEnergy (va_wsS RX3 69 yX3_bitsOf wsX3_bitsOf) := goodIn_app (goodIn_of _ (by decide +kernel)) ggX3_bitsOfEnergy_X3_bitsOf
theorem dX3_bitsOfEnergy_0 : decode cX3_bitsOfEnergy 0 = .ok (.dconst 0, 1) := by decide +kernel
theorem dX3_bitsOfEnergy_1 : decode cX3_bitsOfEnergy 1 = .ok (.dstore_n 1, 1) := by decide +kernel
theorem dX3_bitsOfEnergy_2 : decode cX3_bitsOfEnergy 2 = .ok (.iconst 0, 1) := by decide +kernel
theorem dX3_bitsOfEnergy_3 : decode cX3_bitsOfEnergy 3 = .ok (.istore_n 3, 1) := by decide +kernel
theorem dX3_bitsOfEnergy_4 : decode cX3_bitsOfEnergy 4 = .ok (.iload_n 3, 1) := by decide +kernel
theorem dX3_bitsOfEnergy_5 : decode cX3_bitsOfEnergy 5 = .ok (.iconst 4, 1) := by decide +kernel
theorem dX3_bitsOfEnergy_6 : decode cX3_bitsOfEnergy 6 = .ok (.if_icmp .ge 98, 3) := by decide +kernel
theorem dX3_bitsOfEnergy_9 : decode cX3_bitsOfEnergy 9 = .ok (.aload_n 0, 1) := by decide +kernel
theorem dX3_bitsOfEnergy_10 : decode cX3_bitsOfEnergy 10 = .ok (.getfield 9, 3) := by decide +kernel
theorem dX3_bitsOfEnergy_13 : decode cX3_bitsOfEnergy 13 = .ok (.iload_n 3, 1) := by decide +kernel
theorem dX3_bitsOfEnergy_14 : decode cX3_bitsOfEnergy 14 = .ok (.baload, 1) := by decide +kernel
theorem dX3_bitsOfEnergy_15 : decode cX3_bitsOfEnergy 15 = .ok (.ifCond .eq 83, 3) := by decide +kernel
theorem dX3_bitsOfEnergy_18 : decode cX3_bitsOfEnergy 18 = .ok (.aload_n 0, 1) := by decide +kernel
theorem dX3_bitsOfEnergy_19 : decode cX3_bitsOfEnergy 19 = .ok (.getfield 15, 3) := by decide +kernel
theorem dX3_bitsOfEnergy_22 : decode cX3_bitsOfEnergy 22 = .ok (.iload_n 3, 1) := by decide +kernel
theorem dX3_bitsOfEnergy_23 : decode cX3_bitsOfEnergy 23 = .ok (.daload, 1) := by decide +kernel
theorem dX3_bitsOfEnergy_24 : decode cX3_bitsOfEnergy 24 = .ok (.invokestatic 49, 3) := by decide +kernel
theorem dX3_bitsOfEnergy_27 : decode cX3_bitsOfEnergy 27 = .ok (.ifCond .ne 15, 3) := by decide +kernel
theorem dX3_bitsOfEnergy_30 : decode cX3_bitsOfEnergy 30 = .ok (.aload_n 0, 1) := by decide +kernel
theorem dX3_bitsOfEnergy_31 : decode cX3_bitsOfEnergy 31 = .ok (.getfield 19, 3) := by decide +kernel
theorem dX3_bitsOfEnergy_34 : decode cX3_bitsOfEnergy 34 = .ok (.iload_n 3, 1) := by decide +kernel
theorem dX3_bitsOfEnergy_35 : decode cX3_bitsOfEnergy 35 = .ok (.daload, 1) := by decide +kernel
theorem dX3_bitsOfEnergy_36 : decode cX3_bitsOfEnergy 36 = .ok (.invokestatic 49, 3) := by decide +kernel
theorem dX3_bitsOfEnergy_39 : decode cX3_bitsOfEnergy 39 = .ok (.ifCond .eq 15, 3) := by decide +kernel
theorem dX3_bitsOfEnergy_42 : decode cX3_bitsOfEnergy 42 = .ok (.invokestatic 55, 3) := by decide +kernel
theorem dX3_bitsOfEnergy_45 : decode cX3_bitsOfEnergy 45 = .ok (.bipush 52, 2) := by decide +kernel
theorem dX3_bitsOfEnergy_47 : decode cX3_bitsOfEnergy 47 = .ok (.sipush 1023, 3) := by decide +kernel
theorem dX3_bitsOfEnergy_50 : decode cX3_bitsOfEnergy 50 = .ok (.invokestatic 69, 3) := by decide +kernel
theorem dX3_bitsOfEnergy_53 : decode cX3_bitsOfEnergy 53 = .ok (.lreturn, 1) := by decide +kernel
theorem dX3_bitsOfEnergy_54 : decode cX3_bitsOfEnergy 54 = .ok (.dload_n 1, 1) := by decide +kernel
theorem dX3_bitsOfEnergy_55 : decode cX3_bitsOfEnergy 55 = .ok (.ldc2_w 73, 3) := by decide +kernel
theorem dX3_bitsOfEnergy_58 : decode cX3_bitsOfEnergy 58 = .ok (.aload_n 0, 1) := by decide +kernel
theorem dX3_bitsOfEnergy_59 : decode cX3_bitsOfEnergy 59 = .ok (.getfield 19, 3) := by decide +kernel
theorem dX3_bitsOfEnergy_62 : decode cX3_bitsOfEnergy 62 = .ok (.iload_n 3, 1) := by decide +kernel
theorem dX3_bitsOfEnergy_63 : decode cX3_bitsOfEnergy 63 = .ok (.daload, 1) := by decide +kernel
theorem dX3_bitsOfEnergy_64 : decode cX3_bitsOfEnergy 64 = .ok (.aload_n 0, 1) := by decide +kernel
theorem dX3_bitsOfEnergy_65 : decode cX3_bitsOfEnergy 65 = .ok (.getfield 19, 3) := by decide +kernel
theorem dX3_bitsOfEnergy_68 : decode cX3_bitsOfEnergy 68 = .ok (.iload_n 3, 1) := by decide +kernel
theorem dX3_bitsOfEnergy_69 : decode cX3_bitsOfEnergy 69 = .ok (.daload, 1) := by decide +kernel
theorem dX3_bitsOfEnergy_70 : decode cX3_bitsOfEnergy 70 = .ok (.dmul, 1) := by decide +kernel
theorem dX3_bitsOfEnergy_71 : decode cX3_bitsOfEnergy 71 = .ok (.dmul, 1) := by decide +kernel
theorem dX3_bitsOfEnergy_72 : decode cX3_bitsOfEnergy 72 = .ok (.ldc2_w 73, 3) := by decide +kernel
theorem dX3_bitsOfEnergy_75 : decode cX3_bitsOfEnergy 75 = .ok (.aload_n 0, 1) := by decide +kernel
theorem dX3_bitsOfEnergy_76 : decode cX3_bitsOfEnergy 76 = .ok (.getfield 22, 3) := by decide +kernel
theorem dX3_bitsOfEnergy_79 : decode cX3_bitsOfEnergy 79 = .ok (.i2d, 1) := by decide +kernel
theorem dX3_bitsOfEnergy_80 : decode cX3_bitsOfEnergy 80 = .ok (.dmul, 1) := by decide +kernel
theorem dX3_bitsOfEnergy_81 : decode cX3_bitsOfEnergy 81 = .ok (.aload_n 0, 1) := by decide +kernel
theorem dX3_bitsOfEnergy_82 : decode cX3_bitsOfEnergy 82 = .ok (.getfield 15, 3) := by decide +kernel
theorem dX3_bitsOfEnergy_85 : decode cX3_bitsOfEnergy 85 = .ok (.iload_n 3, 1) := by decide +kernel
theorem dX3_bitsOfEnergy_86 : decode cX3_bitsOfEnergy 86 = .ok (.daload, 1) := by decide +kernel
theorem dX3_bitsOfEnergy_87 : decode cX3_bitsOfEnergy 87 = .ok (.aload_n 0, 1) := by decide +kernel
theorem dX3_bitsOfEnergy_88 : decode cX3_bitsOfEnergy 88 = .ok (.getfield 15, 3) := by decide +kernel
theorem dX3_bitsOfEnergy_91 : decode cX3_bitsOfEnergy 91 = .ok (.iload_n 3, 1) := by decide +kernel
theorem dX3_bitsOfEnergy_92 : decode cX3_bitsOfEnergy 92 = .ok (.daload, 1) := by decide +kernel
theorem dX3_bitsOfEnergy_93 : decode cX3_bitsOfEnergy 93 = .ok (.dmul, 1) := by decide +kernel
theorem dX3_bitsOfEnergy_94 : decode cX3_bitsOfEnergy 94 = .ok (.dmul, 1) := by decide +kernel
theorem dX3_bitsOfEnergy_95 : decode cX3_bitsOfEnergy 95 = .ok (.dadd, 1) := by decide +kernel
theorem dX3_bitsOfEnergy_96 : decode cX3_bitsOfEnergy 96 = .ok (.dadd, 1) := by decide +kernel
theorem dX3_bitsOfEnergy_97 : decode cX3_bitsOfEnergy 97 = .ok (.dstore_n 1, 1) := by decide +kernel
theorem dX3_bitsOfEnergy_98 : decode cX3_bitsOfEnergy 98 = .ok (.iinc 3 1, 3) := by decide +kernel
theorem dX3_bitsOfEnergy_101 : decode cX3_bitsOfEnergy 101 = .ok (.goto (-97), 3) := by decide +kernel
theorem dX3_bitsOfEnergy_104 : decode cX3_bitsOfEnergy 104 = .ok (.dload_n 1, 1) := by decide +kernel
theorem dX3_bitsOfEnergy_105 : decode cX3_bitsOfEnergy 105 = .ok (.bipush 52, 2) := by decide +kernel
theorem dX3_bitsOfEnergy_107 : decode cX3_bitsOfEnergy 107 = .ok (.sipush 1023, 3) := by decide +kernel
theorem dX3_bitsOfEnergy_110 : decode cX3_bitsOfEnergy 110 = .ok (.invokestatic 69, 3) := by decide +kernel
theorem dX3_bitsOfEnergy_113 : decode cX3_bitsOfEnergy 113 = .ok (.lreturn, 1) := by decide +kernel
set_option maxRecDepth 20000 in
theorem ggX3_bitsOf_X3_isLost : GoodIn wsX3_bitsOf wsX3_isLost := goodIn_r _ [6, 7, 8, 5, 9, 10] (by decide +kernel) (by decide +kernel)
set_option maxRecDepth 20000 in
theorem gX3_bitsOf_X3_isLost : GoodIn wsX3_bitsOf (va_wsS RX3 49 yX3_isLost wsX3_isLost) := goodIn_app (goodIn_of _ (by decide +kernel)) ggX3_bitsOf_X3_isLost
set_option maxRecDepth 20000 in
theorem ggX3_bitsOf_X3_isEndless : GoodIn wsX3_bitsOf wsX3_isEndless := goodIn_r _ [13, 14, 15] (by decide +kernel) (by decide +kernel)
set_option maxRecDepth 20000 in
theorem gX3_bitsOf_X3_isEndless : GoodIn wsX3_bitsOf (va_wsS RX3 62 yX3_isEndless wsX3_isEndless) := goodIn_app (goodIn_of _ (by decide +kernel)) ggX3_bitsOf_X3_isEndless
theorem dX3_bitsOf_0 : decode cX3_bitsOf 0 = .ok (.ldc2_w 75, 3) := by decide +kernel
theorem dX3_bitsOf_3 : decode cX3_bitsOf 3 = .ok (.iload_n 3, 1) := by decide +kernel
theorem dX3_bitsOf_4 : decode cX3_bitsOf 4 = .ok (.i2l, 1) := by decide +kernel
theorem dX3_bitsOf_5 : decode cX3_bitsOf 5 = .ok (.lmul, 1) := by decide +kernel
theorem dX3_bitsOf_6 : decode cX3_bitsOf 6 = .ok (.lconst 1, 1) := by decide +kernel
theorem dX3_bitsOf_7 : decode cX3_bitsOf 7 = .ok (.ladd, 1) := by decide +kernel
theorem dX3_bitsOf_8 : decode cX3_bitsOf 8 = .ok (.iload_n 2, 1) := by decide +kernel
theorem dX3_bitsOf_9 : decode cX3_bitsOf 9 = .ok (.lshl, 1) := by decide +kernel
theorem dX3_bitsOf_10 : decode cX3_bitsOf 10 = .ok (.lstore 4, 2) := by decide +kernel
theorem dX3_bitsOf_12 : decode cX3_bitsOf 12 = .ok (.dload_n 0, 1) := by decide +kernel
theorem dX3_bitsOf_13 : decode cX3_bitsOf 13 = .ok (.invokestatic 49, 3) := by decide +kernel
theorem dX3_bitsOf_16 : decode cX3_bitsOf 16 = .ok (.ifCond .eq 12, 3) := by decide +kernel
theorem dX3_bitsOf_19 : decode cX3_bitsOf 19 = .ok (.lload 4, 2) := by decide +kernel
theorem dX3_bitsOf_21 : decode cX3_bitsOf 21 = .ok (.lconst 1, 1) := by decide +kernel
theorem dX3_bitsOf_22 : decode cX3_bitsOf 22 = .ok (.iload_n 2, 1) := by decide +kernel
theorem dX3_bitsOf_23 : decode cX3_bitsOf 23 = .ok (.iconst 1, 1) := by decide +kernel
theorem dX3_bitsOf_24 : decode cX3_bitsOf 24 = .ok (.isub, 1) := by decide +kernel
theorem dX3_bitsOf_25 : decode cX3_bitsOf 25 = .ok (.lshl, 1) := by decide +kernel
theorem dX3_bitsOf_26 : decode cX3_bitsOf 26 = .ok (.lor, 1) := by decide +kernel
theorem dX3_bitsOf_27 : decode cX3_bitsOf 27 = .ok (.lreturn, 1) := by decide +kernel
theorem dX3_bitsOf_28 : decode cX3_bitsOf 28 = .ok (.dload_n 0, 1) := by decide +kernel
theorem dX3_bitsOf_29 : decode cX3_bitsOf 29 = .ok (.dconst 0, 1) := by decide +kernel
theorem dX3_bitsOf_30 : decode cX3_bitsOf 30 = .ok (.dcmp .g, 1) := by decide +kernel
theorem dX3_bitsOf_31 : decode cX3_bitsOf 31 = .ok (.ifCond .ge 16, 3) := by decide +kernel
theorem dX3_bitsOf_34 : decode cX3_bitsOf 34 = .ok (.iload_n 3, 1) := by decide +kernel
theorem dX3_bitsOf_35 : decode cX3_bitsOf 35 = .ok (.i2l, 1) := by decide +kernel
theorem dX3_bitsOf_36 : decode cX3_bitsOf 36 = .ok (.lconst 1, 1) := by decide +kernel
theorem dX3_bitsOf_37 : decode cX3_bitsOf 37 = .ok (.ladd, 1) := by decide +kernel
theorem dX3_bitsOf_38 : decode cX3_bitsOf 38 = .ok (.ldc2_w 75, 3) := by decide +kernel
theorem dX3_bitsOf_41 : decode cX3_bitsOf 41 = .ok (.lmul, 1) := by decide +kernel
theorem dX3_bitsOf_42 : decode cX3_bitsOf 42 = .ok (.iload_n 2, 1) := by decide +kernel
theorem dX3_bitsOf_43 : decode cX3_bitsOf 43 = .ok (.lshl, 1) := by decide +kernel
theorem dX3_bitsOf_44 : decode cX3_bitsOf 44 = .ok (.goto 4, 3) := by decide +kernel
theorem dX3_bitsOf_47 : decode cX3_bitsOf 47 = .ok (.lconst 0, 1) := by decide +kernel
theorem dX3_bitsOf_48 : decode cX3_bitsOf 48 = .ok (.lstore 6, 2) := by decide +kernel
theorem dX3_bitsOf_50 : decode cX3_bitsOf 50 = .ok (.dload_n 0, 1) := by decide +kernel
theorem dX3_bitsOf_51 : decode cX3_bitsOf 51 = .ok (.dconst 0, 1) := by decide +kernel
theorem dX3_bitsOf_52 : decode cX3_bitsOf 52 = .ok (.dcmp .g, 1) := by decide +kernel
theorem dX3_bitsOf_53 : decode cX3_bitsOf 53 = .ok (.ifCond .ge 8, 3) := by decide +kernel
theorem dX3_bitsOf_56 : decode cX3_bitsOf 56 = .ok (.dload_n 0, 1) := by decide +kernel
theorem dX3_bitsOf_57 : decode cX3_bitsOf 57 = .ok (.dneg, 1) := by decide +kernel
theorem dX3_bitsOf_58 : decode cX3_bitsOf 58 = .ok (.goto 4, 3) := by decide +kernel
theorem dX3_bitsOf_61 : decode cX3_bitsOf 61 = .ok (.dload_n 0, 1) := by decide +kernel
theorem dX3_bitsOf_62 : decode cX3_bitsOf 62 = .ok (.dstore 8, 2) := by decide +kernel
theorem dX3_bitsOf_64 : decode cX3_bitsOf 64 = .ok (.dload 8, 2) := by decide +kernel
theorem dX3_bitsOf_66 : decode cX3_bitsOf 66 = .ok (.invokestatic 62, 3) := by decide +kernel
theorem dX3_bitsOf_69 : decode cX3_bitsOf 69 = .ok (.ifCond .eq 9, 3) := by decide +kernel
theorem dX3_bitsOf_72 : decode cX3_bitsOf 72 = .ok (.lload 6, 2) := by decide +kernel
theorem dX3_bitsOf_74 : decode cX3_bitsOf 74 = .ok (.lload 4, 2) := by decide +kernel
theorem dX3_bitsOf_76 : decode cX3_bitsOf 76 = .ok (.lor, 1) := by decide +kernel
theorem dX3_bitsOf_77 : decode cX3_bitsOf 77 = .ok (.lreturn, 1) := by decide +kernel
theorem dX3_bitsOf_78 : decode cX3_bitsOf 78 = .ok (.iconst 0, 1) := by decide +kernel
theorem dX3_bitsOf_79 : decode cX3_bitsOf 79 = .ok (.istore 10, 2) := by decide +kernel
theorem dX3_bitsOf_81 : decode cX3_bitsOf 81 = .ok (.iconst 0, 1) := by decide +kernel
theorem dX3_bitsOf_82 : decode cX3_bitsOf 82 = .ok (.istore 11, 2) := by decide +kernel
theorem dX3_bitsOf_84 : decode cX3_bitsOf 84 = .ok (.iload 11, 2) := by decide +kernel
theorem dX3_bitsOf_86 : decode cX3_bitsOf 86 = .ok (.sipush 1100, 3) := by decide +kernel
theorem dX3_bitsOf_89 : decode cX3_bitsOf 89 = .ok (.if_icmp .ge 29, 3) := by decide +kernel
theorem dX3_bitsOf_92 : decode cX3_bitsOf 92 = .ok (.dload 8, 2) := by decide +kernel
theorem dX3_bitsOf_94 : decode cX3_bitsOf 94 = .ok (.ldc2_w 77, 3) := by decide +kernel
theorem dX3_bitsOf_97 : decode cX3_bitsOf 97 = .ok (.dcmp .l, 1) := by decide +kernel
theorem dX3_bitsOf_98 : decode cX3_bitsOf 98 = .ok (.ifCond .lt 20, 3) := by decide +kernel
theorem dX3_bitsOf_101 : decode cX3_bitsOf 101 = .ok (.dload 8, 2) := by decide +kernel
theorem dX3_bitsOf_103 : decode cX3_bitsOf 103 = .ok (.ldc2_w 77, 3) := by decide +kernel
theorem dX3_bitsOf_106 : decode cX3_bitsOf 106 = .ok (.ddiv, 1) := by decide +kernel
theorem dX3_bitsOf_107 : decode cX3_bitsOf 107 = .ok (.dstore 8, 2) := by decide +kernel
theorem dX3_bitsOf_109 : decode cX3_bitsOf 109 = .ok (.iinc 10 1, 3) := by decide +kernel
theorem dX3_bitsOf_112 : decode cX3_bitsOf 112 = .ok (.iinc 11 1, 3) := by decide +kernel
theorem dX3_bitsOf_115 : decode cX3_bitsOf 115 = .ok (.goto (-31), 3) := by decide +kernel
theorem dX3_bitsOf_118 : decode cX3_bitsOf 118 = .ok (.iconst 0, 1) := by decide +kernel
theorem dX3_bitsOf_119 : decode cX3_bitsOf 119 = .ok (.istore 11, 2) := by decide +kernel
theorem dX3_bitsOf_121 : decode cX3_bitsOf 121 = .ok (.iload 11, 2) := by decide +kernel
theorem dX3_bitsOf_123 : decode cX3_bitsOf 123 = .ok (.sipush 1100, 3) := by decide +kernel
theorem dX3_bitsOf_126 : decode cX3_bitsOf 126 = .ok (.if_icmp .ge 35, 3) := by decide +kernel
theorem dX3_bitsOf_129 : decode cX3_bitsOf 129 = .ok (.dload 8, 2) := by decide +kernel
theorem dX3_bitsOf_131 : decode cX3_bitsOf 131 = .ok (.dconst 1, 1) := by decide +kernel
theorem dX3_bitsOf_132 : decode cX3_bitsOf 132 = .ok (.dcmp .g, 1) := by decide +kernel
theorem dX3_bitsOf_133 : decode cX3_bitsOf 133 = .ok (.ifCond .ge 28, 3) := by decide +kernel
theorem dX3_bitsOf_136 : decode cX3_bitsOf 136 = .ok (.iload 10, 2) := by decide +kernel
theorem dX3_bitsOf_138 : decode cX3_bitsOf 138 = .ok (.iconst 1, 1) := by decide +kernel
theorem dX3_bitsOf_139 : decode cX3_bitsOf 139 = .ok (.iload_n 3, 1) := by decide +kernel
theorem dX3_bitsOf_140 : decode cX3_bitsOf 140 = .ok (.isub, 1) := by decide +kernel
theorem dX3_bitsOf_141 : decode cX3_bitsOf 141 = .ok (.if_icmp .le 20, 3) := by decide +kernel
theorem dX3_bitsOf_144 : decode cX3_bitsOf 144 = .ok (.dload 8, 2) := by decide +kernel
theorem dX3_bitsOf_146 : decode cX3_bitsOf 146 = .ok (.ldc2_w 77, 3) := by decide +kernel
theorem dX3_bitsOf_149 : decode cX3_bitsOf 149 = .ok (.dmul, 1) := by decide +kernel
theorem dX3_bitsOf_150 : decode cX3_bitsOf 150 = .ok (.dstore 8, 2) := by decide +kernel
theorem dX3_bitsOf_152 : decode cX3_bitsOf 152 = .ok (.iinc 10 (-1), 3) := by decide +kernel
theorem dX3_bitsOf_155 : decode cX3_bitsOf 155 = .ok (.iinc 11 1, 3) := by decide +kernel
theorem dX3_bitsOf_158 : decode cX3_bitsOf 158 = .ok (.goto (-37), 3) := by decide +kernel
theorem dX3_bitsOf_161 : decode cX3_bitsOf 161 = .ok (.dload 8, 2) := by decide +kernel
theorem dX3_bitsOf_163 : decode cX3_bitsOf 163 = .ok (.dconst 1, 1) := by decide +kernel
theorem dX3_bitsOf_164 : decode cX3_bitsOf 164 = .ok (.dcmp .g, 1) := by decide +kernel
theorem dX3_bitsOf_165 : decode cX3_bitsOf 165 = .ok (.ifCond .ge 7, 3) := by decide +kernel
theorem dX3_bitsOf_168 : decode cX3_bitsOf 168 = .ok (.lconst 0, 1) := by decide +kernel
theorem dX3_bitsOf_169 : decode cX3_bitsOf 169 = .ok (.goto 10, 3) := by decide +kernel
theorem dX3_bitsOf_172 : decode cX3_bitsOf 172 = .ok (.iload 10, 2) := by decide +kernel
theorem dX3_bitsOf_174 : decode cX3_bitsOf 174 = .ok (.iload_n 3, 1) := by decide +kernel
theorem dX3_bitsOf_175 : decode cX3_bitsOf 175 = .ok (.iadd, 1) := by decide +kernel
theorem dX3_bitsOf_176 : decode cX3_bitsOf 176 = .ok (.i2l, 1) := by decide +kernel
theorem dX3_bitsOf_177 : decode cX3_bitsOf 177 = .ok (.iload_n 2, 1) := by decide +kernel
theorem dX3_bitsOf_178 : decode cX3_bitsOf 178 = .ok (.lshl, 1) := by decide +kernel
theorem dX3_bitsOf_179 : decode cX3_bitsOf 179 = .ok (.lstore 11, 2) := by decide +kernel
theorem dX3_bitsOf_181 : decode cX3_bitsOf 181 = .ok (.dload 8, 2) := by decide +kernel
theorem dX3_bitsOf_183 : decode cX3_bitsOf 183 = .ok (.dconst 1, 1) := by decide +kernel
theorem dX3_bitsOf_184 : decode cX3_bitsOf 184 = .ok (.dcmp .g, 1) := by decide +kernel
theorem dX3_bitsOf_185 : decode cX3_bitsOf 185 = .ok (.ifCond .ge 8, 3) := by decide +kernel
theorem dX3_bitsOf_188 : decode cX3_bitsOf 188 = .ok (.dload 8, 2) := by decide +kernel
theorem dX3_bitsOf_190 : decode cX3_bitsOf 190 = .ok (.goto 7, 3) := by decide +kernel
theorem dX3_bitsOf_193 : decode cX3_bitsOf 193 = .ok (.dload 8, 2) := by decide +kernel
theorem dX3_bitsOf_195 : decode cX3_bitsOf 195 = .ok (.dconst 1, 1) := by decide +kernel
theorem dX3_bitsOf_196 : decode cX3_bitsOf 196 = .ok (.dsub, 1) := by decide +kernel
theorem dX3_bitsOf_197 : decode cX3_bitsOf 197 = .ok (.dstore 13, 2) := by decide +kernel
theorem dX3_bitsOf_199 : decode cX3_bitsOf 199 = .ok (.lload 6, 2) := by decide +kernel
theorem dX3_bitsOf_201 : decode cX3_bitsOf 201 = .ok (.lload 11, 2) := by decide +kernel
theorem dX3_bitsOf_203 : decode cX3_bitsOf 203 = .ok (.lor, 1) := by decide +kernel
theorem dX3_bitsOf_204 : decode cX3_bitsOf 204 = .ok (.dload 13, 2) := by decide +kernel
theorem dX3_bitsOf_206 : decode cX3_bitsOf 206 = .ok (.lconst 1, 1) := by decide +kernel
theorem dX3_bitsOf_207 : decode cX3_bitsOf 207 = .ok (.iload_n 2, 1) := by decide +kernel
theorem dX3_bitsOf_208 : decode cX3_bitsOf 208 = .ok (.lshl, 1) := by decide +kernel
theorem dX3_bitsOf_209 : decode cX3_bitsOf 209 = .ok (.l2d, 1) := by decide +kernel
theorem dX3_bitsOf_210 : decode cX3_bitsOf 210 = .ok (.dmul, 1) := by decide +kernel
theorem dX3_bitsOf_211 : decode cX3_bitsOf 211 = .ok (.d2l, 1) := by decide +kernel
theorem dX3_bitsOf_212 : decode cX3_bitsOf 212 = .ok (.lor, 1) := by decide +kernel
theorem dX3_bitsOf_213 : decode cX3_bitsOf 213 = .ok (.lreturn, 1) := by decide +kernel
set_option maxRecDepth 20000 in
theorem ggX4_init_X2_init : GoodIn wsX4_init wsX2_init := goodIn_r _ [15, 16, 2, 3, 6, 17, 18, 19, 26, 27, 28] (by decide +kernel) (by decide +kernel)
set_option maxRecDepth 20000 in
theorem gX4_init_X2_init_n27 : GoodIn wsX4_init (wsX2_init) := ggX4_init_X2_init
theorem dX4_init_0 : decode cX4_init 0 = .ok (.aload_n 0, 1) := by decide +kernel
theorem dX4_init_1 : decode cX4_init 1 = .ok (.invokespecial 3, 3) := by decide +kernel
theorem dX4_init_4 : decode cX4_init 4 = .ok (.aload_n 0, 1) := by decide +kernel
theorem dX4_init_5 : decode cX4_init 5 = .ok (.iconst 0, 1) := by decide +kernel
theorem dX4_init_6 : decode cX4_init 6 = .ok (.putfield 9, 3) := by decide +kernel
theorem dX4_init_9 : decode cX4_init 9 = .ok (.aload_n 0, 1) := by decide +kernel
theorem dX4_init_10 : decode cX4_init 10 = .ok (.iconst 1, 1) := by decide +kernel
theorem dX4_init_11 : decode cX4_init 11 = .ok (.putfield 15, 3) := by decide +kernel
theorem dX4_init_14 : decode cX4_init 14 = .ok (.aload_n 0, 1) := by decide +kernel
theorem dX4_init_15 : decode cX4_init 15 = .ok (.sipush 2001, 3) := by decide +kernel
theorem dX4_init_18 : decode cX4_init 18 = .ok (.newarray .int, 2) := by decide +kernel
theorem dX4_init_20 : decode cX4_init 20 = .ok (.putfield 18, 3) := by decide +kernel
theorem dX4_init_23 : decode cX4_init 23 = .ok (.aload_n 0, 1) := by decide +kernel
theorem dX4_init_24 : decode cX4_init 24 = .ok (.bipush 16, 2) := by decide +kernel
theorem dX4_init_26 : decode cX4_init 26 = .ok (.newarray .int, 2) := by decide +kernel
theorem dX4_init_28 : decode cX4_init 28 = .ok (.putfield 22, 3) := by decide +kernel
theorem dX4_init_31 : decode cX4_init 31 = .ok (.aload_n 0, 1) := by decide +kernel
theorem dX4_init_32 : decode cX4_init 32 = .ok (.new 25, 3) := by decide +kernel
theorem dX4_init_35 : decode cX4_init 35 = .ok (.dup, 1) := by decide +kernel
theorem dX4_init_36 : decode cX4_init 36 = .ok (.invokespecial 27, 3) := by decide +kernel
theorem dX4_init_39 : decode cX4_init 39 = .ok (.putfield 28, 3) := by decide +kernel
theorem dX4_init_42 : decode cX4_init 42 = .ok (.aload_n 0, 1) := by decide +kernel
theorem dX4_init_43 : decode cX4_init 43 = .ok (.new 25, 3) := by decide +kernel
theorem dX4_init_46 : decode cX4_init 46 = .ok (.dup, 1) := by decide +kernel
theorem dX4_init_47 : decode cX4_init 47 = .ok (.invokespecial 27, 3) := by decide +kernel
theorem dX4_init_50 : decode cX4_init 50 = .ok (.putfield 32, 3) := by decide +kernel
theorem dX4_init_53 : decode cX4_init 53 = .ok (.return_, 1) := by decide +kernel
set_option maxRecDepth 20000 in
theorem ggX4_follow_X2_copy : GoodIn wsX4_follow wsX2_copy := goodIn_r _ [8, 9, 10, 11, 12, 13, 14, 15, 53, 54, 55] (by decide +kernel) (by decide +kernel)
set_option maxRecDepth 20000 in
theorem gX4_follow_X2_copy_n35 : GoodIn wsX4_follow (wsX2_copy) := ggX4_follow_X2_copy
set_option maxRecDepth 20000 in
theorem ggX4_follow_X2_advance : GoodIn wsX4_follow wsX2_advance := goodIn_ca (goodIn_ca (goodIn_r _ [18, 15, 9, 14, 19, 20, 21, 6, 22, 23, 24, 25, 26, 27, 28, 29, 30, 31, 32, 33, 34, 35, 36, 37, 53, 54, 55, 56, 57, 58, 59, 60, 61, 62, 63, 64, 65, 66] (by decide +kernel) (by decide +kernel)) (goodIn_sub (fun _ h => List.mem_cons_of_mem _ (List.mem_append_left _ (List.mem_append_right _ h))) (by decide +kernel))) (goodIn_sub (fun _ h => List.mem_cons_of_mem _ (List.mem_append_right _ h)) (by decide +kernel))
set_option maxRecDepth 20000 in
theorem gX4_follow_X2_advance_n39 : GoodIn wsX4_follow (wsX2_advance) := ggX4_follow_X2_advance
set_option maxRecDepth 20000 in
theorem ggX4_follow_X2_isLike : GoodIn wsX4_follow wsX2_isLike := goodIn_ca (goodIn_r _ [40, 9, 14, 19, 20, 21, 6, 22, 15, 56, 57, 58, 59, 60, 61, 62, 63, 64, 65, 66, 53, 54, 55] (by decide +kernel) (by decide +kernel)) (goodIn_sub (fun _ h => List.mem_cons_of_mem _ (List.mem_append_left _ (List.mem_append_right _ h))) (by decide +kernel))
set_option maxRecDepth 20000 in
theorem gX4_follow_X2_isLike_n43 : GoodIn wsX4_follow (wsX2_isLike) := ggX4_follow_X2_isLike
set_option maxRecDepth 20000 in
theorem ggX4_follow_X4_findLead : GoodIn wsX4_follow wsX4_findLead := goodIn_ca (goodIn_ca (goodIn_r _ [45, 1, 2, 4, 46, 5, 6, 7, 8, 9, 10, 11, 12, 13, 14, 15, 16, 17, 18, 19, 20, 21, 22, 23, 24, 25, 26, 27, 28, 29, 30, 31, 32, 33, 34, 35, 36, 37, 38, 39, 40, 47, 48, 49, 50, 51, 52, 53, 54, 55, 56, 57, 58, 59, 60, 61, 62, 63, 64, 65, 66] (by decide +kernel) (by decide +kernel)) (goodIn_sub (fun _ h => List.mem_cons_of_mem _ (List.mem_append_left _ (List.mem_append_right _ h))) (by decide +kernel))) (goodIn_sub (fun _ h => List.mem_cons_of_mem _ (List.mem_append_right _ h)) (by decide +kernel))
set_option maxRecDepth 20000 in
theorem gX4_follow_X4_findLead : GoodIn wsX4_follow (wsV RX4 47 RX4 yX4_findLead wsX4_findLead) := goodIn_app (goodIn_of _ (by decide +kernel)) ggX4_follow_X4_findLead
theorem dX4_follow_0 : decode cX4_follow 0 = .ok (.aload_n 0, 1) := by decide +kernel
theorem dX4_follow_1 : decode cX4_follow 1 = .ok (.getfield 28, 3) := by decide +kernel
theorem dX4_follow_4 : decode cX4_follow 4 = .ok (.aload_n 2, 1) := by decide +kernel
theorem dX4_follow_5 : decode cX4_follow 5 = .ok (.invokevirtual 35, 3) := by decide +kernel
theorem dX4_follow_8 : decode cX4_follow 8 = .ok (.aload_n 0, 1) := by decide +kernel
theorem dX4_follow_9 : decode cX4_follow 9 = .ok (.getfield 32, 3) := by decide +kernel
theorem dX4_follow_12 : decode cX4_follow 12 = .ok (.aload_n 2, 1) := by decide +kernel
theorem dX4_follow_13 : decode cX4_follow 13 = .ok (.invokevirtual 35, 3) := by decide +kernel
theorem dX4_follow_16 : decode cX4_follow 16 = .ok (.iconst 0, 1) := by decide +kernel
theorem dX4_follow_17 : decode cX4_follow 17 = .ok (.istore_n 3, 1) := by decide +kernel
theorem dX4_follow_18 : decode cX4_follow 18 = .ok (.iconst 1, 1) := by decide +kernel
theorem dX4_follow_19 : decode cX4_follow 19 = .ok (.istore 4, 2) := by decide +kernel
theorem dX4_follow_21 : decode cX4_follow 21 = .ok (.iconst 1, 1) := by decide +kernel
theorem dX4_follow_22 : decode cX4_follow 22 = .ok (.istore 5, 2) := by decide +kernel
theorem dX4_follow_24 : decode cX4_follow 24 = .ok (.iload 5, 2) := by decide +kernel
theorem dX4_follow_26 : decode cX4_follow 26 = .ok (.sipush 2000, 3) := by decide +kernel
theorem dX4_follow_29 : decode cX4_follow 29 = .ok (.if_icmp .gt 96, 3) := by decide +kernel
theorem dX4_follow_32 : decode cX4_follow 32 = .ok (.aload_n 0, 1) := by decide +kernel
theorem dX4_follow_33 : decode cX4_follow 33 = .ok (.getfield 18, 3) := by decide +kernel
theorem dX4_follow_36 : decode cX4_follow 36 = .ok (.iload 5, 2) := by decide +kernel
theorem dX4_follow_38 : decode cX4_follow 38 = .ok (.aload_n 0, 1) := by decide +kernel
theorem dX4_follow_39 : decode cX4_follow 39 = .ok (.getfield 32, 3) := by decide +kernel
theorem dX4_follow_42 : decode cX4_follow 42 = .ok (.aload_n 1, 1) := by decide +kernel
theorem dX4_follow_43 : decode cX4_follow 43 = .ok (.iconst 0, 1) := by decide +kernel
theorem dX4_follow_44 : decode cX4_follow 44 = .ok (.invokevirtual 39, 3) := by decide +kernel
theorem dX4_follow_47 : decode cX4_follow 47 = .ok (.iastore, 1) := by decide +kernel
theorem dX4_follow_48 : decode cX4_follow 48 = .ok (.iinc 3 1, 3) := by decide +kernel
theorem dX4_follow_51 : decode cX4_follow 51 = .ok (.aload_n 0, 1) := by decide +kernel
theorem dX4_follow_52 : decode cX4_follow 52 = .ok (.getfield 32, 3) := by decide +kernel
theorem dX4_follow_55 : decode cX4_follow 55 = .ok (.aload_n 0, 1) := by decide +kernel
theorem dX4_follow_56 : decode cX4_follow 56 = .ok (.getfield 28, 3) := by decide +kernel
theorem dX4_follow_59 : decode cX4_follow 59 = .ok (.aload_n 1, 1) := by decide +kernel
theorem dX4_follow_60 : decode cX4_follow 60 = .ok (.invokevirtual 43, 3) := by decide +kernel
theorem dX4_follow_63 : decode cX4_follow 63 = .ok (.ifCond .eq 15, 3) := by decide +kernel
theorem dX4_follow_66 : decode cX4_follow 66 = .ok (.aload_n 0, 1) := by decide +kernel
theorem dX4_follow_67 : decode cX4_follow 67 = .ok (.iload_n 3, 1) := by decide +kernel
theorem dX4_follow_68 : decode cX4_follow 68 = .ok (.putfield 15, 3) := by decide +kernel
theorem dX4_follow_71 : decode cX4_follow 71 = .ok (.aload_n 0, 1) := by decide +kernel
theorem dX4_follow_72 : decode cX4_follow 72 = .ok (.aload_n 1, 1) := by decide +kernel
theorem dX4_follow_73 : decode cX4_follow 73 = .ok (.aload_n 2, 1) := by decide +kernel
theorem dX4_follow_74 : decode cX4_follow 74 = .ok (.invokevirtual 47, 3) := by decide +kernel
theorem dX4_follow_77 : decode cX4_follow 77 = .ok (.ireturn, 1) := by decide +kernel
theorem dX4_follow_78 : decode cX4_follow 78 = .ok (.iload 5, 2) := by decide +kernel
theorem dX4_follow_80 : decode cX4_follow 80 = .ok (.sipush 1000, 3) := by decide +kernel
theorem dX4_follow_83 : decode cX4_follow 83 = .ok (.if_icmp .eq 17, 3) := by decide +kernel
theorem dX4_follow_86 : decode cX4_follow 86 = .ok (.iload_n 3, 1) := by decide +kernel
theorem dX4_follow_87 : decode cX4_follow 87 = .ok (.iload 4, 2) := by decide +kernel
theorem dX4_follow_89 : decode cX4_follow 89 = .ok (.if_icmp .ne 30, 3) := by decide +kernel
theorem dX4_follow_92 : decode cX4_follow 92 = .ok (.iload 5, 2) := by decide +kernel
theorem dX4_follow_94 : decode cX4_follow 94 = .ok (.sipush 1000, 3) := by decide +kernel
theorem dX4_follow_97 : decode cX4_follow 97 = .ok (.if_icmp .ge 22, 3) := by decide +kernel
theorem dX4_follow_100 : decode cX4_follow 100 = .ok (.aload_n 0, 1) := by decide +kernel
theorem dX4_follow_101 : decode cX4_follow 101 = .ok (.getfield 28, 3) := by decide +kernel
theorem dX4_follow_104 : decode cX4_follow 104 = .ok (.aload_n 0, 1) := by decide +kernel
theorem dX4_follow_105 : decode cX4_follow 105 = .ok (.getfield 32, 3) := by decide +kernel
theorem dX4_follow_108 : decode cX4_follow 108 = .ok (.invokevirtual 35, 3) := by decide +kernel
theorem dX4_follow_111 : decode cX4_follow 111 = .ok (.iload 4, 2) := by decide +kernel
theorem dX4_follow_113 : decode cX4_follow 113 = .ok (.iconst 2, 1) := by decide +kernel
theorem dX4_follow_114 : decode cX4_follow 114 = .ok (.imul, 1) := by decide +kernel
theorem dX4_follow_115 : decode cX4_follow 115 = .ok (.istore 4, 2) := by decide +kernel
theorem dX4_follow_117 : decode cX4_follow 117 = .ok (.iconst 0, 1) := by decide +kernel
theorem dX4_follow_118 : decode cX4_follow 118 = .ok (.istore_n 3, 1) := by decide +kernel
theorem dX4_follow_119 : decode cX4_follow 119 = .ok (.iinc 5 1, 3) := by decide +kernel
theorem dX4_follow_122 : decode cX4_follow 122 = .ok (.goto (-98), 3) := by decide +kernel
theorem dX4_follow_125 : decode cX4_follow 125 = .ok (.iconst 0, 1) := by decide +kernel
theorem dX4_follow_126 : decode cX4_follow 126 = .ok (.ireturn, 1) := by decide +kernel
set_option maxRecDepth 20000 in
theorem ggX4_findLead_X2_copy : GoodIn wsX4_findLead wsX2_copy := goodIn_r _ [8, 9, 10, 11, 12, 13, 14, 15, 47, 48, 49] (by decide +kernel) (by decide +kernel)
set_option maxRecDepth 20000 in
theorem gX4_findLead_X2_copy_n35 : GoodIn wsX4_findLead (wsX2_copy) := ggX4_findLead_X2_copy
set_option maxRecDepth 20000 in
theorem ggX4_findLead_X2_advance : GoodIn wsX4_findLead wsX2_advance := goodIn_ca (goodIn_ca (goodIn_r _ [18, 15, 9, 14, 19, 20, 21, 6, 22, 23, 24, 25, 26, 27, 28, 29, 30, 31, 32, 33, 34, 35, 36, 37, 47, 48, 49, 50, 51, 52, 53, 54, 55, 56, 57, 58, 59, 60] (by decide +kernel) (by decide +kernel)) (goodIn_sub (fun _ h => List.mem_cons_of_mem _ (List.mem_append_left _ (List.mem_append_right _ h))) (by decide +kernel))) (goodIn_sub (fun _ h => List.mem_cons_of_mem _ (List.mem_append_right _ h)) (by decide +kernel))
set_option maxRecDepth 20000 in
theorem gX4_findLead_X2_advance_n39 : GoodIn wsX4_findLead (wsX2_advance) := ggX4_findLead_X2_advance
set_option maxRecDepth 20000 in
theorem ggX4_findLead_X2_isLike : GoodIn wsX4_findLead wsX2_isLike := goodIn_ca (goodIn_r _ [40, 9, 14, 19, 20, 21, 6, 22, 15, 50, 51, 52, 53, 54, 55, 56, 57, 58, 59, 60, 47, 48, 49] (by decide +kernel) (by decide +kernel)) (goodIn_sub (fun _ h => List.mem_cons_of_mem _ (List.mem_append_left _ (List.mem_append_right _ h))) (by decide +kernel))
set_option maxRecDepth 20000 in
theorem gX4_findLead_X2_isLike_n43 : GoodIn wsX4_findLead (wsX2_isLike) := ggX4_findLead_X2_isLike
theorem dX4_findLead_0 : decode cX4_findLead 0 = .ok (.aload_n 0, 1) := by decide +kernel
theorem dX4_findLead_1 : decode cX4_findLead 1 = .ok (.getfield 28, 3) := by decide +kernel
theorem dX4_findLead_4 : decode cX4_findLead 4 = .ok (.aload_n 2, 1) := by decide +kernel
theorem dX4_findLead_5 : decode cX4_findLead 5 = .ok (.invokevirtual 35, 3) := by decide +kernel
theorem dX4_findLead_8 : decode cX4_findLead 8 = .ok (.aload_n 0, 1) := by decide +kernel
theorem dX4_findLead_9 : decode cX4_findLead 9 = .ok (.getfield 32, 3) := by decide +kernel
theorem dX4_findLead_12 : decode cX4_findLead 12 = .ok (.aload_n 2, 1) := by decide +kernel
theorem dX4_findLead_13 : decode cX4_findLead 13 = .ok (.invokevirtual 35, 3) := by decide +kernel
theorem dX4_findLead_16 : decode cX4_findLead 16 = .ok (.iconst 0, 1) := by decide +kernel
theorem dX4_findLead_17 : decode cX4_findLead 17 = .ok (.istore_n 3, 1) := by decide +kernel
theorem dX4_findLead_18 : decode cX4_findLead 18 = .ok (.iload_n 3, 1) := by decide +kernel
theorem dX4_findLead_19 : decode cX4_findLead 19 = .ok (.aload_n 0, 1) := by decide +kernel
theorem dX4_findLead_20 : decode cX4_findLead 20 = .ok (.getfield 15, 3) := by decide +kernel
theorem dX4_findLead_23 : decode cX4_findLead 23 = .ok (.if_icmp .ge 19, 3) := by decide +kernel
theorem dX4_findLead_26 : decode cX4_findLead 26 = .ok (.aload_n 0, 1) := by decide +kernel
theorem dX4_findLead_27 : decode cX4_findLead 27 = .ok (.getfield 32, 3) := by decide +kernel
theorem dX4_findLead_30 : decode cX4_findLead 30 = .ok (.aload_n 1, 1) := by decide +kernel
theorem dX4_findLead_31 : decode cX4_findLead 31 = .ok (.iconst 0, 1) := by decide +kernel
theorem dX4_findLead_32 : decode cX4_findLead 32 = .ok (.invokevirtual 39, 3) := by decide +kernel
theorem dX4_findLead_35 : decode cX4_findLead 35 = .ok (.pop, 1) := by decide +kernel
theorem dX4_findLead_36 : decode cX4_findLead 36 = .ok (.iinc 3 1, 3) := by decide +kernel
theorem dX4_findLead_39 : decode cX4_findLead 39 = .ok (.goto (-21), 3) := by decide +kernel
theorem dX4_findLead_42 : decode cX4_findLead 42 = .ok (.aload_n 0, 1) := by decide +kernel
theorem dX4_findLead_43 : decode cX4_findLead 43 = .ok (.iconst 0, 1) := by decide +kernel
theorem dX4_findLead_44 : decode cX4_findLead 44 = .ok (.putfield 9, 3) := by decide +kernel
theorem dX4_findLead_47 : decode cX4_findLead 47 = .ok (.aload_n 0, 1) := by decide +kernel
theorem dX4_findLead_48 : decode cX4_findLead 48 = .ok (.getfield 9, 3) := by decide +kernel
theorem dX4_findLead_51 : decode cX4_findLead 51 = .ok (.aload_n 0, 1) := by decide +kernel
theorem dX4_findLead_52 : decode cX4_findLead 52 = .ok (.getfield 15, 3) := by decide +kernel
theorem dX4_findLead_55 : decode cX4_findLead 55 = .ok (.iadd, 1) := by decide +kernel
theorem dX4_findLead_56 : decode cX4_findLead 56 = .ok (.sipush 1000, 3) := by decide +kernel
theorem dX4_findLead_59 : decode cX4_findLead 59 = .ok (.if_icmp .gt 53, 3) := by decide +kernel
theorem dX4_findLead_62 : decode cX4_findLead 62 = .ok (.aload_n 0, 1) := by decide +kernel
theorem dX4_findLead_63 : decode cX4_findLead 63 = .ok (.getfield 32, 3) := by decide +kernel
theorem dX4_findLead_66 : decode cX4_findLead 66 = .ok (.aload_n 0, 1) := by decide +kernel
theorem dX4_findLead_67 : decode cX4_findLead 67 = .ok (.getfield 28, 3) := by decide +kernel
theorem dX4_findLead_70 : decode cX4_findLead 70 = .ok (.aload_n 1, 1) := by decide +kernel
theorem dX4_findLead_71 : decode cX4_findLead 71 = .ok (.invokevirtual 43, 3) := by decide +kernel
theorem dX4_findLead_74 : decode cX4_findLead 74 = .ok (.ifCond .eq 5, 3) := by decide +kernel
theorem dX4_findLead_77 : decode cX4_findLead 77 = .ok (.iconst 1, 1) := by decide +kernel
theorem dX4_findLead_78 : decode cX4_findLead 78 = .ok (.ireturn, 1) := by decide +kernel
theorem dX4_findLead_79 : decode cX4_findLead 79 = .ok (.aload_n 0, 1) := by decide +kernel
theorem dX4_findLead_80 : decode cX4_findLead 80 = .ok (.getfield 32, 3) := by decide +kernel
theorem dX4_findLead_83 : decode cX4_findLead 83 = .ok (.aload_n 1, 1) := by decide +kernel
theorem dX4_findLead_84 : decode cX4_findLead 84 = .ok (.iconst 0, 1) := by decide +kernel
theorem dX4_findLead_85 : decode cX4_findLead 85 = .ok (.invokevirtual 39, 3) := by decide +kernel
theorem dX4_findLead_88 : decode cX4_findLead 88 = .ok (.pop, 1) := by decide +kernel
theorem dX4_findLead_89 : decode cX4_findLead 89 = .ok (.aload_n 0, 1) := by decide +kernel
theorem dX4_findLead_90 : decode cX4_findLead 90 = .ok (.getfield 28, 3) := by decide +kernel
theorem dX4_findLead_93 : decode cX4_findLead 93 = .ok (.aload_n 1, 1) := by decide +kernel
theorem dX4_findLead_94 : decode cX4_findLead 94 = .ok (.iconst 0, 1) := by decide +kernel
theorem dX4_findLead_95 : decode cX4_findLead 95 = .ok (.invokevirtual 39, 3) := by decide +kernel
theorem dX4_findLead_98 : decode cX4_findLead 98 = .ok (.pop, 1) := by decide +kernel
theorem dX4_findLead_99 : decode cX4_findLead 99 = .ok (.aload_n 0, 1) := by decide +kernel
theorem dX4_findLead_100 : decode cX4_findLead 100 = .ok (.dup, 1) := by decide +kernel
theorem dX4_findLead_101 : decode cX4_findLead 101 = .ok (.getfield 9, 3) := by decide +kernel
theorem dX4_findLead_104 : decode cX4_findLead 104 = .ok (.iconst 1, 1) := by decide +kernel
theorem dX4_findLead_105 : decode cX4_findLead 105 = .ok (.iadd, 1) := by decide +kernel
theorem dX4_findLead_106 : decode cX4_findLead 106 = .ok (.putfield 9, 3) := by decide +kernel
theorem dX4_findLead_109 : decode cX4_findLead 109 = .ok (.goto (-62), 3) := by decide +kernel
theorem dX4_findLead_112 : decode cX4_findLead 112 = .ok (.iconst 0, 1) := by decide +kernel
theorem dX4_findLead_113 : decode cX4_findLead 113 = .ok (.ireturn, 1) := by decide +kernel
set_option maxRecDepth 20000 in
theorem ggX4_returnsAnew_X2_copy : GoodIn wsX4_returnsAnew wsX2_copy := goodIn_r _ [8, 9, 10, 11, 12, 13, 14, 15, 47, 48, 49] (by decide +kernel) (by decide +kernel)
set_option maxRecDepth 20000 in
theorem gX4_returnsAnew_X2_copy_n35 : GoodIn wsX4_returnsAnew (wsX2_copy) := ggX4_returnsAnew_X2_copy
set_option maxRecDepth 20000 in
theorem ggX4_returnsAnew_X2_advance : GoodIn wsX4_returnsAnew wsX2_advance := goodIn_ca (goodIn_ca (goodIn_r _ [18, 15, 9, 14, 19, 20, 21, 6, 22, 23, 24, 25, 26, 27, 28, 29, 30, 31, 32, 33, 34, 35, 36, 37, 47, 48, 49, 50, 51, 52, 53, 54, 55, 56, 57, 58, 59, 60] (by decide +kernel) (by decide +kernel)) (goodIn_sub (fun _ h => List.mem_cons_of_mem _ (List.mem_append_left _ (List.mem_append_right _ h))) (by decide +kernel))) (goodIn_sub (fun _ h => List.mem_cons_of_mem _ (List.mem_append_right _ h)) (by decide +kernel))
set_option maxRecDepth 20000 in
theorem gX4_returnsAnew_X2_advance_n39 : GoodIn wsX4_returnsAnew (wsX2_advance) := ggX4_returnsAnew_X2_advance
set_option maxRecDepth 20000 in
theorem ggX4_returnsAnew_X2_isLike : GoodIn wsX4_returnsAnew wsX2_isLike := goodIn_ca (goodIn_r _ [40, 9, 14, 19, 20, 21, 6, 22, 15, 50, 51, 52, 53, 54, 55, 56, 57, 58, 59, 60, 47, 48, 49] (by decide +kernel) (by decide +kernel)) (goodIn_sub (fun _ h => List.mem_cons_of_mem _ (List.mem_append_left _ (List.mem_append_right _ h))) (by decide +kernel))
set_option maxRecDepth 20000 in
theorem gX4_returnsAnew_X2_isLike_n43 : GoodIn wsX4_returnsAnew (wsX2_isLike) := ggX4_returnsAnew_X2_isLike
theorem dX4_returnsAnew_0 : decode cX4_returnsAnew 0 = .ok (.aload_n 0, 1) := by decide +kernel
theorem dX4_returnsAnew_1 : decode cX4_returnsAnew 1 = .ok (.getfield 32, 3) := by decide +kernel
theorem dX4_returnsAnew_4 : decode cX4_returnsAnew 4 = .ok (.aload_n 2, 1) := by decide +kernel
theorem dX4_returnsAnew_5 : decode cX4_returnsAnew 5 = .ok (.invokevirtual 35, 3) := by decide +kernel
theorem dX4_returnsAnew_8 : decode cX4_returnsAnew 8 = .ok (.iconst 0, 1) := by decide +kernel
theorem dX4_returnsAnew_9 : decode cX4_returnsAnew 9 = .ok (.istore_n 3, 1) := by decide +kernel
theorem dX4_returnsAnew_10 : decode cX4_returnsAnew 10 = .ok (.iload_n 3, 1) := by decide +kernel
theorem dX4_returnsAnew_11 : decode cX4_returnsAnew 11 = .ok (.aload_n 0, 1) := by decide +kernel
theorem dX4_returnsAnew_12 : decode cX4_returnsAnew 12 = .ok (.getfield 9, 3) := by decide +kernel
theorem dX4_returnsAnew_15 : decode cX4_returnsAnew 15 = .ok (.if_icmp .ge 19, 3) := by decide +kernel
theorem dX4_returnsAnew_18 : decode cX4_returnsAnew 18 = .ok (.aload_n 0, 1) := by decide +kernel
theorem dX4_returnsAnew_19 : decode cX4_returnsAnew 19 = .ok (.getfield 32, 3) := by decide +kernel
theorem dX4_returnsAnew_22 : decode cX4_returnsAnew 22 = .ok (.aload_n 1, 1) := by decide +kernel
theorem dX4_returnsAnew_23 : decode cX4_returnsAnew 23 = .ok (.iconst 0, 1) := by decide +kernel
theorem dX4_returnsAnew_24 : decode cX4_returnsAnew 24 = .ok (.invokevirtual 39, 3) := by decide +kernel
theorem dX4_returnsAnew_27 : decode cX4_returnsAnew 27 = .ok (.pop, 1) := by decide +kernel
theorem dX4_returnsAnew_28 : decode cX4_returnsAnew 28 = .ok (.iinc 3 1, 3) := by decide +kernel
theorem dX4_returnsAnew_31 : decode cX4_returnsAnew 31 = .ok (.goto (-21), 3) := by decide +kernel
theorem dX4_returnsAnew_34 : decode cX4_returnsAnew 34 = .ok (.aload_n 0, 1) := by decide +kernel
theorem dX4_returnsAnew_35 : decode cX4_returnsAnew 35 = .ok (.getfield 28, 3) := by decide +kernel
theorem dX4_returnsAnew_38 : decode cX4_returnsAnew 38 = .ok (.aload_n 0, 1) := by decide +kernel
theorem dX4_returnsAnew_39 : decode cX4_returnsAnew 39 = .ok (.getfield 32, 3) := by decide +kernel
theorem dX4_returnsAnew_42 : decode cX4_returnsAnew 42 = .ok (.invokevirtual 35, 3) := by decide +kernel
theorem dX4_returnsAnew_45 : decode cX4_returnsAnew 45 = .ok (.iconst 0, 1) := by decide +kernel
theorem dX4_returnsAnew_46 : decode cX4_returnsAnew 46 = .ok (.istore_n 3, 1) := by decide +kernel
theorem dX4_returnsAnew_47 : decode cX4_returnsAnew 47 = .ok (.iload_n 3, 1) := by decide +kernel
theorem dX4_returnsAnew_48 : decode cX4_returnsAnew 48 = .ok (.aload_n 0, 1) := by decide +kernel
theorem dX4_returnsAnew_49 : decode cX4_returnsAnew 49 = .ok (.getfield 15, 3) := by decide +kernel
theorem dX4_returnsAnew_52 : decode cX4_returnsAnew 52 = .ok (.if_icmp .ge 19, 3) := by decide +kernel
theorem dX4_returnsAnew_55 : decode cX4_returnsAnew 55 = .ok (.aload_n 0, 1) := by decide +kernel
theorem dX4_returnsAnew_56 : decode cX4_returnsAnew 56 = .ok (.getfield 32, 3) := by decide +kernel
theorem dX4_returnsAnew_59 : decode cX4_returnsAnew 59 = .ok (.aload_n 1, 1) := by decide +kernel
theorem dX4_returnsAnew_60 : decode cX4_returnsAnew 60 = .ok (.iconst 0, 1) := by decide +kernel
theorem dX4_returnsAnew_61 : decode cX4_returnsAnew 61 = .ok (.invokevirtual 39, 3) := by decide +kernel
theorem dX4_returnsAnew_64 : decode cX4_returnsAnew 64 = .ok (.pop, 1) := by decide +kernel
theorem dX4_returnsAnew_65 : decode cX4_returnsAnew 65 = .ok (.iinc 3 1, 3) := by decide +kernel
theorem dX4_returnsAnew_68 : decode cX4_returnsAnew 68 = .ok (.goto (-21), 3) := by decide +kernel
theorem dX4_returnsAnew_71 : decode cX4_returnsAnew 71 = .ok (.aload_n 0, 1) := by decide +kernel
theorem dX4_returnsAnew_72 : decode cX4_returnsAnew 72 = .ok (.getfield 32, 3) := by decide +kernel
theorem dX4_returnsAnew_75 : decode cX4_returnsAnew 75 = .ok (.aload_n 0, 1) := by decide +kernel
theorem dX4_returnsAnew_76 : decode cX4_returnsAnew 76 = .ok (.getfield 28, 3) := by decide +kernel
theorem dX4_returnsAnew_79 : decode cX4_returnsAnew 79 = .ok (.aload_n 1, 1) := by decide +kernel
theorem dX4_returnsAnew_80 : decode cX4_returnsAnew 80 = .ok (.invokevirtual 43, 3) := by decide +kernel
theorem dX4_returnsAnew_83 : decode cX4_returnsAnew 83 = .ok (.ireturn, 1) := by decide +kernel
theorem dX4_flashedInCycle_0 : decode cX4_flashedInCycle 0 = .ok (.aload_n 0, 1) := by decide +kernel
theorem dX4_flashedInCycle_1 : decode cX4_flashedInCycle 1 = .ok (.getfield 9, 3) := by decide +kernel
theorem dX4_flashedInCycle_4 : decode cX4_flashedInCycle 4 = .ok (.iconst 1, 1) := by decide +kernel
theorem dX4_flashedInCycle_5 : decode cX4_flashedInCycle 5 = .ok (.iadd, 1) := by decide +kernel
theorem dX4_flashedInCycle_6 : decode cX4_flashedInCycle 6 = .ok (.iload_n 1, 1) := by decide +kernel
theorem dX4_flashedInCycle_7 : decode cX4_flashedInCycle 7 = .ok (.iadd, 1) := by decide +kernel
theorem dX4_flashedInCycle_8 : decode cX4_flashedInCycle 8 = .ok (.istore_n 2, 1) := by decide +kernel
theorem dX4_flashedInCycle_9 : decode cX4_flashedInCycle 9 = .ok (.iload_n 2, 1) := by decide +kernel
theorem dX4_flashedInCycle_10 : decode cX4_flashedInCycle 10 = .ok (.iconst 1, 1) := by decide +kernel
theorem dX4_flashedInCycle_11 : decode cX4_flashedInCycle 11 = .ok (.if_icmp .lt 10, 3) := by decide +kernel
theorem dX4_flashedInCycle_14 : decode cX4_flashedInCycle 14 = .ok (.iload_n 2, 1) := by decide +kernel
theorem dX4_flashedInCycle_15 : decode cX4_flashedInCycle 15 = .ok (.sipush 2000, 3) := by decide +kernel
theorem dX4_flashedInCycle_18 : decode cX4_flashedInCycle 18 = .ok (.if_icmp .le 7, 3) := by decide +kernel
theorem dX4_flashedInCycle_21 : decode cX4_flashedInCycle 21 = .ok (.iconst 0, 1) := by decide +kernel
theorem dX4_flashedInCycle_22 : decode cX4_flashedInCycle 22 = .ok (.goto 9, 3) := by decide +kernel
theorem dX4_flashedInCycle_25 : decode cX4_flashedInCycle 25 = .ok (.aload_n 0, 1) := by decide +kernel
theorem dX4_flashedInCycle_26 : decode cX4_flashedInCycle 26 = .ok (.getfield 18, 3) := by decide +kernel
theorem dX4_flashedInCycle_29 : decode cX4_flashedInCycle 29 = .ok (.iload_n 2, 1) := by decide +kernel
theorem dX4_flashedInCycle_30 : decode cX4_flashedInCycle 30 = .ok (.iaload, 1) := by decide +kernel
theorem dX4_flashedInCycle_31 : decode cX4_flashedInCycle 31 = .ok (.ireturn, 1) := by decide +kernel
set_option maxRecDepth 20000 in
theorem ggX4_countFlashes_X4_flashedInCycle : GoodIn wsX4_countFlashes wsX4_flashedInCycle := goodIn_ca (goodIn_r _ [6, 7, 8, 9, 10, 11, 12, 13, 14] (by decide +kernel) (by decide +kernel)) (goodIn_sub (fun _ h => List.mem_cons_of_mem _ (List.mem_append_right _ h)) (by decide +kernel))
set_option maxRecDepth 20000 in
theorem gX4_countFlashes_X4_flashedInCycle : GoodIn wsX4_countFlashes (wsV RX4 51 RX4 yX4_flashedInCycle wsX4_flashedInCycle) := goodIn_app (goodIn_of _ (by decide +kernel)) ggX4_countFlashes_X4_flashedInCycle
theorem dX4_countFlashes_0 : decode cX4_countFlashes 0 = .ok (.iconst 0, 1) := by decide +kernel
theorem dX4_countFlashes_1 : decode cX4_countFlashes 1 = .ok (.istore_n 2, 1) := by decide +kernel
theorem dX4_countFlashes_2 : decode cX4_countFlashes 2 = .ok (.iconst 0, 1) := by decide +kernel
theorem dX4_countFlashes_3 : decode cX4_countFlashes 3 = .ok (.istore_n 3, 1) := by decide +kernel
theorem dX4_countFlashes_4 : decode cX4_countFlashes 4 = .ok (.iload_n 3, 1) := by decide +kernel
theorem dX4_countFlashes_5 : decode cX4_countFlashes 5 = .ok (.aload_n 0, 1) := by decide +kernel
theorem dX4_countFlashes_6 : decode cX4_countFlashes 6 = .ok (.getfield 15, 3) := by decide +kernel
theorem dX4_countFlashes_9 : decode cX4_countFlashes 9 = .ok (.if_icmp .ge 21, 3) := by decide +kernel
theorem dX4_countFlashes_12 : decode cX4_countFlashes 12 = .ok (.iload_n 2, 1) := by decide +kernel
theorem dX4_countFlashes_13 : decode cX4_countFlashes 13 = .ok (.aload_n 0, 1) := by decide +kernel
theorem dX4_countFlashes_14 : decode cX4_countFlashes 14 = .ok (.iload_n 3, 1) := by decide +kernel
theorem dX4_countFlashes_15 : decode cX4_countFlashes 15 = .ok (.invokevirtual 51, 3) := by decide +kernel
theorem dX4_countFlashes_18 : decode cX4_countFlashes 18 = .ok (.iload_n 1, 1) := by decide +kernel
theorem dX4_countFlashes_19 : decode cX4_countFlashes 19 = .ok (.ishr, 1) := by decide +kernel
theorem dX4_countFlashes_20 : decode cX4_countFlashes 20 = .ok (.iconst 1, 1) := by decide +kernel
theorem dX4_countFlashes_21 : decode cX4_countFlashes 21 = .ok (.iand, 1) := by decide +kernel
theorem dX4_countFlashes_22 : decode cX4_countFlashes 22 = .ok (.iadd, 1) := by decide +kernel
theorem dX4_countFlashes_23 : decode cX4_countFlashes 23 = .ok (.istore_n 2, 1) := by decide +kernel
theorem dX4_countFlashes_24 : decode cX4_countFlashes 24 = .ok (.iinc 3 1, 3) := by decide +kernel
theorem dX4_countFlashes_27 : decode cX4_countFlashes 27 = .ok (.goto (-23), 3) := by decide +kernel
theorem dX4_countFlashes_30 : decode cX4_countFlashes 30 = .ok (.iload_n 2, 1) := by decide +kernel
theorem dX4_countFlashes_31 : decode cX4_countFlashes 31 = .ok (.ireturn, 1) := by decide +kernel
set_option maxRecDepth 20000 in
theorem ggX4_keepsStep_X4_flashedInCycle : GoodIn wsX4_keepsStep wsX4_flashedInCycle := goodIn_ca (goodIn_r _ [6, 7, 8, 9, 10, 11, 12, 13, 14] (by decide +kernel) (by decide +kernel)) (goodIn_sub (fun _ h => List.mem_cons_of_mem _ (List.mem_append_right _ h)) (by decide +kernel))
set_option maxRecDepth 20000 in
theorem gX4_keepsStep_X4_flashedInCycle : GoodIn wsX4_keepsStep (wsV RX4 51 RX4 yX4_flashedInCycle wsX4_flashedInCycle) := goodIn_app (goodIn_of _ (by decide +kernel)) ggX4_keepsStep_X4_flashedInCycle
theorem dX4_keepsStep_0 : decode cX4_keepsStep 0 = .ok (.iconst 0, 1) := by decide +kernel
theorem dX4_keepsStep_1 : decode cX4_keepsStep 1 = .ok (.istore_n 3, 1) := by decide +kernel
theorem dX4_keepsStep_2 : decode cX4_keepsStep 2 = .ok (.iload_n 3, 1) := by decide +kernel
theorem dX4_keepsStep_3 : decode cX4_keepsStep 3 = .ok (.aload_n 0, 1) := by decide +kernel
theorem dX4_keepsStep_4 : decode cX4_keepsStep 4 = .ok (.getfield 15, 3) := by decide +kernel
theorem dX4_keepsStep_7 : decode cX4_keepsStep 7 = .ok (.if_icmp .ge 33, 3) := by decide +kernel
theorem dX4_keepsStep_10 : decode cX4_keepsStep 10 = .ok (.aload_n 0, 1) := by decide +kernel
theorem dX4_keepsStep_11 : decode cX4_keepsStep 11 = .ok (.iload_n 3, 1) := by decide +kernel
theorem dX4_keepsStep_12 : decode cX4_keepsStep 12 = .ok (.invokevirtual 51, 3) := by decide +kernel
theorem dX4_keepsStep_15 : decode cX4_keepsStep 15 = .ok (.istore 4, 2) := by decide +kernel
theorem dX4_keepsStep_17 : decode cX4_keepsStep 17 = .ok (.iload 4, 2) := by decide +kernel
theorem dX4_keepsStep_19 : decode cX4_keepsStep 19 = .ok (.iload_n 1, 1) := by decide +kernel
theorem dX4_keepsStep_20 : decode cX4_keepsStep 20 = .ok (.ishr, 1) := by decide +kernel
theorem dX4_keepsStep_21 : decode cX4_keepsStep 21 = .ok (.iconst 1, 1) := by decide +kernel
theorem dX4_keepsStep_22 : decode cX4_keepsStep 22 = .ok (.iand, 1) := by decide +kernel
theorem dX4_keepsStep_23 : decode cX4_keepsStep 23 = .ok (.iload 4, 2) := by decide +kernel
theorem dX4_keepsStep_25 : decode cX4_keepsStep 25 = .ok (.iload_n 2, 1) := by decide +kernel
theorem dX4_keepsStep_26 : decode cX4_keepsStep 26 = .ok (.ishr, 1) := by decide +kernel
theorem dX4_keepsStep_27 : decode cX4_keepsStep 27 = .ok (.iconst 1, 1) := by decide +kernel
theorem dX4_keepsStep_28 : decode cX4_keepsStep 28 = .ok (.iand, 1) := by decide +kernel
theorem dX4_keepsStep_29 : decode cX4_keepsStep 29 = .ok (.if_icmp .eq 5, 3) := by decide +kernel
theorem dX4_keepsStep_32 : decode cX4_keepsStep 32 = .ok (.iconst 0, 1) := by decide +kernel
theorem dX4_keepsStep_33 : decode cX4_keepsStep 33 = .ok (.ireturn, 1) := by decide +kernel
theorem dX4_keepsStep_34 : decode cX4_keepsStep 34 = .ok (.iinc 3 1, 3) := by decide +kernel
theorem dX4_keepsStep_37 : decode cX4_keepsStep 37 = .ok (.goto (-35), 3) := by decide +kernel
theorem dX4_keepsStep_40 : decode cX4_keepsStep 40 = .ok (.iconst 1, 1) := by decide +kernel
theorem dX4_keepsStep_41 : decode cX4_keepsStep 41 = .ok (.ireturn, 1) := by decide +kernel
set_option maxRecDepth 20000 in
theorem ggX4_allInStep_X4_flashedInCycle : GoodIn wsX4_allInStep wsX4_flashedInCycle := goodIn_ca (goodIn_r _ [6, 7, 8, 9, 10, 11, 12, 13, 14] (by decide +kernel) (by decide +kernel)) (goodIn_sub (fun _ h => List.mem_cons_of_mem _ (List.mem_append_right _ h)) (by decide +kernel))
set_option maxRecDepth 20000 in
theorem gX4_allInStep_X4_flashedInCycle : GoodIn wsX4_allInStep (wsV RX4 51 RX4 yX4_flashedInCycle wsX4_flashedInCycle) := goodIn_app (goodIn_of _ (by decide +kernel)) ggX4_allInStep_X4_flashedInCycle
theorem dX4_allInStep_0 : decode cX4_allInStep 0 = .ok (.iconst 0, 1) := by decide +kernel
theorem dX4_allInStep_1 : decode cX4_allInStep 1 = .ok (.istore_n 2, 1) := by decide +kernel
theorem dX4_allInStep_2 : decode cX4_allInStep 2 = .ok (.iload_n 2, 1) := by decide +kernel
theorem dX4_allInStep_3 : decode cX4_allInStep 3 = .ok (.aload_n 0, 1) := by decide +kernel
theorem dX4_allInStep_4 : decode cX4_allInStep 4 = .ok (.getfield 15, 3) := by decide +kernel
theorem dX4_allInStep_7 : decode cX4_allInStep 7 = .ok (.if_icmp .ge 29, 3) := by decide +kernel
theorem dX4_allInStep_10 : decode cX4_allInStep 10 = .ok (.aload_n 0, 1) := by decide +kernel
theorem dX4_allInStep_11 : decode cX4_allInStep 11 = .ok (.iload_n 2, 1) := by decide +kernel
theorem dX4_allInStep_12 : decode cX4_allInStep 12 = .ok (.invokevirtual 51, 3) := by decide +kernel
theorem dX4_allInStep_15 : decode cX4_allInStep 15 = .ok (.istore_n 3, 1) := by decide +kernel
theorem dX4_allInStep_16 : decode cX4_allInStep 16 = .ok (.iload_n 3, 1) := by decide +kernel
theorem dX4_allInStep_17 : decode cX4_allInStep 17 = .ok (.ifCond .eq 13, 3) := by decide +kernel
theorem dX4_allInStep_20 : decode cX4_allInStep 20 = .ok (.iload_n 3, 1) := by decide +kernel
theorem dX4_allInStep_21 : decode cX4_allInStep 21 = .ok (.aload_n 1, 1) := by decide +kernel
theorem dX4_allInStep_22 : decode cX4_allInStep 22 = .ok (.getfield 55, 3) := by decide +kernel
theorem dX4_allInStep_25 : decode cX4_allInStep 25 = .ok (.if_icmp .eq 5, 3) := by decide +kernel
theorem dX4_allInStep_28 : decode cX4_allInStep 28 = .ok (.iconst 0, 1) := by decide +kernel
theorem dX4_allInStep_29 : decode cX4_allInStep 29 = .ok (.ireturn, 1) := by decide +kernel
theorem dX4_allInStep_30 : decode cX4_allInStep 30 = .ok (.iinc 2 1, 3) := by decide +kernel
theorem dX4_allInStep_33 : decode cX4_allInStep 33 = .ok (.goto (-31), 3) := by decide +kernel
theorem dX4_allInStep_36 : decode cX4_allInStep 36 = .ok (.iconst 1, 1) := by decide +kernel
theorem dX4_allInStep_37 : decode cX4_allInStep 37 = .ok (.ireturn, 1) := by decide +kernel
set_option maxRecDepth 20000 in
theorem ggX4_countWithFirst_X4_keepsStep : GoodIn wsX4_countWithFirst wsX4_keepsStep := goodIn_ca (goodIn_r _ [5, 6, 7, 8, 9, 4, 10, 11, 12, 24, 25, 26, 27, 28, 29] (by decide +kernel) (by decide +kernel)) (goodIn_sub (fun _ h => List.mem_cons_of_mem _ (List.mem_append_right _ h)) (by decide +kernel))
set_option maxRecDepth 20000 in
theorem gX4_countWithFirst_X4_keepsStep : GoodIn wsX4_countWithFirst (wsV RX4 66 RX4 yX4_keepsStep wsX4_keepsStep) := goodIn_app (goodIn_of _ (by decide +kernel)) ggX4_countWithFirst_X4_keepsStep
theorem dX4_countWithFirst_0 : decode cX4_countWithFirst 0 = .ok (.iconst 0, 1) := by decide +kernel
theorem dX4_countWithFirst_1 : decode cX4_countWithFirst 1 = .ok (.istore_n 2, 1) := by decide +kernel
theorem dX4_countWithFirst_2 : decode cX4_countWithFirst 2 = .ok (.iconst 0, 1) := by decide +kernel
theorem dX4_countWithFirst_3 : decode cX4_countWithFirst 3 = .ok (.istore_n 3, 1) := by decide +kernel
theorem dX4_countWithFirst_4 : decode cX4_countWithFirst 4 = .ok (.iload_n 3, 1) := by decide +kernel
theorem dX4_countWithFirst_5 : decode cX4_countWithFirst 5 = .ok (.aload_n 1, 1) := by decide +kernel
theorem dX4_countWithFirst_6 : decode cX4_countWithFirst 6 = .ok (.getfield 60, 3) := by decide +kernel
theorem dX4_countWithFirst_9 : decode cX4_countWithFirst 9 = .ok (.if_icmp .ge 31, 3) := by decide +kernel
theorem dX4_countWithFirst_12 : decode cX4_countWithFirst 12 = .ok (.aload_n 0, 1) := by decide +kernel
theorem dX4_countWithFirst_13 : decode cX4_countWithFirst 13 = .ok (.aload_n 1, 1) := by decide +kernel
theorem dX4_countWithFirst_14 : decode cX4_countWithFirst 14 = .ok (.getfield 63, 3) := by decide +kernel
theorem dX4_countWithFirst_17 : decode cX4_countWithFirst 17 = .ok (.iconst 0, 1) := by decide +kernel
theorem dX4_countWithFirst_18 : decode cX4_countWithFirst 18 = .ok (.iaload, 1) := by decide +kernel
theorem dX4_countWithFirst_19 : decode cX4_countWithFirst 19 = .ok (.aload_n 1, 1) := by decide +kernel
theorem dX4_countWithFirst_20 : decode cX4_countWithFirst 20 = .ok (.getfield 63, 3) := by decide +kernel
theorem dX4_countWithFirst_23 : decode cX4_countWithFirst 23 = .ok (.iload_n 3, 1) := by decide +kernel
theorem dX4_countWithFirst_24 : decode cX4_countWithFirst 24 = .ok (.iaload, 1) := by decide +kernel
theorem dX4_countWithFirst_25 : decode cX4_countWithFirst 25 = .ok (.invokevirtual 66, 3) := by decide +kernel
theorem dX4_countWithFirst_28 : decode cX4_countWithFirst 28 = .ok (.ifCond .eq 6, 3) := by decide +kernel
theorem dX4_countWithFirst_31 : decode cX4_countWithFirst 31 = .ok (.iinc 2 1, 3) := by decide +kernel
theorem dX4_countWithFirst_34 : decode cX4_countWithFirst 34 = .ok (.iinc 3 1, 3) := by decide +kernel
theorem dX4_countWithFirst_37 : decode cX4_countWithFirst 37 = .ok (.goto (-33), 3) := by decide +kernel
theorem dX4_countWithFirst_40 : decode cX4_countWithFirst 40 = .ok (.iload_n 2, 1) := by decide +kernel
theorem dX4_countWithFirst_41 : decode cX4_countWithFirst 41 = .ok (.ireturn, 1) := by decide +kernel
set_option maxRecDepth 20000 in
theorem ggX4_gather_X4_firstInStep : GoodIn wsX4_gather wsX4_firstInStep := goodIn_ca (goodIn_r _ [6, 7, 8, 9, 5, 10, 11, 12, 13, 14, 15, 16, 17, 18, 19, 20, 21, 22, 23, 24, 25, 26, 27, 28, 29, 30, 31, 32, 33, 34] (by decide +kernel) (by decide +kernel)) (goodIn_sub (fun _ h => List.mem_cons_of_mem _ (List.mem_append_right _ h)) (by decide +kernel))
set_option maxRecDepth 20000 in
theorem gX4_gather_X4_firstInStep : GoodIn wsX4_gather (wsV RX4 70 RX4 yX4_firstInStep wsX4_firstInStep) := goodIn_app (goodIn_of _ (by decide +kernel)) ggX4_gather_X4_firstInStep
theorem dX4_gather_0 : decode cX4_gather 0 = .ok (.iconst 0, 1) := by decide +kernel
theorem dX4_gather_1 : decode cX4_gather 1 = .ok (.istore_n 2, 1) := by decide +kernel
theorem dX4_gather_2 : decode cX4_gather 2 = .ok (.iconst 0, 1) := by decide +kernel
theorem dX4_gather_3 : decode cX4_gather 3 = .ok (.istore_n 3, 1) := by decide +kernel
theorem dX4_gather_4 : decode cX4_gather 4 = .ok (.iload_n 3, 1) := by decide +kernel
theorem dX4_gather_5 : decode cX4_gather 5 = .ok (.aload_n 1, 1) := by decide +kernel
theorem dX4_gather_6 : decode cX4_gather 6 = .ok (.getfield 60, 3) := by decide +kernel
theorem dX4_gather_9 : decode cX4_gather 9 = .ok (.if_icmp .ge 61, 3) := by decide +kernel
theorem dX4_gather_12 : decode cX4_gather 12 = .ok (.aload_n 1, 1) := by decide +kernel
theorem dX4_gather_13 : decode cX4_gather 13 = .ok (.getfield 63, 3) := by decide +kernel
theorem dX4_gather_16 : decode cX4_gather 16 = .ok (.iload_n 3, 1) := by decide +kernel
theorem dX4_gather_17 : decode cX4_gather 17 = .ok (.iaload, 1) := by decide +kernel
theorem dX4_gather_18 : decode cX4_gather 18 = .ok (.istore 4, 2) := by decide +kernel
theorem dX4_gather_20 : decode cX4_gather 20 = .ok (.aload_n 0, 1) := by decide +kernel
theorem dX4_gather_21 : decode cX4_gather 21 = .ok (.aload_n 1, 1) := by decide +kernel
theorem dX4_gather_22 : decode cX4_gather 22 = .ok (.iload 4, 2) := by decide +kernel
theorem dX4_gather_24 : decode cX4_gather 24 = .ok (.invokevirtual 70, 3) := by decide +kernel
theorem dX4_gather_27 : decode cX4_gather 27 = .ok (.istore 5, 2) := by decide +kernel
theorem dX4_gather_29 : decode cX4_gather 29 = .ok (.iload 5, 2) := by decide +kernel
theorem dX4_gather_31 : decode cX4_gather 31 = .ok (.iload 4, 2) := by decide +kernel
theorem dX4_gather_33 : decode cX4_gather 33 = .ok (.if_icmp .ne 17, 3) := by decide +kernel
theorem dX4_gather_36 : decode cX4_gather 36 = .ok (.aload_n 0, 1) := by decide +kernel
theorem dX4_gather_37 : decode cX4_gather 37 = .ok (.getfield 22, 3) := by decide +kernel
theorem dX4_gather_40 : decode cX4_gather 40 = .ok (.iload 4, 2) := by decide +kernel
theorem dX4_gather_42 : decode cX4_gather 42 = .ok (.iload_n 2, 1) := by decide +kernel
theorem dX4_gather_43 : decode cX4_gather 43 = .ok (.iastore, 1) := by decide +kernel
theorem dX4_gather_44 : decode cX4_gather 44 = .ok (.iinc 2 1, 3) := by decide +kernel
theorem dX4_gather_47 : decode cX4_gather 47 = .ok (.goto 17, 3) := by decide +kernel
theorem dX4_gather_50 : decode cX4_gather 50 = .ok (.aload_n 0, 1) := by decide +kernel
theorem dX4_gather_51 : decode cX4_gather 51 = .ok (.getfield 22, 3) := by decide +kernel
theorem dX4_gather_54 : decode cX4_gather 54 = .ok (.iload 4, 2) := by decide +kernel
theorem dX4_gather_56 : decode cX4_gather 56 = .ok (.aload_n 0, 1) := by decide +kernel
theorem dX4_gather_57 : decode cX4_gather 57 = .ok (.getfield 22, 3) := by decide +kernel
theorem dX4_gather_60 : decode cX4_gather 60 = .ok (.iload 5, 2) := by decide +kernel
theorem dX4_gather_62 : decode cX4_gather 62 = .ok (.iaload, 1) := by decide +kernel
theorem dX4_gather_63 : decode cX4_gather 63 = .ok (.iastore, 1) := by decide +kernel
theorem dX4_gather_64 : decode cX4_gather 64 = .ok (.iinc 3 1, 3) := by decide +kernel
theorem dX4_gather_67 : decode cX4_gather 67 = .ok (.goto (-63), 3) := by decide +kernel
theorem dX4_gather_70 : decode cX4_gather 70 = .ok (.iload_n 2, 1) := by decide +kernel
theorem dX4_gather_71 : decode cX4_gather 71 = .ok (.ireturn, 1) := by decide +kernel
set_option maxRecDepth 20000 in
theorem ggX4_firstInStep_X4_keepsStep : GoodIn wsX4_firstInStep wsX4_keepsStep := goodIn_ca (goodIn_r _ [5, 6, 7, 8, 9, 4, 10, 11, 12, 24, 25, 26, 27, 28, 29] (by decide +kernel) (by decide +kernel)) (goodIn_sub (fun _ h => List.mem_cons_of_mem _ (List.mem_append_right _ h)) (by decide +kernel))
set_option maxRecDepth 20000 in
theorem gX4_firstInStep_X4_keepsStep : GoodIn wsX4_firstInStep (wsV RX4 66 RX4 yX4_keepsStep wsX4_keepsStep) := goodIn_app (goodIn_of _ (by decide +kernel)) ggX4_firstInStep_X4_keepsStep
theorem dX4_firstInStep_0 : decode cX4_firstInStep 0 = .ok (.iconst 0, 1) := by decide +kernel
theorem dX4_firstInStep_1 : decode cX4_firstInStep 1 = .ok (.istore_n 3, 1) := by decide +kernel
theorem dX4_firstInStep_2 : decode cX4_firstInStep 2 = .ok (.iload_n 3, 1) := by decide +kernel
theorem dX4_firstInStep_3 : decode cX4_firstInStep 3 = .ok (.aload_n 1, 1) := by decide +kernel
theorem dX4_firstInStep_4 : decode cX4_firstInStep 4 = .ok (.getfield 60, 3) := by decide +kernel
theorem dX4_firstInStep_7 : decode cX4_firstInStep 7 = .ok (.if_icmp .ge 30, 3) := by decide +kernel
theorem dX4_firstInStep_10 : decode cX4_firstInStep 10 = .ok (.aload_n 0, 1) := by decide +kernel
theorem dX4_firstInStep_11 : decode cX4_firstInStep 11 = .ok (.aload_n 1, 1) := by decide +kernel
theorem dX4_firstInStep_12 : decode cX4_firstInStep 12 = .ok (.getfield 63, 3) := by decide +kernel
theorem dX4_firstInStep_15 : decode cX4_firstInStep 15 = .ok (.iload_n 3, 1) := by decide +kernel
theorem dX4_firstInStep_16 : decode cX4_firstInStep 16 = .ok (.iaload, 1) := by decide +kernel
theorem dX4_firstInStep_17 : decode cX4_firstInStep 17 = .ok (.iload_n 2, 1) := by decide +kernel
theorem dX4_firstInStep_18 : decode cX4_firstInStep 18 = .ok (.invokevirtual 66, 3) := by decide +kernel
theorem dX4_firstInStep_21 : decode cX4_firstInStep 21 = .ok (.ifCond .eq 10, 3) := by decide +kernel
theorem dX4_firstInStep_24 : decode cX4_firstInStep 24 = .ok (.aload_n 1, 1) := by decide +kernel
theorem dX4_firstInStep_25 : decode cX4_firstInStep 25 = .ok (.getfield 63, 3) := by decide +kernel
theorem dX4_firstInStep_28 : decode cX4_firstInStep 28 = .ok (.iload_n 3, 1) := by decide +kernel
theorem dX4_firstInStep_29 : decode cX4_firstInStep 29 = .ok (.iaload, 1) := by decide +kernel
theorem dX4_firstInStep_30 : decode cX4_firstInStep 30 = .ok (.ireturn, 1) := by decide +kernel
theorem dX4_firstInStep_31 : decode cX4_firstInStep 31 = .ok (.iinc 3 1, 3) := by decide +kernel
theorem dX4_firstInStep_34 : decode cX4_firstInStep 34 = .ok (.goto (-32), 3) := by decide +kernel
theorem dX4_firstInStep_37 : decode cX4_firstInStep 37 = .ok (.iload_n 2, 1) := by decide +kernel
theorem dX4_firstInStep_38 : decode cX4_firstInStep 38 = .ok (.ireturn, 1) := by decide +kernel
set_option maxRecDepth 20000 in
theorem ggX4_groupsHaveAll_X4_gather : GoodIn wsX4_groupsHaveAll wsX4_gather := goodIn_ca (goodIn_r _ [6, 1, 7, 8, 9, 5, 10, 11, 12, 13, 14, 15, 16, 17, 18, 19, 20, 21, 22, 23, 24, 25, 26, 27, 28, 29, 30, 31, 32, 33, 34, 35, 36, 37, 38] (by decide +kernel) (by decide +kernel)) (goodIn_sub (fun _ h => List.mem_cons_of_mem _ (List.mem_append_right _ h)) (by decide +kernel))
set_option maxRecDepth 20000 in
theorem gX4_groupsHaveAll_X4_gather : GoodIn wsX4_groupsHaveAll (wsV RX4 73 RX4 yX4_gather wsX4_gather) := goodIn_app (goodIn_of _ (by decide +kernel)) ggX4_groupsHaveAll_X4_gather
theorem dX4_groupsHaveAll_0 : decode cX4_groupsHaveAll 0 = .ok (.aload_n 0, 1) := by decide +kernel
theorem dX4_groupsHaveAll_1 : decode cX4_groupsHaveAll 1 = .ok (.aload_n 1, 1) := by decide +kernel
theorem dX4_groupsHaveAll_2 : decode cX4_groupsHaveAll 2 = .ok (.invokevirtual 73, 3) := by decide +kernel
theorem dX4_groupsHaveAll_5 : decode cX4_groupsHaveAll 5 = .ok (.istore_n 2, 1) := by decide +kernel
theorem dX4_groupsHaveAll_6 : decode cX4_groupsHaveAll 6 = .ok (.iconst 0, 1) := by decide +kernel
theorem dX4_groupsHaveAll_7 : decode cX4_groupsHaveAll 7 = .ok (.istore_n 3, 1) := by decide +kernel
theorem dX4_groupsHaveAll_8 : decode cX4_groupsHaveAll 8 = .ok (.iconst 0, 1) := by decide +kernel
theorem dX4_groupsHaveAll_9 : decode cX4_groupsHaveAll 9 = .ok (.istore 4, 2) := by decide +kernel
theorem dX4_groupsHaveAll_11 : decode cX4_groupsHaveAll 11 = .ok (.iload 4, 2) := by decide +kernel
theorem dX4_groupsHaveAll_13 : decode cX4_groupsHaveAll 13 = .ok (.iload_n 2, 1) := by decide +kernel
theorem dX4_groupsHaveAll_14 : decode cX4_groupsHaveAll 14 = .ok (.if_icmp .ge 47, 3) := by decide +kernel
theorem dX4_groupsHaveAll_17 : decode cX4_groupsHaveAll 17 = .ok (.iconst 0, 1) := by decide +kernel
theorem dX4_groupsHaveAll_18 : decode cX4_groupsHaveAll 18 = .ok (.istore 5, 2) := by decide +kernel
theorem dX4_groupsHaveAll_20 : decode cX4_groupsHaveAll 20 = .ok (.iload 5, 2) := by decide +kernel
theorem dX4_groupsHaveAll_22 : decode cX4_groupsHaveAll 22 = .ok (.aload_n 1, 1) := by decide +kernel
theorem dX4_groupsHaveAll_23 : decode cX4_groupsHaveAll 23 = .ok (.getfield 60, 3) := by decide +kernel
theorem dX4_groupsHaveAll_26 : decode cX4_groupsHaveAll 26 = .ok (.if_icmp .ge 29, 3) := by decide +kernel
theorem dX4_groupsHaveAll_29 : decode cX4_groupsHaveAll 29 = .ok (.aload_n 0, 1) := by decide +kernel
theorem dX4_groupsHaveAll_30 : decode cX4_groupsHaveAll 30 = .ok (.getfield 22, 3) := by decide +kernel
theorem dX4_groupsHaveAll_33 : decode cX4_groupsHaveAll 33 = .ok (.aload_n 1, 1) := by decide +kernel
theorem dX4_groupsHaveAll_34 : decode cX4_groupsHaveAll 34 = .ok (.getfield 63, 3) := by decide +kernel
theorem dX4_groupsHaveAll_37 : decode cX4_groupsHaveAll 37 = .ok (.iload 5, 2) := by decide +kernel
theorem dX4_groupsHaveAll_39 : decode cX4_groupsHaveAll 39 = .ok (.iaload, 1) := by decide +kernel
theorem dX4_groupsHaveAll_40 : decode cX4_groupsHaveAll 40 = .ok (.iaload, 1) := by decide +kernel
theorem dX4_groupsHaveAll_41 : decode cX4_groupsHaveAll 41 = .ok (.iload 4, 2) := by decide +kernel
theorem dX4_groupsHaveAll_43 : decode cX4_groupsHaveAll 43 = .ok (.if_icmp .ne 6, 3) := by decide +kernel
theorem dX4_groupsHaveAll_46 : decode cX4_groupsHaveAll 46 = .ok (.iinc 3 1, 3) := by decide +kernel
theorem dX4_groupsHaveAll_49 : decode cX4_groupsHaveAll 49 = .ok (.iinc 5 1, 3) := by decide +kernel
theorem dX4_groupsHaveAll_52 : decode cX4_groupsHaveAll 52 = .ok (.goto (-32), 3) := by decide +kernel
theorem dX4_groupsHaveAll_55 : decode cX4_groupsHaveAll 55 = .ok (.iinc 4 1, 3) := by decide +kernel
theorem dX4_groupsHaveAll_58 : decode cX4_groupsHaveAll 58 = .ok (.goto (-47), 3) := by decide +kernel
theorem dX4_groupsHaveAll_61 : decode cX4_groupsHaveAll 61 = .ok (.iload_n 3, 1) := by decide +kernel
theorem dX4_groupsHaveAll_62 : decode cX4_groupsHaveAll 62 = .ok (.aload_n 1, 1) := by decide +kernel
theorem dX4_groupsHaveAll_63 : decode cX4_groupsHaveAll 63 = .ok (.getfield 60, 3) := by decide +kernel
theorem dX4_groupsHaveAll_66 : decode cX4_groupsHaveAll 66 = .ok (.if_icmp .ne 7, 3) := by decide +kernel
theorem dX4_groupsHaveAll_69 : decode cX4_groupsHaveAll 69 = .ok (.iconst 1, 1) := by decide +kernel
theorem dX4_groupsHaveAll_70 : decode cX4_groupsHaveAll 70 = .ok (.goto 4, 3) := by decide +kernel
theorem dX4_groupsHaveAll_73 : decode cX4_groupsHaveAll 73 = .ok (.iconst 0, 1) := by decide +kernel
theorem dX4_groupsHaveAll_74 : decode cX4_groupsHaveAll 74 = .ok (.ireturn, 1) := by decide +kernel
set_option maxRecDepth 20000 in
theorem ggX4_countBreaks_X4_keepsStep : GoodIn wsX4_countBreaks wsX4_keepsStep := goodIn_ca (goodIn_r _ [5, 6, 7, 8, 9, 4, 10, 11, 12, 24, 25, 26, 27, 28, 29] (by decide +kernel) (by decide +kernel)) (goodIn_sub (fun _ h => List.mem_cons_of_mem _ (List.mem_append_right _ h)) (by decide +kernel))
set_option maxRecDepth 20000 in
theorem gX4_countBreaks_X4_keepsStep : GoodIn wsX4_countBreaks (wsV RX4 66 RX4 yX4_keepsStep wsX4_keepsStep) := goodIn_app (goodIn_of _ (by decide +kernel)) ggX4_countBreaks_X4_keepsStep
theorem dX4_countBreaks_0 : decode cX4_countBreaks 0 = .ok (.iconst 0, 1) := by decide +kernel
theorem dX4_countBreaks_1 : decode cX4_countBreaks 1 = .ok (.istore_n 2, 1) := by decide +kernel
theorem dX4_countBreaks_2 : decode cX4_countBreaks 2 = .ok (.iconst 0, 1) := by decide +kernel
theorem dX4_countBreaks_3 : decode cX4_countBreaks 3 = .ok (.istore_n 3, 1) := by decide +kernel
theorem dX4_countBreaks_4 : decode cX4_countBreaks 4 = .ok (.iload_n 3, 1) := by decide +kernel
theorem dX4_countBreaks_5 : decode cX4_countBreaks 5 = .ok (.aload_n 1, 1) := by decide +kernel
theorem dX4_countBreaks_6 : decode cX4_countBreaks 6 = .ok (.getfield 60, 3) := by decide +kernel
theorem dX4_countBreaks_9 : decode cX4_countBreaks 9 = .ok (.if_icmp .ge 51, 3) := by decide +kernel
theorem dX4_countBreaks_12 : decode cX4_countBreaks 12 = .ok (.iload_n 3, 1) := by decide +kernel
theorem dX4_countBreaks_13 : decode cX4_countBreaks 13 = .ok (.iconst 1, 1) := by decide +kernel
theorem dX4_countBreaks_14 : decode cX4_countBreaks 14 = .ok (.iadd, 1) := by decide +kernel
theorem dX4_countBreaks_15 : decode cX4_countBreaks 15 = .ok (.aload_n 1, 1) := by decide +kernel
theorem dX4_countBreaks_16 : decode cX4_countBreaks 16 = .ok (.getfield 60, 3) := by decide +kernel
theorem dX4_countBreaks_19 : decode cX4_countBreaks 19 = .ok (.if_icmp .ge 9, 3) := by decide +kernel
theorem dX4_countBreaks_22 : decode cX4_countBreaks 22 = .ok (.iload_n 3, 1) := by decide +kernel
theorem dX4_countBreaks_23 : decode cX4_countBreaks 23 = .ok (.iconst 1, 1) := by decide +kernel
theorem dX4_countBreaks_24 : decode cX4_countBreaks 24 = .ok (.iadd, 1) := by decide +kernel
theorem dX4_countBreaks_25 : decode cX4_countBreaks 25 = .ok (.goto 4, 3) := by decide +kernel
theorem dX4_countBreaks_28 : decode cX4_countBreaks 28 = .ok (.iconst 0, 1) := by decide +kernel
theorem dX4_countBreaks_29 : decode cX4_countBreaks 29 = .ok (.istore 4, 2) := by decide +kernel
theorem dX4_countBreaks_31 : decode cX4_countBreaks 31 = .ok (.aload_n 0, 1) := by decide +kernel
theorem dX4_countBreaks_32 : decode cX4_countBreaks 32 = .ok (.aload_n 1, 1) := by decide +kernel
theorem dX4_countBreaks_33 : decode cX4_countBreaks 33 = .ok (.getfield 63, 3) := by decide +kernel
theorem dX4_countBreaks_36 : decode cX4_countBreaks 36 = .ok (.iload_n 3, 1) := by decide +kernel
theorem dX4_countBreaks_37 : decode cX4_countBreaks 37 = .ok (.iaload, 1) := by decide +kernel
theorem dX4_countBreaks_38 : decode cX4_countBreaks 38 = .ok (.aload_n 1, 1) := by decide +kernel
theorem dX4_countBreaks_39 : decode cX4_countBreaks 39 = .ok (.getfield 63, 3) := by decide +kernel
theorem dX4_countBreaks_42 : decode cX4_countBreaks 42 = .ok (.iload 4, 2) := by decide +kernel
theorem dX4_countBreaks_44 : decode cX4_countBreaks 44 = .ok (.iaload, 1) := by decide +kernel
theorem dX4_countBreaks_45 : decode cX4_countBreaks 45 = .ok (.invokevirtual 66, 3) := by decide +kernel
theorem dX4_countBreaks_48 : decode cX4_countBreaks 48 = .ok (.ifCond .ne 6, 3) := by decide +kernel
theorem dX4_countBreaks_51 : decode cX4_countBreaks 51 = .ok (.iinc 2 1, 3) := by decide +kernel
theorem dX4_countBreaks_54 : decode cX4_countBreaks 54 = .ok (.iinc 3 1, 3) := by decide +kernel
theorem dX4_countBreaks_57 : decode cX4_countBreaks 57 = .ok (.goto (-53), 3) := by decide +kernel
theorem dX4_countBreaks_60 : decode cX4_countBreaks 60 = .ok (.iload_n 2, 1) := by decide +kernel
theorem dX4_countBreaks_61 : decode cX4_countBreaks 61 = .ok (.ireturn, 1) := by decide +kernel
set_option maxRecDepth 20000 in
theorem ggX4_flasherAt_X4_flashedInCycle : GoodIn wsX4_flasherAt wsX4_flashedInCycle := goodIn_ca (goodIn_r _ [6, 7, 8, 9, 10, 11, 12, 13, 14] (by decide +kernel) (by decide +kernel)) (goodIn_sub (fun _ h => List.mem_cons_of_mem _ (List.mem_append_right _ h)) (by decide +kernel))
set_option maxRecDepth 20000 in
theorem gX4_flasherAt_X4_flashedInCycle : GoodIn wsX4_flasherAt (wsV RX4 51 RX4 yX4_flashedInCycle wsX4_flashedInCycle) := goodIn_app (goodIn_of _ (by decide +kernel)) ggX4_flasherAt_X4_flashedInCycle
theorem dX4_flasherAt_0 : decode cX4_flasherAt 0 = .ok (.iload_n 2, 1) := by decide +kernel
theorem dX4_flasherAt_1 : decode cX4_flasherAt 1 = .ok (.istore_n 3, 1) := by decide +kernel
theorem dX4_flasherAt_2 : decode cX4_flasherAt 2 = .ok (.iconst 0, 1) := by decide +kernel
theorem dX4_flasherAt_3 : decode cX4_flasherAt 3 = .ok (.istore 4, 2) := by decide +kernel
theorem dX4_flasherAt_5 : decode cX4_flasherAt 5 = .ok (.iload 4, 2) := by decide +kernel
theorem dX4_flasherAt_7 : decode cX4_flasherAt 7 = .ok (.aload_n 0, 1) := by decide +kernel
theorem dX4_flasherAt_8 : decode cX4_flasherAt 8 = .ok (.getfield 15, 3) := by decide +kernel
theorem dX4_flasherAt_11 : decode cX4_flasherAt 11 = .ok (.if_icmp .ge 69, 3) := by decide +kernel
theorem dX4_flasherAt_14 : decode cX4_flasherAt 14 = .ok (.iload_n 3, 1) := by decide +kernel
theorem dX4_flasherAt_15 : decode cX4_flasherAt 15 = .ok (.ifCond .lt 65, 3) := by decide +kernel
theorem dX4_flasherAt_18 : decode cX4_flasherAt 18 = .ok (.aload_n 0, 1) := by decide +kernel
theorem dX4_flasherAt_19 : decode cX4_flasherAt 19 = .ok (.iload 4, 2) := by decide +kernel
theorem dX4_flasherAt_21 : decode cX4_flasherAt 21 = .ok (.invokevirtual 51, 3) := by decide +kernel
theorem dX4_flasherAt_24 : decode cX4_flasherAt 24 = .ok (.istore 5, 2) := by decide +kernel
theorem dX4_flasherAt_26 : decode cX4_flasherAt 26 = .ok (.iconst 0, 1) := by decide +kernel
theorem dX4_flasherAt_27 : decode cX4_flasherAt 27 = .ok (.istore 6, 2) := by decide +kernel
theorem dX4_flasherAt_29 : decode cX4_flasherAt 29 = .ok (.iload 6, 2) := by decide +kernel
theorem dX4_flasherAt_31 : decode cX4_flasherAt 31 = .ok (.aload_n 1, 1) := by decide +kernel
theorem dX4_flasherAt_32 : decode cX4_flasherAt 32 = .ok (.getfield 60, 3) := by decide +kernel
theorem dX4_flasherAt_35 : decode cX4_flasherAt 35 = .ok (.if_icmp .ge 39, 3) := by decide +kernel
theorem dX4_flasherAt_38 : decode cX4_flasherAt 38 = .ok (.iload 5, 2) := by decide +kernel
theorem dX4_flasherAt_40 : decode cX4_flasherAt 40 = .ok (.aload_n 1, 1) := by decide +kernel
theorem dX4_flasherAt_41 : decode cX4_flasherAt 41 = .ok (.getfield 63, 3) := by decide +kernel
theorem dX4_flasherAt_44 : decode cX4_flasherAt 44 = .ok (.iload 6, 2) := by decide +kernel
theorem dX4_flasherAt_46 : decode cX4_flasherAt 46 = .ok (.iaload, 1) := by decide +kernel
theorem dX4_flasherAt_47 : decode cX4_flasherAt 47 = .ok (.ishr, 1) := by decide +kernel
theorem dX4_flasherAt_48 : decode cX4_flasherAt 48 = .ok (.iconst 1, 1) := by decide +kernel
theorem dX4_flasherAt_49 : decode cX4_flasherAt 49 = .ok (.iand, 1) := by decide +kernel
theorem dX4_flasherAt_50 : decode cX4_flasherAt 50 = .ok (.ifCond .eq 18, 3) := by decide +kernel
theorem dX4_flasherAt_53 : decode cX4_flasherAt 53 = .ok (.iload_n 3, 1) := by decide +kernel
theorem dX4_flasherAt_54 : decode cX4_flasherAt 54 = .ok (.ifCond .ne 11, 3) := by decide +kernel
theorem dX4_flasherAt_57 : decode cX4_flasherAt 57 = .ok (.aload_n 1, 1) := by decide +kernel
theorem dX4_flasherAt_58 : decode cX4_flasherAt 58 = .ok (.getfield 63, 3) := by decide +kernel
theorem dX4_flasherAt_61 : decode cX4_flasherAt 61 = .ok (.iload 6, 2) := by decide +kernel
theorem dX4_flasherAt_63 : decode cX4_flasherAt 63 = .ok (.iaload, 1) := by decide +kernel
theorem dX4_flasherAt_64 : decode cX4_flasherAt 64 = .ok (.ireturn, 1) := by decide +kernel
theorem dX4_flasherAt_65 : decode cX4_flasherAt 65 = .ok (.iinc 3 (-1), 3) := by decide +kernel
theorem dX4_flasherAt_68 : decode cX4_flasherAt 68 = .ok (.iinc 6 1, 3) := by decide +kernel
theorem dX4_flasherAt_71 : decode cX4_flasherAt 71 = .ok (.goto (-42), 3) := by decide +kernel
theorem dX4_flasherAt_74 : decode cX4_flasherAt 74 = .ok (.iinc 4 1, 3) := by decide +kernel
theorem dX4_flasherAt_77 : decode cX4_flasherAt 77 = .ok (.goto (-72), 3) := by decide +kernel
theorem dX4_flasherAt_80 : decode cX4_flasherAt 80 = .ok (.iconst (-1), 1) := by decide +kernel
theorem dX4_flasherAt_81 : decode cX4_flasherAt 81 = .ok (.ireturn, 1) := by decide +kernel
