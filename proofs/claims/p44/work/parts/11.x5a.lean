set_option maxRecDepth 20000 in
theorem ggX5_init_X1_init : GoodIn wsX5_init wsX1_init := goodIn_r _ [36, 37, 2, 3, 38, 39, 12, 40, 41, 42, 43, 44, 45, 46, 47, 48, 80, 81, 82, 83, 84, 85, 86, 87, 88, 89, 90] (by decide +kernel) (by decide +kernel)
set_option maxRecDepth 20000 in
theorem gX5_init_X1_init_n11 : GoodIn wsX5_init (wsX1_init) := ggX5_init_X1_init
set_option maxRecDepth 20000 in
theorem ggX5_init_X2_init : GoodIn wsX5_init wsX2_init := goodIn_r _ [50, 51, 2, 3, 12, 52, 53, 54, 106, 107, 108] (by decide +kernel) (by decide +kernel)
set_option maxRecDepth 20000 in
theorem gX5_init_X2_init_n18 : GoodIn wsX5_init (wsX2_init) := ggX5_init_X2_init
set_option maxRecDepth 20000 in
theorem ggX5_init_X4_init : GoodIn wsX5_init wsX4_init := goodIn_r _ [56, 57, 2, 3, 58, 59, 12, 60, 61, 62, 9, 10, 63, 64, 49, 50, 51, 52, 53, 54, 109, 110, 111, 112, 113, 114, 106, 107, 108] (by decide +kernel) (by decide +kernel)
set_option maxRecDepth 20000 in
theorem gX5_init_X4_init_n42 : GoodIn wsX5_init (wsX4_init) := ggX5_init_X4_init
set_option maxRecDepth 20000 in
theorem ggX5_init_X0_init : GoodIn wsX5_init wsX0_init := goodIn_r _ [66, 67, 2, 3, 68, 12, 69, 115, 116] (by decide +kernel) (by decide +kernel)
set_option maxRecDepth 20000 in
theorem gX5_init_X0_init_n65 : GoodIn wsX5_init (wsX0_init) := ggX5_init_X0_init
set_option maxRecDepth 20000 in
theorem ggX5_init_X3_init : GoodIn wsX5_init wsX3_init := goodIn_r _ [71, 72, 2, 3, 73, 74, 75, 76, 77, 78, 79, 117, 118, 119, 120, 121] (by decide +kernel) (by decide +kernel)
set_option maxRecDepth 20000 in
theorem gX5_init_X3_init_n72 : GoodIn wsX5_init (wsX3_init) := ggX5_init_X3_init
theorem dX5_init_0 : decode cX5_init 0 = .ok (.aload_n 0, 1) := by decide +kernel
theorem dX5_init_1 : decode cX5_init 1 = .ok (.invokespecial 3, 3) := by decide +kernel
theorem dX5_init_4 : decode cX5_init 4 = .ok (.aload_n 0, 1) := by decide +kernel
theorem dX5_init_5 : decode cX5_init 5 = .ok (.new 9, 3) := by decide +kernel
theorem dX5_init_8 : decode cX5_init 8 = .ok (.dup, 1) := by decide +kernel
theorem dX5_init_9 : decode cX5_init 9 = .ok (.invokespecial 11, 3) := by decide +kernel
theorem dX5_init_12 : decode cX5_init 12 = .ok (.putfield 12, 3) := by decide +kernel
theorem dX5_init_15 : decode cX5_init 15 = .ok (.aload_n 0, 1) := by decide +kernel
theorem dX5_init_16 : decode cX5_init 16 = .ok (.new 16, 3) := by decide +kernel
theorem dX5_init_19 : decode cX5_init 19 = .ok (.dup, 1) := by decide +kernel
theorem dX5_init_20 : decode cX5_init 20 = .ok (.invokespecial 18, 3) := by decide +kernel
theorem dX5_init_23 : decode cX5_init 23 = .ok (.putfield 19, 3) := by decide +kernel
theorem dX5_init_26 : decode cX5_init 26 = .ok (.aload_n 0, 1) := by decide +kernel
theorem dX5_init_27 : decode cX5_init 27 = .ok (.bipush 16, 2) := by decide +kernel
theorem dX5_init_29 : decode cX5_init 29 = .ok (.newarray .int, 2) := by decide +kernel
theorem dX5_init_31 : decode cX5_init 31 = .ok (.putfield 23, 3) := by decide +kernel
theorem dX5_init_34 : decode cX5_init 34 = .ok (.aload_n 0, 1) := by decide +kernel
theorem dX5_init_35 : decode cX5_init 35 = .ok (.bipush 16, 2) := by decide +kernel
theorem dX5_init_37 : decode cX5_init 37 = .ok (.newarray .int, 2) := by decide +kernel
theorem dX5_init_39 : decode cX5_init 39 = .ok (.putfield 27, 3) := by decide +kernel
theorem dX5_init_42 : decode cX5_init 42 = .ok (.aload_n 0, 1) := by decide +kernel
theorem dX5_init_43 : decode cX5_init 43 = .ok (.iconst 0, 1) := by decide +kernel
theorem dX5_init_44 : decode cX5_init 44 = .ok (.putfield 30, 3) := by decide +kernel
theorem dX5_init_47 : decode cX5_init 47 = .ok (.aload_n 0, 1) := by decide +kernel
theorem dX5_init_48 : decode cX5_init 48 = .ok (.iconst 0, 1) := by decide +kernel
theorem dX5_init_49 : decode cX5_init 49 = .ok (.putfield 34, 3) := by decide +kernel
theorem dX5_init_52 : decode cX5_init 52 = .ok (.aload_n 0, 1) := by decide +kernel
theorem dX5_init_53 : decode cX5_init 53 = .ok (.iconst 1, 1) := by decide +kernel
theorem dX5_init_54 : decode cX5_init 54 = .ok (.putfield 37, 3) := by decide +kernel
theorem dX5_init_57 : decode cX5_init 57 = .ok (.aload_n 0, 1) := by decide +kernel
theorem dX5_init_58 : decode cX5_init 58 = .ok (.new 40, 3) := by decide +kernel
theorem dX5_init_61 : decode cX5_init 61 = .ok (.dup, 1) := by decide +kernel
theorem dX5_init_62 : decode cX5_init 62 = .ok (.invokespecial 42, 3) := by decide +kernel
theorem dX5_init_65 : decode cX5_init 65 = .ok (.putfield 43, 3) := by decide +kernel
theorem dX5_init_68 : decode cX5_init 68 = .ok (.aload_n 0, 1) := by decide +kernel
theorem dX5_init_69 : decode cX5_init 69 = .ok (.iconst 0, 1) := by decide +kernel
theorem dX5_init_70 : decode cX5_init 70 = .ok (.putfield 47, 3) := by decide +kernel
theorem dX5_init_73 : decode cX5_init 73 = .ok (.aload_n 0, 1) := by decide +kernel
theorem dX5_init_74 : decode cX5_init 74 = .ok (.iconst 0, 1) := by decide +kernel
theorem dX5_init_75 : decode cX5_init 75 = .ok (.putfield 51, 3) := by decide +kernel
theorem dX5_init_78 : decode cX5_init 78 = .ok (.aload_n 0, 1) := by decide +kernel
theorem dX5_init_79 : decode cX5_init 79 = .ok (.new 9, 3) := by decide +kernel
theorem dX5_init_82 : decode cX5_init 82 = .ok (.dup, 1) := by decide +kernel
theorem dX5_init_83 : decode cX5_init 83 = .ok (.invokespecial 11, 3) := by decide +kernel
theorem dX5_init_86 : decode cX5_init 86 = .ok (.putfield 54, 3) := by decide +kernel
theorem dX5_init_89 : decode cX5_init 89 = .ok (.aload_n 0, 1) := by decide +kernel
theorem dX5_init_90 : decode cX5_init 90 = .ok (.new 16, 3) := by decide +kernel
theorem dX5_init_93 : decode cX5_init 93 = .ok (.dup, 1) := by decide +kernel
theorem dX5_init_94 : decode cX5_init 94 = .ok (.invokespecial 18, 3) := by decide +kernel
theorem dX5_init_97 : decode cX5_init 97 = .ok (.putfield 57, 3) := by decide +kernel
theorem dX5_init_100 : decode cX5_init 100 = .ok (.aload_n 0, 1) := by decide +kernel
theorem dX5_init_101 : decode cX5_init 101 = .ok (.new 40, 3) := by decide +kernel
theorem dX5_init_104 : decode cX5_init 104 = .ok (.dup, 1) := by decide +kernel
theorem dX5_init_105 : decode cX5_init 105 = .ok (.invokespecial 42, 3) := by decide +kernel
theorem dX5_init_108 : decode cX5_init 108 = .ok (.putfield 60, 3) := by decide +kernel
theorem dX5_init_111 : decode cX5_init 111 = .ok (.aload_n 0, 1) := by decide +kernel
theorem dX5_init_112 : decode cX5_init 112 = .ok (.new 63, 3) := by decide +kernel
theorem dX5_init_115 : decode cX5_init 115 = .ok (.dup, 1) := by decide +kernel
theorem dX5_init_116 : decode cX5_init 116 = .ok (.invokespecial 65, 3) := by decide +kernel
theorem dX5_init_119 : decode cX5_init 119 = .ok (.putfield 66, 3) := by decide +kernel
theorem dX5_init_122 : decode cX5_init 122 = .ok (.aload_n 0, 1) := by decide +kernel
theorem dX5_init_123 : decode cX5_init 123 = .ok (.new 70, 3) := by decide +kernel
theorem dX5_init_126 : decode cX5_init 126 = .ok (.dup, 1) := by decide +kernel
theorem dX5_init_127 : decode cX5_init 127 = .ok (.invokespecial 72, 3) := by decide +kernel
theorem dX5_init_130 : decode cX5_init 130 = .ok (.putfield 73, 3) := by decide +kernel
theorem dX5_init_133 : decode cX5_init 133 = .ok (.return_, 1) := by decide +kernel
set_option maxRecDepth 20000 in
theorem ggX5_beater_X5_checkPlace : GoodIn wsX5_beater wsX5_checkPlace := goodIn_ca (goodIn_r _ [11, 12, 13] (by decide +kernel) (by decide +kernel)) (goodIn_sub (fun _ h => List.mem_cons_of_mem _ (List.mem_append_left _ (List.mem_append_right _ h))) (by decide +kernel))
set_option maxRecDepth 20000 in
theorem gX5_beater_X5_checkPlace : GoodIn wsX5_beater (va_wsS RX5 77 yX5_checkPlace wsX5_checkPlace) := goodIn_app (goodIn_of _ (by decide +kernel)) ggX5_beater_X5_checkPlace
set_option maxRecDepth 20000 in
theorem ggX5_beater_X5_checkRange : GoodIn wsX5_beater wsX5_checkRange := goodIn_ca (goodIn_r _ [16, 17, 18] (by decide +kernel) (by decide +kernel)) (goodIn_sub (fun _ h => List.mem_cons_of_mem _ (List.mem_append_right _ h)) (by decide +kernel))
set_option maxRecDepth 20000 in
theorem gX5_beater_X5_checkRange : GoodIn wsX5_beater (va_wsS RX5 81 yX5_checkRange wsX5_checkRange) := goodIn_app (goodIn_of _ (by decide +kernel)) ggX5_beater_X5_checkRange
set_option maxRecDepth 20000 in
theorem ggX5_beater_X1_has : GoodIn wsX5_beater wsX1_has := goodIn_r _ [22, 23, 54, 55, 56, 57, 58, 59, 60, 61, 62, 63, 64] (by decide +kernel) (by decide +kernel)
set_option maxRecDepth 20000 in
theorem gX5_beater_X1_has_n92 : GoodIn wsX5_beater (wsX1_has) := ggX5_beater_X1_has
set_option maxRecDepth 20000 in
theorem ggX5_beater_X1_put : GoodIn wsX5_beater wsX1_put := goodIn_ca (goodIn_r _ [26, 27, 28, 29, 23, 30, 31, 32, 20, 33, 34, 35, 54, 55, 56, 57, 58, 59, 60, 61, 62, 63, 64] (by decide +kernel) (by decide +kernel)) (goodIn_sub (fun _ h => List.mem_cons_of_mem _ (List.mem_append_left _ (List.mem_append_left _ (List.mem_append_right _ h)))) (by decide +kernel))
set_option maxRecDepth 20000 in
theorem gX5_beater_X1_put_n96 : GoodIn wsX5_beater (wsX1_put) := ggX5_beater_X1_put
theorem dX5_beater_0 : decode cX5_beater 0 = .ok (.iload_n 1, 1) := by decide +kernel
theorem dX5_beater_1 : decode cX5_beater 1 = .ok (.invokestatic 77, 3) := by decide +kernel
theorem dX5_beater_4 : decode cX5_beater 4 = .ok (.iload_n 2, 1) := by decide +kernel
theorem dX5_beater_5 : decode cX5_beater 5 = .ok (.iconst 2, 1) := by decide +kernel
theorem dX5_beater_6 : decode cX5_beater 6 = .ok (.bipush 99, 2) := by decide +kernel
theorem dX5_beater_8 : decode cX5_beater 8 = .ok (.invokestatic 81, 3) := by decide +kernel
theorem dX5_beater_11 : decode cX5_beater 11 = .ok (.iload_n 3, 1) := by decide +kernel
theorem dX5_beater_12 : decode cX5_beater 12 = .ok (.iconst 0, 1) := by decide +kernel
theorem dX5_beater_13 : decode cX5_beater 13 = .ok (.iload_n 2, 1) := by decide +kernel
theorem dX5_beater_14 : decode cX5_beater 14 = .ok (.iconst 1, 1) := by decide +kernel
theorem dX5_beater_15 : decode cX5_beater 15 = .ok (.isub, 1) := by decide +kernel
theorem dX5_beater_16 : decode cX5_beater 16 = .ok (.invokestatic 81, 3) := by decide +kernel
theorem dX5_beater_19 : decode cX5_beater 19 = .ok (.iload 4, 2) := by decide +kernel
theorem dX5_beater_21 : decode cX5_beater 21 = .ok (.iconst 0, 1) := by decide +kernel
theorem dX5_beater_22 : decode cX5_beater 22 = .ok (.iload_n 2, 1) := by decide +kernel
theorem dX5_beater_23 : decode cX5_beater 23 = .ok (.iconst 1, 1) := by decide +kernel
theorem dX5_beater_24 : decode cX5_beater 24 = .ok (.isub, 1) := by decide +kernel
theorem dX5_beater_25 : decode cX5_beater 25 = .ok (.invokestatic 81, 3) := by decide +kernel
theorem dX5_beater_28 : decode cX5_beater 28 = .ok (.iload_n 1, 1) := by decide +kernel
theorem dX5_beater_29 : decode cX5_beater 29 = .ok (.bipush 16, 2) := by decide +kernel
theorem dX5_beater_31 : decode cX5_beater 31 = .ok (.if_icmp .lt 13, 3) := by decide +kernel
theorem dX5_beater_34 : decode cX5_beater 34 = .ok (.new 85, 3) := by decide +kernel
theorem dX5_beater_37 : decode cX5_beater 37 = .ok (.dup, 1) := by decide +kernel
theorem dX5_beater_38 : decode cX5_beater 38 = .ok (.ldc 87, 2) := by decide +kernel
theorem dX5_beater_40 : decode cX5_beater 40 = .ok (.invokespecial 89, 3) := by decide +kernel
theorem dX5_beater_43 : decode cX5_beater 43 = .ok (.athrow, 1) := by decide +kernel
theorem dX5_beater_44 : decode cX5_beater 44 = .ok (.aload_n 0, 1) := by decide +kernel
theorem dX5_beater_45 : decode cX5_beater 45 = .ok (.getfield 12, 3) := by decide +kernel
theorem dX5_beater_48 : decode cX5_beater 48 = .ok (.iload_n 1, 1) := by decide +kernel
theorem dX5_beater_49 : decode cX5_beater 49 = .ok (.invokevirtual 92, 3) := by decide +kernel
theorem dX5_beater_52 : decode cX5_beater 52 = .ok (.istore 5, 2) := by decide +kernel
theorem dX5_beater_54 : decode cX5_beater 54 = .ok (.aload_n 0, 1) := by decide +kernel
theorem dX5_beater_55 : decode cX5_beater 55 = .ok (.getfield 12, 3) := by decide +kernel
theorem dX5_beater_58 : decode cX5_beater 58 = .ok (.iload_n 1, 1) := by decide +kernel
theorem dX5_beater_59 : decode cX5_beater 59 = .ok (.iload_n 2, 1) := by decide +kernel
theorem dX5_beater_60 : decode cX5_beater 60 = .ok (.iload 4, 2) := by decide +kernel
theorem dX5_beater_62 : decode cX5_beater 62 = .ok (.invokevirtual 96, 3) := by decide +kernel
theorem dX5_beater_65 : decode cX5_beater 65 = .ok (.aload_n 0, 1) := by decide +kernel
theorem dX5_beater_66 : decode cX5_beater 66 = .ok (.getfield 19, 3) := by decide +kernel
theorem dX5_beater_69 : decode cX5_beater 69 = .ok (.getfield 99, 3) := by decide +kernel
theorem dX5_beater_72 : decode cX5_beater 72 = .ok (.iload_n 1, 1) := by decide +kernel
theorem dX5_beater_73 : decode cX5_beater 73 = .ok (.iload_n 3, 1) := by decide +kernel
theorem dX5_beater_74 : decode cX5_beater 74 = .ok (.iastore, 1) := by decide +kernel
theorem dX5_beater_75 : decode cX5_beater 75 = .ok (.aload_n 0, 1) := by decide +kernel
theorem dX5_beater_76 : decode cX5_beater 76 = .ok (.getfield 23, 3) := by decide +kernel
theorem dX5_beater_79 : decode cX5_beater 79 = .ok (.iload_n 1, 1) := by decide +kernel
theorem dX5_beater_80 : decode cX5_beater 80 = .ok (.iconst 0, 1) := by decide +kernel
theorem dX5_beater_81 : decode cX5_beater 81 = .ok (.iastore, 1) := by decide +kernel
theorem dX5_beater_82 : decode cX5_beater 82 = .ok (.aload_n 0, 1) := by decide +kernel
theorem dX5_beater_83 : decode cX5_beater 83 = .ok (.getfield 27, 3) := by decide +kernel
theorem dX5_beater_86 : decode cX5_beater 86 = .ok (.iload_n 1, 1) := by decide +kernel
theorem dX5_beater_87 : decode cX5_beater 87 = .ok (.iconst 0, 1) := by decide +kernel
theorem dX5_beater_88 : decode cX5_beater 88 = .ok (.iastore, 1) := by decide +kernel
theorem dX5_beater_89 : decode cX5_beater 89 = .ok (.aload_n 0, 1) := by decide +kernel
theorem dX5_beater_90 : decode cX5_beater 90 = .ok (.iconst 0, 1) := by decide +kernel
theorem dX5_beater_91 : decode cX5_beater 91 = .ok (.putfield 47, 3) := by decide +kernel
theorem dX5_beater_94 : decode cX5_beater 94 = .ok (.iload 5, 2) := by decide +kernel
theorem dX5_beater_96 : decode cX5_beater 96 = .ok (.ireturn, 1) := by decide +kernel
set_option maxRecDepth 20000 in
theorem ggX5_swing_X5_checkPlace : GoodIn wsX5_swing wsX5_checkPlace := goodIn_ca (goodIn_r _ [8, 9, 10] (by decide +kernel) (by decide +kernel)) (goodIn_sub (fun _ h => List.mem_cons_of_mem _ (List.mem_append_left _ (List.mem_append_left _ (List.mem_append_right _ h)))) (by decide +kernel))
set_option maxRecDepth 20000 in
theorem gX5_swing_X5_checkPlace : GoodIn wsX5_swing (va_wsS RX5 77 yX5_checkPlace wsX5_checkPlace) := goodIn_app (goodIn_of _ (by decide +kernel)) ggX5_swing_X5_checkPlace
set_option maxRecDepth 20000 in
theorem ggX5_swing_X5_checkRange : GoodIn wsX5_swing wsX5_checkRange := goodIn_ca (goodIn_r _ [13, 14, 15] (by decide +kernel) (by decide +kernel)) (goodIn_sub (fun _ h => List.mem_cons_of_mem _ (List.mem_append_left _ (List.mem_append_right _ h))) (by decide +kernel))
set_option maxRecDepth 20000 in
theorem gX5_swing_X5_checkRange : GoodIn wsX5_swing (va_wsS RX5 81 yX5_checkRange wsX5_checkRange) := goodIn_app (goodIn_of _ (by decide +kernel)) ggX5_swing_X5_checkRange
set_option maxRecDepth 20000 in
theorem ggX5_swing_X3_put : GoodIn wsX5_swing wsX3_put := goodIn_ca (goodIn_r _ [19, 20, 21, 22, 38, 39, 40, 41, 42] (by decide +kernel) (by decide +kernel)) (goodIn_sub (fun _ h => List.mem_cons_of_mem _ (List.mem_append_right _ h)) (by decide +kernel))
set_option maxRecDepth 20000 in
theorem gX5_swing_X3_put_n105 : GoodIn wsX5_swing (wsX3_put) := ggX5_swing_X3_put
theorem dX5_swing_0 : decode cX5_swing 0 = .ok (.iload_n 1, 1) := by decide +kernel
theorem dX5_swing_1 : decode cX5_swing 1 = .ok (.invokestatic 77, 3) := by decide +kernel
theorem dX5_swing_4 : decode cX5_swing 4 = .ok (.iload_n 2, 1) := by decide +kernel
theorem dX5_swing_5 : decode cX5_swing 5 = .ok (.sipush (-1000), 3) := by decide +kernel
theorem dX5_swing_8 : decode cX5_swing 8 = .ok (.sipush 1000, 3) := by decide +kernel
theorem dX5_swing_11 : decode cX5_swing 11 = .ok (.invokestatic 81, 3) := by decide +kernel
theorem dX5_swing_14 : decode cX5_swing 14 = .ok (.iload_n 1, 1) := by decide +kernel
theorem dX5_swing_15 : decode cX5_swing 15 = .ok (.bipush 16, 2) := by decide +kernel
theorem dX5_swing_17 : decode cX5_swing 17 = .ok (.if_icmp .ge 13, 3) := by decide +kernel
theorem dX5_swing_20 : decode cX5_swing 20 = .ok (.new 85, 3) := by decide +kernel
theorem dX5_swing_23 : decode cX5_swing 23 = .ok (.dup, 1) := by decide +kernel
theorem dX5_swing_24 : decode cX5_swing 24 = .ok (.ldc 102, 2) := by decide +kernel
theorem dX5_swing_26 : decode cX5_swing 26 = .ok (.invokespecial 89, 3) := by decide +kernel
theorem dX5_swing_29 : decode cX5_swing 29 = .ok (.athrow, 1) := by decide +kernel
theorem dX5_swing_30 : decode cX5_swing 30 = .ok (.aload_n 0, 1) := by decide +kernel
theorem dX5_swing_31 : decode cX5_swing 31 = .ok (.getfield 73, 3) := by decide +kernel
theorem dX5_swing_34 : decode cX5_swing 34 = .ok (.iload_n 1, 1) := by decide +kernel
theorem dX5_swing_35 : decode cX5_swing 35 = .ok (.bipush 16, 2) := by decide +kernel
theorem dX5_swing_37 : decode cX5_swing 37 = .ok (.isub, 1) := by decide +kernel
theorem dX5_swing_38 : decode cX5_swing 38 = .ok (.iload_n 2, 1) := by decide +kernel
theorem dX5_swing_39 : decode cX5_swing 39 = .ok (.i2f, 1) := by decide +kernel
theorem dX5_swing_40 : decode cX5_swing 40 = .ok (.ldc 104, 2) := by decide +kernel
theorem dX5_swing_42 : decode cX5_swing 42 = .ok (.fdiv, 1) := by decide +kernel
theorem dX5_swing_43 : decode cX5_swing 43 = .ok (.invokevirtual 105, 3) := by decide +kernel
theorem dX5_swing_46 : decode cX5_swing 46 = .ok (.ireturn, 1) := by decide +kernel
set_option maxRecDepth 20000 in
theorem ggX5_phase_X5_checkBeater : GoodIn wsX5_phase wsX5_checkBeater := goodIn_ca (goodIn_ca (goodIn_r _ [6, 7, 8, 9, 10, 11, 5, 12, 13, 14, 15, 16, 17, 18, 19, 20, 21, 22, 23, 24, 25, 26, 27, 28, 29, 30, 31, 32, 33, 34, 38, 39, 40, 41, 42, 43, 44, 45, 46, 47, 48] (by decide +kernel) (by decide +kernel)) (goodIn_sub (fun _ h => List.mem_cons_of_mem _ (List.mem_append_left _ (List.mem_append_right _ h))) (by decide +kernel))) (goodIn_sub (fun _ h => List.mem_cons_of_mem _ (List.mem_append_right _ h)) (by decide +kernel))
set_option maxRecDepth 20000 in
theorem gX5_phase_X5_checkBeater : GoodIn wsX5_phase (wsV RX5 108 RX5 yX5_checkBeater wsX5_checkBeater) := goodIn_app (goodIn_of _ (by decide +kernel)) ggX5_phase_X5_checkBeater
theorem dX5_phase_0 : decode cX5_phase 0 = .ok (.aload_n 0, 1) := by decide +kernel
theorem dX5_phase_1 : decode cX5_phase 1 = .ok (.iload_n 1, 1) := by decide +kernel
theorem dX5_phase_2 : decode cX5_phase 2 = .ok (.invokevirtual 108, 3) := by decide +kernel
theorem dX5_phase_5 : decode cX5_phase 5 = .ok (.aload_n 0, 1) := by decide +kernel
theorem dX5_phase_6 : decode cX5_phase 6 = .ok (.getfield 19, 3) := by decide +kernel
theorem dX5_phase_9 : decode cX5_phase 9 = .ok (.getfield 99, 3) := by decide +kernel
theorem dX5_phase_12 : decode cX5_phase 12 = .ok (.iload_n 1, 1) := by decide +kernel
theorem dX5_phase_13 : decode cX5_phase 13 = .ok (.iaload, 1) := by decide +kernel
theorem dX5_phase_14 : decode cX5_phase 14 = .ok (.ireturn, 1) := by decide +kernel
set_option maxRecDepth 20000 in
theorem ggX5_period_X5_checkPlace : GoodIn wsX5_period wsX5_checkPlace := goodIn_ca (goodIn_r _ [11, 12, 13] (by decide +kernel) (by decide +kernel)) (goodIn_sub (fun _ h => List.mem_cons_of_mem _ (List.mem_append_left _ (List.mem_append_left _ (List.mem_append_right _ h)))) (by decide +kernel))
set_option maxRecDepth 20000 in
theorem gX5_period_X5_checkPlace : GoodIn wsX5_period (va_wsS RX5 77 yX5_checkPlace wsX5_checkPlace) := goodIn_app (goodIn_of _ (by decide +kernel)) ggX5_period_X5_checkPlace
set_option maxRecDepth 20000 in
theorem ggX5_period_X5_checkRange : GoodIn wsX5_period wsX5_checkRange := goodIn_ca (goodIn_r _ [16, 17, 18] (by decide +kernel) (by decide +kernel)) (goodIn_sub (fun _ h => List.mem_cons_of_mem _ (List.mem_append_left _ (List.mem_append_right _ h))) (by decide +kernel))
set_option maxRecDepth 20000 in
theorem gX5_period_X5_checkRange : GoodIn wsX5_period (va_wsS RX5 81 yX5_checkRange wsX5_checkRange) := goodIn_app (goodIn_of _ (by decide +kernel)) ggX5_period_X5_checkRange
set_option maxRecDepth 20000 in
theorem ggX5_period_X5_checkBeater : GoodIn wsX5_period wsX5_checkBeater := goodIn_ca (goodIn_ca (goodIn_r _ [22, 23, 24, 1, 8, 9, 10, 11, 12, 13, 25, 26, 27, 28, 29, 30, 31, 32, 33, 34, 35, 36, 37, 38, 39, 40, 41, 42, 43, 44, 45, 46, 47, 48, 49, 50, 51, 52, 53, 54, 55] (by decide +kernel) (by decide +kernel)) (goodIn_sub (fun _ h => List.mem_cons_of_mem _ (List.mem_append_right _ h)) (by decide +kernel))) (goodIn_sub (fun _ h => List.mem_cons_of_mem _ (List.mem_append_left _ (List.mem_append_left _ (List.mem_append_right _ h)))) (by decide +kernel))
set_option maxRecDepth 20000 in
theorem gX5_period_X5_checkBeater : GoodIn wsX5_period (wsV RX5 108 RX5 yX5_checkBeater wsX5_checkBeater) := goodIn_app (goodIn_of _ (by decide +kernel)) ggX5_period_X5_checkBeater
theorem dX5_period_0 : decode cX5_period 0 = .ok (.iload_n 1, 1) := by decide +kernel
theorem dX5_period_1 : decode cX5_period 1 = .ok (.invokestatic 77, 3) := by decide +kernel
theorem dX5_period_4 : decode cX5_period 4 = .ok (.iload_n 2, 1) := by decide +kernel
theorem dX5_period_5 : decode cX5_period 5 = .ok (.iconst 2, 1) := by decide +kernel
theorem dX5_period_6 : decode cX5_period 6 = .ok (.bipush 99, 2) := by decide +kernel
theorem dX5_period_8 : decode cX5_period 8 = .ok (.invokestatic 81, 3) := by decide +kernel
theorem dX5_period_11 : decode cX5_period 11 = .ok (.aload_n 0, 1) := by decide +kernel
theorem dX5_period_12 : decode cX5_period 12 = .ok (.iload_n 1, 1) := by decide +kernel
theorem dX5_period_13 : decode cX5_period 13 = .ok (.invokevirtual 108, 3) := by decide +kernel
theorem dX5_period_16 : decode cX5_period 16 = .ok (.aload_n 0, 1) := by decide +kernel
theorem dX5_period_17 : decode cX5_period 17 = .ok (.getfield 12, 3) := by decide +kernel
theorem dX5_period_20 : decode cX5_period 20 = .ok (.getfield 111, 3) := by decide +kernel
theorem dX5_period_23 : decode cX5_period 23 = .ok (.iload_n 1, 1) := by decide +kernel
theorem dX5_period_24 : decode cX5_period 24 = .ok (.iaload, 1) := by decide +kernel
theorem dX5_period_25 : decode cX5_period 25 = .ok (.istore_n 3, 1) := by decide +kernel
theorem dX5_period_26 : decode cX5_period 26 = .ok (.aload_n 0, 1) := by decide +kernel
theorem dX5_period_27 : decode cX5_period 27 = .ok (.getfield 12, 3) := by decide +kernel
theorem dX5_period_30 : decode cX5_period 30 = .ok (.getfield 111, 3) := by decide +kernel
theorem dX5_period_33 : decode cX5_period 33 = .ok (.iload_n 1, 1) := by decide +kernel
theorem dX5_period_34 : decode cX5_period 34 = .ok (.iload_n 2, 1) := by decide +kernel
theorem dX5_period_35 : decode cX5_period 35 = .ok (.iastore, 1) := by decide +kernel
theorem dX5_period_36 : decode cX5_period 36 = .ok (.aload_n 0, 1) := by decide +kernel
theorem dX5_period_37 : decode cX5_period 37 = .ok (.getfield 12, 3) := by decide +kernel
theorem dX5_period_40 : decode cX5_period 40 = .ok (.getfield 114, 3) := by decide +kernel
theorem dX5_period_43 : decode cX5_period 43 = .ok (.iload_n 1, 1) := by decide +kernel
theorem dX5_period_44 : decode cX5_period 44 = .ok (.aload_n 0, 1) := by decide +kernel
theorem dX5_period_45 : decode cX5_period 45 = .ok (.getfield 12, 3) := by decide +kernel
theorem dX5_period_48 : decode cX5_period 48 = .ok (.getfield 114, 3) := by decide +kernel
theorem dX5_period_51 : decode cX5_period 51 = .ok (.iload_n 1, 1) := by decide +kernel
theorem dX5_period_52 : decode cX5_period 52 = .ok (.iaload, 1) := by decide +kernel
theorem dX5_period_53 : decode cX5_period 53 = .ok (.iload_n 2, 1) := by decide +kernel
theorem dX5_period_54 : decode cX5_period 54 = .ok (.iconst 1, 1) := by decide +kernel
theorem dX5_period_55 : decode cX5_period 55 = .ok (.isub, 1) := by decide +kernel
theorem dX5_period_56 : decode cX5_period 56 = .ok (.invokestatic 117, 3) := by decide +kernel
theorem dX5_period_59 : decode cX5_period 59 = .ok (.iastore, 1) := by decide +kernel
theorem dX5_period_60 : decode cX5_period 60 = .ok (.aload_n 0, 1) := by decide +kernel
theorem dX5_period_61 : decode cX5_period 61 = .ok (.getfield 19, 3) := by decide +kernel
theorem dX5_period_64 : decode cX5_period 64 = .ok (.getfield 99, 3) := by decide +kernel
theorem dX5_period_67 : decode cX5_period 67 = .ok (.iload_n 1, 1) := by decide +kernel
theorem dX5_period_68 : decode cX5_period 68 = .ok (.aload_n 0, 1) := by decide +kernel
theorem dX5_period_69 : decode cX5_period 69 = .ok (.getfield 19, 3) := by decide +kernel
theorem dX5_period_72 : decode cX5_period 72 = .ok (.getfield 99, 3) := by decide +kernel
theorem dX5_period_75 : decode cX5_period 75 = .ok (.iload_n 1, 1) := by decide +kernel
theorem dX5_period_76 : decode cX5_period 76 = .ok (.iaload, 1) := by decide +kernel
theorem dX5_period_77 : decode cX5_period 77 = .ok (.iload_n 2, 1) := by decide +kernel
theorem dX5_period_78 : decode cX5_period 78 = .ok (.iconst 1, 1) := by decide +kernel
theorem dX5_period_79 : decode cX5_period 79 = .ok (.isub, 1) := by decide +kernel
theorem dX5_period_80 : decode cX5_period 80 = .ok (.invokestatic 117, 3) := by decide +kernel
theorem dX5_period_83 : decode cX5_period 83 = .ok (.iastore, 1) := by decide +kernel
theorem dX5_period_84 : decode cX5_period 84 = .ok (.aload_n 0, 1) := by decide +kernel
theorem dX5_period_85 : decode cX5_period 85 = .ok (.iconst 0, 1) := by decide +kernel
theorem dX5_period_86 : decode cX5_period 86 = .ok (.putfield 47, 3) := by decide +kernel
theorem dX5_period_89 : decode cX5_period 89 = .ok (.iload_n 3, 1) := by decide +kernel
theorem dX5_period_90 : decode cX5_period 90 = .ok (.ireturn, 1) := by decide +kernel
set_option maxRecDepth 20000 in
theorem ggX5_answer_X5_checkPlace : GoodIn wsX5_answer wsX5_checkPlace := goodIn_ca (goodIn_r _ [6, 7, 8] (by decide +kernel) (by decide +kernel)) (goodIn_sub (fun _ h => List.mem_cons_of_mem _ (List.mem_append_left _ (List.mem_append_left _ (List.mem_append_right _ h)))) (by decide +kernel))
set_option maxRecDepth 20000 in
theorem gX5_answer_X5_checkPlace : GoodIn wsX5_answer (va_wsS RX5 77 yX5_checkPlace wsX5_checkPlace) := goodIn_app (goodIn_of _ (by decide +kernel)) ggX5_answer_X5_checkPlace
set_option maxRecDepth 20000 in
theorem ggX5_answer_X5_checkRange : GoodIn wsX5_answer wsX5_checkRange := goodIn_ca (goodIn_r _ [11, 12, 13] (by decide +kernel) (by decide +kernel)) (goodIn_sub (fun _ h => List.mem_cons_of_mem _ (List.mem_append_left _ (List.mem_append_right _ h))) (by decide +kernel))
set_option maxRecDepth 20000 in
theorem gX5_answer_X5_checkRange : GoodIn wsX5_answer (va_wsS RX5 81 yX5_checkRange wsX5_checkRange) := goodIn_app (goodIn_of _ (by decide +kernel)) ggX5_answer_X5_checkRange
set_option maxRecDepth 20000 in
theorem ggX5_answer_X5_checkBeater : GoodIn wsX5_answer wsX5_checkBeater := goodIn_ca (goodIn_ca (goodIn_r _ [17, 18, 19, 1, 3, 4, 5, 6, 7, 8, 20, 21, 22, 23, 24, 25, 26, 27, 28, 29, 30, 31, 32, 33, 34, 35, 36, 37, 38, 39, 40, 41, 42, 43, 44, 45, 46, 47, 48, 49, 50] (by decide +kernel) (by decide +kernel)) (goodIn_sub (fun _ h => List.mem_cons_of_mem _ (List.mem_append_right _ h)) (by decide +kernel))) (goodIn_sub (fun _ h => List.mem_cons_of_mem _ (List.mem_append_left _ (List.mem_append_left _ (List.mem_append_right _ h)))) (by decide +kernel))
set_option maxRecDepth 20000 in
theorem gX5_answer_X5_checkBeater : GoodIn wsX5_answer (wsV RX5 108 RX5 yX5_checkBeater wsX5_checkBeater) := goodIn_app (goodIn_of _ (by decide +kernel)) ggX5_answer_X5_checkBeater
theorem dX5_answer_0 : decode cX5_answer 0 = .ok (.iload_n 1, 1) := by decide +kernel
theorem dX5_answer_1 : decode cX5_answer 1 = .ok (.invokestatic 77, 3) := by decide +kernel
theorem dX5_answer_4 : decode cX5_answer 4 = .ok (.iload_n 2, 1) := by decide +kernel
theorem dX5_answer_5 : decode cX5_answer 5 = .ok (.iconst 0, 1) := by decide +kernel
theorem dX5_answer_6 : decode cX5_answer 6 = .ok (.iconst 3, 1) := by decide +kernel
theorem dX5_answer_7 : decode cX5_answer 7 = .ok (.invokestatic 81, 3) := by decide +kernel
theorem dX5_answer_10 : decode cX5_answer 10 = .ok (.iload_n 3, 1) := by decide +kernel
theorem dX5_answer_11 : decode cX5_answer 11 = .ok (.bipush (-9), 2) := by decide +kernel
theorem dX5_answer_13 : decode cX5_answer 13 = .ok (.bipush 9, 2) := by decide +kernel
theorem dX5_answer_15 : decode cX5_answer 15 = .ok (.invokestatic 81, 3) := by decide +kernel
theorem dX5_answer_18 : decode cX5_answer 18 = .ok (.aload_n 0, 1) := by decide +kernel
theorem dX5_answer_19 : decode cX5_answer 19 = .ok (.iload_n 1, 1) := by decide +kernel
theorem dX5_answer_20 : decode cX5_answer 20 = .ok (.invokevirtual 108, 3) := by decide +kernel
theorem dX5_answer_23 : decode cX5_answer 23 = .ok (.aload_n 0, 1) := by decide +kernel
theorem dX5_answer_24 : decode cX5_answer 24 = .ok (.getfield 12, 3) := by decide +kernel
theorem dX5_answer_27 : decode cX5_answer 27 = .ok (.getfield 123, 3) := by decide +kernel
theorem dX5_answer_30 : decode cX5_answer 30 = .ok (.iload_n 1, 1) := by decide +kernel
theorem dX5_answer_31 : decode cX5_answer 31 = .ok (.iconst 4, 1) := by decide +kernel
theorem dX5_answer_32 : decode cX5_answer 32 = .ok (.imul, 1) := by decide +kernel
theorem dX5_answer_33 : decode cX5_answer 33 = .ok (.iload_n 2, 1) := by decide +kernel
theorem dX5_answer_34 : decode cX5_answer 34 = .ok (.iadd, 1) := by decide +kernel
theorem dX5_answer_35 : decode cX5_answer 35 = .ok (.iaload, 1) := by decide +kernel
theorem dX5_answer_36 : decode cX5_answer 36 = .ok (.istore 4, 2) := by decide +kernel
theorem dX5_answer_38 : decode cX5_answer 38 = .ok (.aload_n 0, 1) := by decide +kernel
theorem dX5_answer_39 : decode cX5_answer 39 = .ok (.getfield 12, 3) := by decide +kernel
theorem dX5_answer_42 : decode cX5_answer 42 = .ok (.getfield 123, 3) := by decide +kernel
theorem dX5_answer_45 : decode cX5_answer 45 = .ok (.iload_n 1, 1) := by decide +kernel
theorem dX5_answer_46 : decode cX5_answer 46 = .ok (.iconst 4, 1) := by decide +kernel
theorem dX5_answer_47 : decode cX5_answer 47 = .ok (.imul, 1) := by decide +kernel
theorem dX5_answer_48 : decode cX5_answer 48 = .ok (.iload_n 2, 1) := by decide +kernel
theorem dX5_answer_49 : decode cX5_answer 49 = .ok (.iadd, 1) := by decide +kernel
theorem dX5_answer_50 : decode cX5_answer 50 = .ok (.iload_n 3, 1) := by decide +kernel
theorem dX5_answer_51 : decode cX5_answer 51 = .ok (.iastore, 1) := by decide +kernel
theorem dX5_answer_52 : decode cX5_answer 52 = .ok (.aload_n 0, 1) := by decide +kernel
theorem dX5_answer_53 : decode cX5_answer 53 = .ok (.iconst 0, 1) := by decide +kernel
theorem dX5_answer_54 : decode cX5_answer 54 = .ok (.putfield 47, 3) := by decide +kernel
theorem dX5_answer_57 : decode cX5_answer 57 = .ok (.iload 4, 2) := by decide +kernel
theorem dX5_answer_59 : decode cX5_answer 59 = .ok (.ireturn, 1) := by decide +kernel
set_option maxRecDepth 20000 in
theorem ggX5_link_X5_checkOther : GoodIn wsX5_link wsX5_checkOther := goodIn_ca (goodIn_r _ [10, 11, 12] (by decide +kernel) (by decide +kernel)) (goodIn_sub (fun _ h => List.mem_cons_of_mem _ (List.mem_append_left _ (List.mem_append_right _ h))) (by decide +kernel))
set_option maxRecDepth 20000 in
theorem gX5_link_X5_checkOther : GoodIn wsX5_link (va_wsS RX5 131 yX5_checkOther wsX5_checkOther) := goodIn_app (goodIn_of _ (by decide +kernel)) ggX5_link_X5_checkOther
set_option maxRecDepth 20000 in
theorem ggX5_link_X5_checkRange : GoodIn wsX5_link wsX5_checkRange := goodIn_ca (goodIn_r _ [15, 11, 12] (by decide +kernel) (by decide +kernel)) (goodIn_sub (fun _ h => List.mem_cons_of_mem _ (List.mem_append_left _ (List.mem_append_right _ h))) (by decide +kernel))
set_option maxRecDepth 20000 in
theorem gX5_link_X5_checkRange : GoodIn wsX5_link (va_wsS RX5 81 yX5_checkRange wsX5_checkRange) := goodIn_app (goodIn_of _ (by decide +kernel)) ggX5_link_X5_checkRange
set_option maxRecDepth 20000 in
theorem ggX5_link_X1_addLink : GoodIn wsX5_link wsX1_addLink := goodIn_ca (goodIn_r _ [19, 20, 21, 22, 23, 24, 40, 41, 42, 43, 44, 45, 46, 47, 48, 49, 50] (by decide +kernel) (by decide +kernel)) (goodIn_sub (fun _ h => List.mem_cons_of_mem _ (List.mem_append_right _ h)) (by decide +kernel))
set_option maxRecDepth 20000 in
theorem gX5_link_X1_addLink_n143 : GoodIn wsX5_link (wsX1_addLink) := ggX5_link_X1_addLink
theorem dX5_link_0 : decode cX5_link 0 = .ok (.iload_n 1, 1) := by decide +kernel
theorem dX5_link_1 : decode cX5_link 1 = .ok (.ifCond .lt 19, 3) := by decide +kernel
theorem dX5_link_4 : decode cX5_link 4 = .ok (.iload_n 1, 1) := by decide +kernel
theorem dX5_link_5 : decode cX5_link 5 = .ok (.bipush 16, 2) := by decide +kernel
theorem dX5_link_7 : decode cX5_link 7 = .ok (.if_icmp .ge 13, 3) := by decide +kernel
theorem dX5_link_10 : decode cX5_link 10 = .ok (.iload_n 2, 1) := by decide +kernel
theorem dX5_link_11 : decode cX5_link 11 = .ok (.ifCond .lt 9, 3) := by decide +kernel
theorem dX5_link_14 : decode cX5_link 14 = .ok (.iload_n 2, 1) := by decide +kernel
theorem dX5_link_15 : decode cX5_link 15 = .ok (.bipush 16, 2) := by decide +kernel
theorem dX5_link_17 : decode cX5_link 17 = .ok (.if_icmp .lt 13, 3) := by decide +kernel
theorem dX5_link_20 : decode cX5_link 20 = .ok (.new 126, 3) := by decide +kernel
theorem dX5_link_23 : decode cX5_link 23 = .ok (.dup, 1) := by decide +kernel
theorem dX5_link_24 : decode cX5_link 24 = .ok (.ldc 128, 2) := by decide +kernel
theorem dX5_link_26 : decode cX5_link 26 = .ok (.invokespecial 130, 3) := by decide +kernel
theorem dX5_link_29 : decode cX5_link 29 = .ok (.athrow, 1) := by decide +kernel
theorem dX5_link_30 : decode cX5_link 30 = .ok (.iload_n 1, 1) := by decide +kernel
theorem dX5_link_31 : decode cX5_link 31 = .ok (.iload_n 2, 1) := by decide +kernel
theorem dX5_link_32 : decode cX5_link 32 = .ok (.invokestatic 131, 3) := by decide +kernel
theorem dX5_link_35 : decode cX5_link 35 = .ok (.iload_n 3, 1) := by decide +kernel
theorem dX5_link_36 : decode cX5_link 36 = .ok (.iconst 1, 1) := by decide +kernel
theorem dX5_link_37 : decode cX5_link 37 = .ok (.bipush 30, 2) := by decide +kernel
theorem dX5_link_39 : decode cX5_link 39 = .ok (.invokestatic 81, 3) := by decide +kernel
theorem dX5_link_42 : decode cX5_link 42 = .ok (.iload 4, 2) := by decide +kernel
theorem dX5_link_44 : decode cX5_link 44 = .ok (.iconst 1, 1) := by decide +kernel
theorem dX5_link_45 : decode cX5_link 45 = .ok (.bipush 9, 2) := by decide +kernel
theorem dX5_link_47 : decode cX5_link 47 = .ok (.invokestatic 81, 3) := by decide +kernel
theorem dX5_link_50 : decode cX5_link 50 = .ok (.aload_n 0, 1) := by decide +kernel
theorem dX5_link_51 : decode cX5_link 51 = .ok (.getfield 12, 3) := by decide +kernel
theorem dX5_link_54 : decode cX5_link 54 = .ok (.getfield 135, 3) := by decide +kernel
theorem dX5_link_57 : decode cX5_link 57 = .ok (.bipush 60, 2) := by decide +kernel
theorem dX5_link_59 : decode cX5_link 59 = .ok (.if_icmp .lt 13, 3) := by decide +kernel
theorem dX5_link_62 : decode cX5_link 62 = .ok (.new 138, 3) := by decide +kernel
theorem dX5_link_65 : decode cX5_link 65 = .ok (.dup, 1) := by decide +kernel
theorem dX5_link_66 : decode cX5_link 66 = .ok (.ldc 140, 2) := by decide +kernel
theorem dX5_link_68 : decode cX5_link 68 = .ok (.invokespecial 142, 3) := by decide +kernel
theorem dX5_link_71 : decode cX5_link 71 = .ok (.athrow, 1) := by decide +kernel
theorem dX5_link_72 : decode cX5_link 72 = .ok (.aload_n 0, 1) := by decide +kernel
theorem dX5_link_73 : decode cX5_link 73 = .ok (.getfield 12, 3) := by decide +kernel
theorem dX5_link_76 : decode cX5_link 76 = .ok (.iload_n 1, 1) := by decide +kernel
theorem dX5_link_77 : decode cX5_link 77 = .ok (.iload_n 2, 1) := by decide +kernel
theorem dX5_link_78 : decode cX5_link 78 = .ok (.iload_n 3, 1) := by decide +kernel
theorem dX5_link_79 : decode cX5_link 79 = .ok (.iload 4, 2) := by decide +kernel
theorem dX5_link_81 : decode cX5_link 81 = .ok (.invokevirtual 143, 3) := by decide +kernel
theorem dX5_link_84 : decode cX5_link 84 = .ok (.aload_n 0, 1) := by decide +kernel
theorem dX5_link_85 : decode cX5_link 85 = .ok (.iconst 0, 1) := by decide +kernel
theorem dX5_link_86 : decode cX5_link 86 = .ok (.putfield 47, 3) := by decide +kernel
theorem dX5_link_89 : decode cX5_link 89 = .ok (.aload_n 0, 1) := by decide +kernel
theorem dX5_link_90 : decode cX5_link 90 = .ok (.getfield 12, 3) := by decide +kernel
theorem dX5_link_93 : decode cX5_link 93 = .ok (.getfield 135, 3) := by decide +kernel
theorem dX5_link_96 : decode cX5_link 96 = .ok (.iconst 1, 1) := by decide +kernel
theorem dX5_link_97 : decode cX5_link 97 = .ok (.isub, 1) := by decide +kernel
theorem dX5_link_98 : decode cX5_link 98 = .ok (.ireturn, 1) := by decide +kernel
set_option maxRecDepth 20000 in
theorem ggX5_cut_X1_removeLink : GoodIn wsX5_cut wsX1_removeLink := goodIn_ca (goodIn_r _ [8, 9, 10, 11, 12, 13, 29, 30, 31, 32, 33, 34, 35, 36, 37, 38, 39] (by decide +kernel) (by decide +kernel)) (goodIn_sub (fun _ h => List.mem_cons_of_mem _ (List.mem_append_right _ h)) (by decide +kernel))
set_option maxRecDepth 20000 in
theorem gX5_cut_X1_removeLink_n149 : GoodIn wsX5_cut (wsX1_removeLink) := ggX5_cut_X1_removeLink
theorem dX5_cut_0 : decode cX5_cut 0 = .ok (.iload_n 1, 1) := by decide +kernel
theorem dX5_cut_1 : decode cX5_cut 1 = .ok (.ifCond .lt 14, 3) := by decide +kernel
theorem dX5_cut_4 : decode cX5_cut 4 = .ok (.iload_n 1, 1) := by decide +kernel
theorem dX5_cut_5 : decode cX5_cut 5 = .ok (.aload_n 0, 1) := by decide +kernel
theorem dX5_cut_6 : decode cX5_cut 6 = .ok (.getfield 12, 3) := by decide +kernel
theorem dX5_cut_9 : decode cX5_cut 9 = .ok (.getfield 135, 3) := by decide +kernel
theorem dX5_cut_12 : decode cX5_cut 12 = .ok (.if_icmp .lt 13, 3) := by decide +kernel
theorem dX5_cut_15 : decode cX5_cut 15 = .ok (.new 126, 3) := by decide +kernel
theorem dX5_cut_18 : decode cX5_cut 18 = .ok (.dup, 1) := by decide +kernel
theorem dX5_cut_19 : decode cX5_cut 19 = .ok (.ldc 147, 2) := by decide +kernel
theorem dX5_cut_21 : decode cX5_cut 21 = .ok (.invokespecial 130, 3) := by decide +kernel
theorem dX5_cut_24 : decode cX5_cut 24 = .ok (.athrow, 1) := by decide +kernel
theorem dX5_cut_25 : decode cX5_cut 25 = .ok (.aload_n 0, 1) := by decide +kernel
theorem dX5_cut_26 : decode cX5_cut 26 = .ok (.getfield 12, 3) := by decide +kernel
theorem dX5_cut_29 : decode cX5_cut 29 = .ok (.iload_n 1, 1) := by decide +kernel
theorem dX5_cut_30 : decode cX5_cut 30 = .ok (.invokevirtual 149, 3) := by decide +kernel
theorem dX5_cut_33 : decode cX5_cut 33 = .ok (.aload_n 0, 1) := by decide +kernel
theorem dX5_cut_34 : decode cX5_cut 34 = .ok (.iconst 0, 1) := by decide +kernel
theorem dX5_cut_35 : decode cX5_cut 35 = .ok (.putfield 47, 3) := by decide +kernel
theorem dX5_cut_38 : decode cX5_cut 38 = .ok (.aload_n 0, 1) := by decide +kernel
theorem dX5_cut_39 : decode cX5_cut 39 = .ok (.getfield 12, 3) := by decide +kernel
theorem dX5_cut_42 : decode cX5_cut 42 = .ok (.getfield 135, 3) := by decide +kernel
theorem dX5_cut_45 : decode cX5_cut 45 = .ok (.ireturn, 1) := by decide +kernel
set_option maxRecDepth 20000 in
theorem ggX5_net_X5_checkRange : GoodIn wsX5_net wsX5_checkRange := goodIn_ca (goodIn_r _ [10, 1, 2] (by decide +kernel) (by decide +kernel)) (goodIn_sub (fun _ h => List.mem_cons_of_mem _ (List.mem_append_left _ (List.mem_append_left _ (List.mem_append_right _ h)))) (by decide +kernel))
set_option maxRecDepth 20000 in
theorem gX5_net_X5_checkRange : GoodIn wsX5_net (va_wsS RX5 81 yX5_checkRange wsX5_checkRange) := goodIn_app (goodIn_of _ (by decide +kernel)) ggX5_net_X5_checkRange
set_option maxRecDepth 20000 in
theorem ggX5_net_X5_netSize : GoodIn wsX5_net wsX5_netSize := goodIn_r _ [13] (by decide +kernel) (by decide +kernel)
set_option maxRecDepth 20000 in
theorem gX5_net_X5_netSize : GoodIn wsX5_net (va_wsS RX5 160 yX5_netSize wsX5_netSize) := goodIn_app (goodIn_of _ (by decide +kernel)) ggX5_net_X5_netSize
set_option maxRecDepth 20000 in
theorem ggX5_net_X1_linkHub : GoodIn wsX5_net wsX1_linkHub := goodIn_ca (goodIn_r _ [17, 18, 19, 20, 21, 22, 15, 23, 24, 25, 26, 27, 28, 50, 51, 52, 53, 54, 55, 56, 57, 58, 59, 60] (by decide +kernel) (by decide +kernel)) (goodIn_sub (fun _ h => List.mem_cons_of_mem _ (List.mem_append_right _ h)) (by decide +kernel))
set_option maxRecDepth 20000 in
theorem gX5_net_X1_linkHub_n166 : GoodIn wsX5_net (wsX1_linkHub) := ggX5_net_X1_linkHub
set_option maxRecDepth 20000 in
theorem ggX5_net_X1_linkAll : GoodIn wsX5_net wsX1_linkAll := goodIn_ca (goodIn_r _ [31, 18, 19, 20, 21, 22, 15, 23, 24, 25, 26, 27, 28, 50, 51, 52, 53, 54, 55, 56, 57, 58, 59, 60] (by decide +kernel) (by decide +kernel)) (goodIn_sub (fun _ h => List.mem_cons_of_mem _ (List.mem_append_right _ h)) (by decide +kernel))
set_option maxRecDepth 20000 in
theorem gX5_net_X1_linkAll_n169 : GoodIn wsX5_net (wsX1_linkAll) := ggX5_net_X1_linkAll
set_option maxRecDepth 20000 in
theorem ggX5_net_X1_linkNext : GoodIn wsX5_net wsX1_linkNext := goodIn_ca (goodIn_r _ [34, 18, 19, 20, 21, 22, 15, 23, 24, 25, 26, 27, 28, 50, 51, 52, 53, 54, 55, 56, 57, 58, 59, 60] (by decide +kernel) (by decide +kernel)) (goodIn_sub (fun _ h => List.mem_cons_of_mem _ (List.mem_append_right _ h)) (by decide +kernel))
set_option maxRecDepth 20000 in
theorem gX5_net_X1_linkNext_n172 : GoodIn wsX5_net (wsX1_linkNext) := ggX5_net_X1_linkNext
theorem dX5_net_0 : decode cX5_net 0 = .ok (.iload_n 1, 1) := by decide +kernel
theorem dX5_net_1 : decode cX5_net 1 = .ok (.bipush 114, 2) := by decide +kernel
theorem dX5_net_3 : decode cX5_net 3 = .ok (.if_icmp .eq 31, 3) := by decide +kernel
theorem dX5_net_6 : decode cX5_net 6 = .ok (.iload_n 1, 1) := by decide +kernel
theorem dX5_net_7 : decode cX5_net 7 = .ok (.bipush 108, 2) := by decide +kernel
theorem dX5_net_9 : decode cX5_net 9 = .ok (.if_icmp .eq 25, 3) := by decide +kernel
theorem dX5_net_12 : decode cX5_net 12 = .ok (.iload_n 1, 1) := by decide +kernel
theorem dX5_net_13 : decode cX5_net 13 = .ok (.bipush 104, 2) := by decide +kernel
theorem dX5_net_15 : decode cX5_net 15 = .ok (.if_icmp .eq 19, 3) := by decide +kernel
theorem dX5_net_18 : decode cX5_net 18 = .ok (.iload_n 1, 1) := by decide +kernel
theorem dX5_net_19 : decode cX5_net 19 = .ok (.bipush 97, 2) := by decide +kernel
theorem dX5_net_21 : decode cX5_net 21 = .ok (.if_icmp .eq 13, 3) := by decide +kernel
theorem dX5_net_24 : decode cX5_net 24 = .ok (.new 152, 3) := by decide +kernel
theorem dX5_net_27 : decode cX5_net 27 = .ok (.dup, 1) := by decide +kernel
theorem dX5_net_28 : decode cX5_net 28 = .ok (.ldc 154, 2) := by decide +kernel
theorem dX5_net_30 : decode cX5_net 30 = .ok (.invokespecial 156, 3) := by decide +kernel
theorem dX5_net_33 : decode cX5_net 33 = .ok (.athrow, 1) := by decide +kernel
theorem dX5_net_34 : decode cX5_net 34 = .ok (.iload_n 2, 1) := by decide +kernel
theorem dX5_net_35 : decode cX5_net 35 = .ok (.iconst 1, 1) := by decide +kernel
theorem dX5_net_36 : decode cX5_net 36 = .ok (.bipush 30, 2) := by decide +kernel
theorem dX5_net_38 : decode cX5_net 38 = .ok (.invokestatic 81, 3) := by decide +kernel
theorem dX5_net_41 : decode cX5_net 41 = .ok (.iload_n 3, 1) := by decide +kernel
theorem dX5_net_42 : decode cX5_net 42 = .ok (.iconst 1, 1) := by decide +kernel
theorem dX5_net_43 : decode cX5_net 43 = .ok (.bipush 9, 2) := by decide +kernel
theorem dX5_net_45 : decode cX5_net 45 = .ok (.invokestatic 81, 3) := by decide +kernel
theorem dX5_net_48 : decode cX5_net 48 = .ok (.aload_n 0, 1) := by decide +kernel
theorem dX5_net_49 : decode cX5_net 49 = .ok (.getfield 12, 3) := by decide +kernel
theorem dX5_net_52 : decode cX5_net 52 = .ok (.getfield 157, 3) := by decide +kernel
theorem dX5_net_55 : decode cX5_net 55 = .ok (.iconst 2, 1) := by decide +kernel
theorem dX5_net_56 : decode cX5_net 56 = .ok (.if_icmp .lt 19, 3) := by decide +kernel
theorem dX5_net_59 : decode cX5_net 59 = .ok (.iload_n 1, 1) := by decide +kernel
theorem dX5_net_60 : decode cX5_net 60 = .ok (.aload_n 0, 1) := by decide +kernel
theorem dX5_net_61 : decode cX5_net 61 = .ok (.getfield 12, 3) := by decide +kernel
theorem dX5_net_64 : decode cX5_net 64 = .ok (.getfield 157, 3) := by decide +kernel
theorem dX5_net_67 : decode cX5_net 67 = .ok (.invokestatic 160, 3) := by decide +kernel
theorem dX5_net_70 : decode cX5_net 70 = .ok (.bipush 60, 2) := by decide +kernel
theorem dX5_net_72 : decode cX5_net 72 = .ok (.if_icmp .le 13, 3) := by decide +kernel
theorem dX5_net_75 : decode cX5_net 75 = .ok (.new 85, 3) := by decide +kernel
theorem dX5_net_78 : decode cX5_net 78 = .ok (.dup, 1) := by decide +kernel
theorem dX5_net_79 : decode cX5_net 79 = .ok (.ldc 164, 2) := by decide +kernel
theorem dX5_net_81 : decode cX5_net 81 = .ok (.invokespecial 89, 3) := by decide +kernel
theorem dX5_net_84 : decode cX5_net 84 = .ok (.athrow, 1) := by decide +kernel
theorem dX5_net_85 : decode cX5_net 85 = .ok (.aload_n 0, 1) := by decide +kernel
theorem dX5_net_86 : decode cX5_net 86 = .ok (.getfield 12, 3) := by decide +kernel
theorem dX5_net_89 : decode cX5_net 89 = .ok (.iconst 0, 1) := by decide +kernel
theorem dX5_net_90 : decode cX5_net 90 = .ok (.putfield 135, 3) := by decide +kernel
theorem dX5_net_93 : decode cX5_net 93 = .ok (.iload_n 1, 1) := by decide +kernel
theorem dX5_net_94 : decode cX5_net 94 = .ok (.bipush 104, 2) := by decide +kernel
theorem dX5_net_96 : decode cX5_net 96 = .ok (.if_icmp .ne 15, 3) := by decide +kernel
theorem dX5_net_99 : decode cX5_net 99 = .ok (.aload_n 0, 1) := by decide +kernel
theorem dX5_net_100 : decode cX5_net 100 = .ok (.getfield 12, 3) := by decide +kernel
theorem dX5_net_103 : decode cX5_net 103 = .ok (.iload_n 2, 1) := by decide +kernel
theorem dX5_net_104 : decode cX5_net 104 = .ok (.iload_n 3, 1) := by decide +kernel
theorem dX5_net_105 : decode cX5_net 105 = .ok (.invokevirtual 166, 3) := by decide +kernel
theorem dX5_net_108 : decode cX5_net 108 = .ok (.goto 41, 3) := by decide +kernel
theorem dX5_net_111 : decode cX5_net 111 = .ok (.iload_n 1, 1) := by decide +kernel
theorem dX5_net_112 : decode cX5_net 112 = .ok (.bipush 97, 2) := by decide +kernel
theorem dX5_net_114 : decode cX5_net 114 = .ok (.if_icmp .ne 15, 3) := by decide +kernel
theorem dX5_net_117 : decode cX5_net 117 = .ok (.aload_n 0, 1) := by decide +kernel
theorem dX5_net_118 : decode cX5_net 118 = .ok (.getfield 12, 3) := by decide +kernel
theorem dX5_net_121 : decode cX5_net 121 = .ok (.iload_n 2, 1) := by decide +kernel
theorem dX5_net_122 : decode cX5_net 122 = .ok (.iload_n 3, 1) := by decide +kernel
theorem dX5_net_123 : decode cX5_net 123 = .ok (.invokevirtual 169, 3) := by decide +kernel
theorem dX5_net_126 : decode cX5_net 126 = .ok (.goto 23, 3) := by decide +kernel
theorem dX5_net_129 : decode cX5_net 129 = .ok (.aload_n 0, 1) := by decide +kernel
theorem dX5_net_130 : decode cX5_net 130 = .ok (.getfield 12, 3) := by decide +kernel
theorem dX5_net_133 : decode cX5_net 133 = .ok (.iload_n 2, 1) := by decide +kernel
theorem dX5_net_134 : decode cX5_net 134 = .ok (.iload_n 3, 1) := by decide +kernel
theorem dX5_net_135 : decode cX5_net 135 = .ok (.iload_n 1, 1) := by decide +kernel
theorem dX5_net_136 : decode cX5_net 136 = .ok (.bipush 114, 2) := by decide +kernel
theorem dX5_net_138 : decode cX5_net 138 = .ok (.if_icmp .ne 7, 3) := by decide +kernel
theorem dX5_net_141 : decode cX5_net 141 = .ok (.iconst 1, 1) := by decide +kernel
theorem dX5_net_142 : decode cX5_net 142 = .ok (.goto 4, 3) := by decide +kernel
theorem dX5_net_145 : decode cX5_net 145 = .ok (.iconst 0, 1) := by decide +kernel
theorem dX5_net_146 : decode cX5_net 146 = .ok (.invokevirtual 172, 3) := by decide +kernel
theorem dX5_net_149 : decode cX5_net 149 = .ok (.aload_n 0, 1) := by decide +kernel
theorem dX5_net_150 : decode cX5_net 150 = .ok (.iconst 0, 1) := by decide +kernel
theorem dX5_net_151 : decode cX5_net 151 = .ok (.putfield 47, 3) := by decide +kernel
theorem dX5_net_154 : decode cX5_net 154 = .ok (.aload_n 0, 1) := by decide +kernel
theorem dX5_net_155 : decode cX5_net 155 = .ok (.getfield 12, 3) := by decide +kernel
theorem dX5_net_158 : decode cX5_net 158 = .ok (.getfield 135, 3) := by decide +kernel
theorem dX5_net_161 : decode cX5_net 161 = .ok (.ireturn, 1) := by decide +kernel
set_option maxRecDepth 20000 in
theorem ggX5_run_X5_checkRange : GoodIn wsX5_run wsX5_checkRange := goodIn_ca (goodIn_r _ [8, 9, 10] (by decide +kernel) (by decide +kernel)) (goodIn_sub (fun _ h => List.mem_cons_of_mem _ (List.mem_append_left _ (List.mem_append_left _ (List.mem_append_right _ h)))) (by decide +kernel))
set_option maxRecDepth 20000 in
theorem gX5_run_X5_checkRange : GoodIn wsX5_run (va_wsS RX5 81 yX5_checkRange wsX5_checkRange) := goodIn_app (goodIn_of _ (by decide +kernel)) ggX5_run_X5_checkRange
set_option maxRecDepth 20000 in
theorem ggX5_run_X5_drawLots : GoodIn wsX5_run wsX5_drawLots := goodIn_ca (goodIn_r _ [14, 15, 3, 16, 17, 18, 58, 59, 60, 61, 62, 63, 64, 65, 66, 67, 68, 69, 70, 71, 72, 73, 74, 75, 76, 77, 78, 79, 80, 81, 82, 83] (by decide +kernel) (by decide +kernel)) (goodIn_sub (fun _ h => List.mem_cons_of_mem _ (List.mem_append_left _ (List.mem_append_right _ h))) (by decide +kernel))
set_option maxRecDepth 20000 in
theorem gX5_run_X5_drawLots : GoodIn wsX5_run (wsV RX5 176 RX5 yX5_drawLots wsX5_drawLots) := goodIn_app (goodIn_of _ (by decide +kernel)) ggX5_run_X5_drawLots
set_option maxRecDepth 20000 in
theorem ggX5_run_X2_advance : GoodIn wsX5_run wsX2_advance := goodIn_ca (goodIn_ca (goodIn_r _ [22, 23, 24, 25, 26, 27, 28, 20, 29, 30, 31, 32, 33, 34, 35, 36, 37, 38, 39, 40, 41, 42, 43, 44, 84, 85, 86, 73, 74, 75, 76, 77, 78, 79, 80, 81, 82, 83] (by decide +kernel) (by decide +kernel)) (goodIn_sub (fun _ h => List.mem_cons_of_mem _ (List.mem_append_left _ (List.mem_append_right _ h))) (by decide +kernel))) (goodIn_sub (fun _ h => List.mem_cons_of_mem _ (List.mem_append_right _ h)) (by decide +kernel))
set_option maxRecDepth 20000 in
theorem gX5_run_X2_advance_n180 : GoodIn wsX5_run (wsX2_advance) := ggX5_run_X2_advance
set_option maxRecDepth 20000 in
theorem ggX5_run_X5_noteFlashes : GoodIn wsX5_run wsX5_noteFlashes := goodIn_ca (goodIn_r _ [48, 49, 50, 1, 51, 52, 53, 54, 55, 56, 57, 58, 59, 60, 61, 62, 63, 64, 65, 66, 67, 68, 69, 70, 71, 72] (by decide +kernel) (by decide +kernel)) (goodIn_sub (fun _ h => List.mem_cons_of_mem _ (List.mem_append_left _ (List.mem_append_right _ h))) (by decide +kernel))
set_option maxRecDepth 20000 in
theorem gX5_run_X5_noteFlashes : GoodIn wsX5_run (wsV RX5 184 RX5 yX5_noteFlashes wsX5_noteFlashes) := goodIn_app (goodIn_of _ (by decide +kernel)) ggX5_run_X5_noteFlashes
theorem dX5_run_0 : decode cX5_run 0 = .ok (.iload_n 1, 1) := by decide +kernel
theorem dX5_run_1 : decode cX5_run 1 = .ok (.iconst 1, 1) := by decide +kernel
theorem dX5_run_2 : decode cX5_run 2 = .ok (.sipush 500, 3) := by decide +kernel
theorem dX5_run_5 : decode cX5_run 5 = .ok (.invokestatic 81, 3) := by decide +kernel
theorem dX5_run_8 : decode cX5_run 8 = .ok (.iconst 0, 1) := by decide +kernel
theorem dX5_run_9 : decode cX5_run 9 = .ok (.istore_n 2, 1) := by decide +kernel
theorem dX5_run_10 : decode cX5_run 10 = .ok (.iconst 0, 1) := by decide +kernel
theorem dX5_run_11 : decode cX5_run 11 = .ok (.istore_n 3, 1) := by decide +kernel
theorem dX5_run_12 : decode cX5_run 12 = .ok (.iload_n 3, 1) := by decide +kernel
theorem dX5_run_13 : decode cX5_run 13 = .ok (.iload_n 1, 1) := by decide +kernel
theorem dX5_run_14 : decode cX5_run 14 = .ok (.if_icmp .ge 41, 3) := by decide +kernel
theorem dX5_run_17 : decode cX5_run 17 = .ok (.aload_n 0, 1) := by decide +kernel
theorem dX5_run_18 : decode cX5_run 18 = .ok (.dup, 1) := by decide +kernel
theorem dX5_run_19 : decode cX5_run 19 = .ok (.getfield 30, 3) := by decide +kernel
theorem dX5_run_22 : decode cX5_run 22 = .ok (.iconst 1, 1) := by decide +kernel
theorem dX5_run_23 : decode cX5_run 23 = .ok (.iadd, 1) := by decide +kernel
theorem dX5_run_24 : decode cX5_run 24 = .ok (.putfield 30, 3) := by decide +kernel
theorem dX5_run_27 : decode cX5_run 27 = .ok (.iload_n 2, 1) := by decide +kernel
theorem dX5_run_28 : decode cX5_run 28 = .ok (.aload_n 0, 1) := by decide +kernel
theorem dX5_run_29 : decode cX5_run 29 = .ok (.aload_n 0, 1) := by decide +kernel
theorem dX5_run_30 : decode cX5_run 30 = .ok (.getfield 19, 3) := by decide +kernel
theorem dX5_run_33 : decode cX5_run 33 = .ok (.aload_n 0, 1) := by decide +kernel
theorem dX5_run_34 : decode cX5_run 34 = .ok (.getfield 12, 3) := by decide +kernel
theorem dX5_run_37 : decode cX5_run 37 = .ok (.aload_n 0, 1) := by decide +kernel
theorem dX5_run_38 : decode cX5_run 38 = .ok (.invokevirtual 176, 3) := by decide +kernel
theorem dX5_run_41 : decode cX5_run 41 = .ok (.invokevirtual 180, 3) := by decide +kernel
theorem dX5_run_44 : decode cX5_run 44 = .ok (.invokevirtual 184, 3) := by decide +kernel
theorem dX5_run_47 : decode cX5_run 47 = .ok (.iadd, 1) := by decide +kernel
theorem dX5_run_48 : decode cX5_run 48 = .ok (.istore_n 2, 1) := by decide +kernel
theorem dX5_run_49 : decode cX5_run 49 = .ok (.iinc 3 1, 3) := by decide +kernel
theorem dX5_run_52 : decode cX5_run 52 = .ok (.goto (-40), 3) := by decide +kernel
theorem dX5_run_55 : decode cX5_run 55 = .ok (.aload_n 0, 1) := by decide +kernel
theorem dX5_run_56 : decode cX5_run 56 = .ok (.iconst 0, 1) := by decide +kernel
theorem dX5_run_57 : decode cX5_run 57 = .ok (.putfield 47, 3) := by decide +kernel
theorem dX5_run_60 : decode cX5_run 60 = .ok (.iload_n 2, 1) := by decide +kernel
theorem dX5_run_61 : decode cX5_run 61 = .ok (.ireturn, 1) := by decide +kernel
theorem dX5_tick_0 : decode cX5_tick 0 = .ok (.aload_n 0, 1) := by decide +kernel
theorem dX5_tick_1 : decode cX5_tick 1 = .ok (.getfield 30, 3) := by decide +kernel
theorem dX5_tick_4 : decode cX5_tick 4 = .ok (.ireturn, 1) := by decide +kernel
set_option maxRecDepth 20000 in
theorem ggX5_flashes_X5_checkBeater : GoodIn wsX5_flashes wsX5_checkBeater := goodIn_ca (goodIn_ca (goodIn_r _ [6, 7, 8, 9, 10, 11, 5, 12, 13, 14, 15, 16, 17, 18, 19, 20, 21, 22, 23, 24, 25, 26, 27, 28, 29, 30, 31, 32, 33, 34, 35, 36, 37, 38, 39, 40, 41, 42, 43, 44, 45] (by decide +kernel) (by decide +kernel)) (goodIn_sub (fun _ h => List.mem_cons_of_mem _ (List.mem_append_left _ (List.mem_append_right _ h))) (by decide +kernel))) (goodIn_sub (fun _ h => List.mem_cons_of_mem _ (List.mem_append_right _ h)) (by decide +kernel))
set_option maxRecDepth 20000 in
theorem gX5_flashes_X5_checkBeater : GoodIn wsX5_flashes (wsV RX5 108 RX5 yX5_checkBeater wsX5_checkBeater) := goodIn_app (goodIn_of _ (by decide +kernel)) ggX5_flashes_X5_checkBeater
theorem dX5_flashes_0 : decode cX5_flashes 0 = .ok (.aload_n 0, 1) := by decide +kernel
theorem dX5_flashes_1 : decode cX5_flashes 1 = .ok (.iload_n 1, 1) := by decide +kernel
theorem dX5_flashes_2 : decode cX5_flashes 2 = .ok (.invokevirtual 108, 3) := by decide +kernel
theorem dX5_flashes_5 : decode cX5_flashes 5 = .ok (.aload_n 0, 1) := by decide +kernel
theorem dX5_flashes_6 : decode cX5_flashes 6 = .ok (.getfield 23, 3) := by decide +kernel
theorem dX5_flashes_9 : decode cX5_flashes 9 = .ok (.iload_n 1, 1) := by decide +kernel
theorem dX5_flashes_10 : decode cX5_flashes 10 = .ok (.iaload, 1) := by decide +kernel
theorem dX5_flashes_11 : decode cX5_flashes 11 = .ok (.ireturn, 1) := by decide +kernel
set_option maxRecDepth 20000 in
theorem ggX5_last_X5_checkBeater : GoodIn wsX5_last wsX5_checkBeater := goodIn_ca (goodIn_ca (goodIn_r _ [6, 7, 8, 9, 10, 11, 5, 12, 13, 14, 15, 16, 17, 18, 19, 20, 21, 22, 23, 24, 25, 26, 27, 28, 29, 30, 31, 32, 33, 34, 35, 36, 37, 38, 39, 40, 41, 42, 43, 44, 45] (by decide +kernel) (by decide +kernel)) (goodIn_sub (fun _ h => List.mem_cons_of_mem _ (List.mem_append_left _ (List.mem_append_right _ h))) (by decide +kernel))) (goodIn_sub (fun _ h => List.mem_cons_of_mem _ (List.mem_append_right _ h)) (by decide +kernel))
set_option maxRecDepth 20000 in
theorem gX5_last_X5_checkBeater : GoodIn wsX5_last (wsV RX5 108 RX5 yX5_checkBeater wsX5_checkBeater) := goodIn_app (goodIn_of _ (by decide +kernel)) ggX5_last_X5_checkBeater
theorem dX5_last_0 : decode cX5_last 0 = .ok (.aload_n 0, 1) := by decide +kernel
theorem dX5_last_1 : decode cX5_last 1 = .ok (.iload_n 1, 1) := by decide +kernel
theorem dX5_last_2 : decode cX5_last 2 = .ok (.invokevirtual 108, 3) := by decide +kernel
theorem dX5_last_5 : decode cX5_last 5 = .ok (.aload_n 0, 1) := by decide +kernel
theorem dX5_last_6 : decode cX5_last 6 = .ok (.getfield 27, 3) := by decide +kernel
theorem dX5_last_9 : decode cX5_last 9 = .ok (.iload_n 1, 1) := by decide +kernel
theorem dX5_last_10 : decode cX5_last 10 = .ok (.iaload, 1) := by decide +kernel
theorem dX5_last_11 : decode cX5_last 11 = .ok (.ireturn, 1) := by decide +kernel
set_option maxRecDepth 20000 in
theorem ggX5_waiting_X5_checkBeater : GoodIn wsX5_waiting wsX5_checkBeater := goodIn_ca (goodIn_ca (goodIn_r _ [6, 7, 8, 9, 10, 11, 5, 12, 13, 14, 15, 16, 17, 18, 19, 30, 31, 32, 33, 34, 35, 36, 37, 38, 39, 40, 41, 42, 43, 44, 45, 46, 47, 48, 49, 50, 51, 52, 53, 54, 55] (by decide +kernel) (by decide +kernel)) (goodIn_sub (fun _ h => List.mem_cons_of_mem _ (List.mem_append_left _ (List.mem_append_left _ (List.mem_append_right _ h)))) (by decide +kernel))) (goodIn_sub (fun _ h => List.mem_cons_of_mem _ (List.mem_append_left _ (List.mem_append_right _ h))) (by decide +kernel))
set_option maxRecDepth 20000 in
theorem gX5_waiting_X5_checkBeater : GoodIn wsX5_waiting (wsV RX5 108 RX5 yX5_checkBeater wsX5_checkBeater) := goodIn_app (goodIn_of _ (by decide +kernel)) ggX5_waiting_X5_checkBeater
set_option maxRecDepth 20000 in
theorem ggX5_waiting_X2_underWayTo : GoodIn wsX5_waiting wsX2_underWayTo := goodIn_ca (goodIn_r _ [23, 24, 25, 26, 27, 21, 28, 29, 56, 57, 58] (by decide +kernel) (by decide +kernel)) (goodIn_sub (fun _ h => List.mem_cons_of_mem _ (List.mem_append_right _ h)) (by decide +kernel))
set_option maxRecDepth 20000 in
theorem gX5_waiting_X2_underWayTo_n188 : GoodIn wsX5_waiting (wsX2_underWayTo) := ggX5_waiting_X2_underWayTo
theorem dX5_waiting_0 : decode cX5_waiting 0 = .ok (.aload_n 0, 1) := by decide +kernel
theorem dX5_waiting_1 : decode cX5_waiting 1 = .ok (.iload_n 1, 1) := by decide +kernel
theorem dX5_waiting_2 : decode cX5_waiting 2 = .ok (.invokevirtual 108, 3) := by decide +kernel
theorem dX5_waiting_5 : decode cX5_waiting 5 = .ok (.aload_n 0, 1) := by decide +kernel
theorem dX5_waiting_6 : decode cX5_waiting 6 = .ok (.getfield 19, 3) := by decide +kernel
theorem dX5_waiting_9 : decode cX5_waiting 9 = .ok (.iload_n 1, 1) := by decide +kernel
theorem dX5_waiting_10 : decode cX5_waiting 10 = .ok (.invokevirtual 188, 3) := by decide +kernel
theorem dX5_waiting_13 : decode cX5_waiting 13 = .ok (.ireturn, 1) := by decide +kernel
set_option maxRecDepth 20000 in
theorem ggX5_strip_X5_checkBeater : GoodIn wsX5_strip wsX5_checkBeater := goodIn_ca (goodIn_ca (goodIn_r _ [8, 9, 10, 3, 11, 12, 7, 13, 14, 15, 16, 17, 18, 19, 20, 60, 61, 62, 63, 64, 65, 66, 67, 68, 69, 70, 71, 72, 73, 74, 75, 76, 77, 78, 79, 80, 81, 82, 83, 84, 85] (by decide +kernel) (by decide +kernel)) (goodIn_sub (fun _ h => List.mem_cons_of_mem _ (List.mem_append_left _ (List.mem_append_left _ (List.mem_append_left _ (List.mem_append_left _ (List.mem_append_right _ h)))))) (by decide +kernel))) (goodIn_sub (fun _ h => List.mem_cons_of_mem _ (List.mem_append_left _ (List.mem_append_left _ (List.mem_append_left _ (List.mem_append_right _ h))))) (by decide +kernel))
set_option maxRecDepth 20000 in
theorem gX5_strip_X5_checkBeater : GoodIn wsX5_strip (wsV RX5 108 RX5 yX5_checkBeater wsX5_checkBeater) := goodIn_app (goodIn_of _ (by decide +kernel)) ggX5_strip_X5_checkBeater
set_option maxRecDepth 20000 in
theorem ggX5_strip_X5_checkNoNoise : GoodIn wsX5_strip wsX5_checkNoNoise := goodIn_ca (goodIn_r _ [24, 25, 26, 27, 60, 61, 62, 63, 64, 65, 66, 67, 68, 69, 70, 71, 72, 73, 74] (by decide +kernel) (by decide +kernel)) (goodIn_sub (fun _ h => List.mem_cons_of_mem _ (List.mem_append_left _ (List.mem_append_left _ (List.mem_append_right _ h)))) (by decide +kernel))
set_option maxRecDepth 20000 in
theorem gX5_strip_X5_checkNoNoise : GoodIn wsX5_strip (wsV RX5 191 RX5 yX5_checkNoNoise wsX5_checkNoNoise) := goodIn_app (goodIn_of _ (by decide +kernel)) ggX5_strip_X5_checkNoNoise
set_option maxRecDepth 20000 in
theorem ggX5_strip_X2_copy : GoodIn wsX5_strip wsX2_copy := goodIn_r _ [31, 32, 33, 34, 35, 36, 37, 38, 86, 87, 88] (by decide +kernel) (by decide +kernel)
set_option maxRecDepth 20000 in
theorem gX5_strip_X2_copy_n194 : GoodIn wsX5_strip (wsX2_copy) := ggX5_strip_X2_copy
set_option maxRecDepth 20000 in
theorem ggX5_strip_X2_advance : GoodIn wsX5_strip wsX2_advance := goodIn_ca (goodIn_ca (goodIn_r _ [41, 38, 32, 37, 42, 43, 44, 29, 45, 46, 17, 47, 48, 49, 50, 51, 52, 53, 54, 55, 56, 57, 58, 59, 86, 87, 88, 75, 76, 77, 78, 79, 80, 81, 82, 83, 84, 85] (by decide +kernel) (by decide +kernel)) (goodIn_sub (fun _ h => List.mem_cons_of_mem _ (List.mem_append_left _ (List.mem_append_right _ h))) (by decide +kernel))) (goodIn_sub (fun _ h => List.mem_cons_of_mem _ (List.mem_append_right _ h)) (by decide +kernel))
set_option maxRecDepth 20000 in
theorem gX5_strip_X2_advance_n180 : GoodIn wsX5_strip (wsX2_advance) := ggX5_strip_X2_advance
theorem dX5_strip_0 : decode cX5_strip 0 = .ok (.aload_n 0, 1) := by decide +kernel
theorem dX5_strip_1 : decode cX5_strip 1 = .ok (.iload_n 1, 1) := by decide +kernel
theorem dX5_strip_2 : decode cX5_strip 2 = .ok (.invokevirtual 108, 3) := by decide +kernel
theorem dX5_strip_5 : decode cX5_strip 5 = .ok (.aload_n 0, 1) := by decide +kernel
theorem dX5_strip_6 : decode cX5_strip 6 = .ok (.invokevirtual 191, 3) := by decide +kernel
theorem dX5_strip_9 : decode cX5_strip 9 = .ok (.aload_n 0, 1) := by decide +kernel
theorem dX5_strip_10 : decode cX5_strip 10 = .ok (.getfield 57, 3) := by decide +kernel
theorem dX5_strip_13 : decode cX5_strip 13 = .ok (.aload_n 0, 1) := by decide +kernel
theorem dX5_strip_14 : decode cX5_strip 14 = .ok (.getfield 19, 3) := by decide +kernel
theorem dX5_strip_17 : decode cX5_strip 17 = .ok (.invokevirtual 194, 3) := by decide +kernel
theorem dX5_strip_20 : decode cX5_strip 20 = .ok (.iconst 0, 1) := by decide +kernel
theorem dX5_strip_21 : decode cX5_strip 21 = .ok (.istore_n 2, 1) := by decide +kernel
theorem dX5_strip_22 : decode cX5_strip 22 = .ok (.iconst 0, 1) := by decide +kernel
theorem dX5_strip_23 : decode cX5_strip 23 = .ok (.istore_n 3, 1) := by decide +kernel
theorem dX5_strip_24 : decode cX5_strip 24 = .ok (.iload_n 3, 1) := by decide +kernel
theorem dX5_strip_25 : decode cX5_strip 25 = .ok (.bipush 30, 2) := by decide +kernel
theorem dX5_strip_27 : decode cX5_strip 27 = .ok (.if_icmp .ge 34, 3) := by decide +kernel
theorem dX5_strip_30 : decode cX5_strip 30 = .ok (.aload_n 0, 1) := by decide +kernel
theorem dX5_strip_31 : decode cX5_strip 31 = .ok (.getfield 57, 3) := by decide +kernel
theorem dX5_strip_34 : decode cX5_strip 34 = .ok (.aload_n 0, 1) := by decide +kernel
theorem dX5_strip_35 : decode cX5_strip 35 = .ok (.getfield 12, 3) := by decide +kernel
theorem dX5_strip_38 : decode cX5_strip 38 = .ok (.iconst 0, 1) := by decide +kernel
theorem dX5_strip_39 : decode cX5_strip 39 = .ok (.invokevirtual 180, 3) := by decide +kernel
theorem dX5_strip_42 : decode cX5_strip 42 = .ok (.istore 4, 2) := by decide +kernel
theorem dX5_strip_44 : decode cX5_strip 44 = .ok (.iload_n 2, 1) := by decide +kernel
theorem dX5_strip_45 : decode cX5_strip 45 = .ok (.iload 4, 2) := by decide +kernel
theorem dX5_strip_47 : decode cX5_strip 47 = .ok (.iload_n 1, 1) := by decide +kernel
theorem dX5_strip_48 : decode cX5_strip 48 = .ok (.ishr, 1) := by decide +kernel
theorem dX5_strip_49 : decode cX5_strip 49 = .ok (.iconst 1, 1) := by decide +kernel
theorem dX5_strip_50 : decode cX5_strip 50 = .ok (.iand, 1) := by decide +kernel
theorem dX5_strip_51 : decode cX5_strip 51 = .ok (.iload_n 3, 1) := by decide +kernel
theorem dX5_strip_52 : decode cX5_strip 52 = .ok (.ishl, 1) := by decide +kernel
theorem dX5_strip_53 : decode cX5_strip 53 = .ok (.ior, 1) := by decide +kernel
theorem dX5_strip_54 : decode cX5_strip 54 = .ok (.istore_n 2, 1) := by decide +kernel
theorem dX5_strip_55 : decode cX5_strip 55 = .ok (.iinc 3 1, 3) := by decide +kernel
theorem dX5_strip_58 : decode cX5_strip 58 = .ok (.goto (-34), 3) := by decide +kernel
theorem dX5_strip_61 : decode cX5_strip 61 = .ok (.iload_n 2, 1) := by decide +kernel
theorem dX5_strip_62 : decode cX5_strip 62 = .ok (.ireturn, 1) := by decide +kernel
set_option maxRecDepth 20000 in
theorem ggX5_cycle_X5_wayAhead : GoodIn wsX5_cycle wsX5_wayAhead := goodIn_ca (goodIn_ca (goodIn_ca (goodIn_ca (goodIn_r _ [5, 6, 7, 8, 9, 10, 11, 12, 13, 14, 15, 4, 16, 17, 18, 19, 20, 21, 22, 23, 24, 25, 26, 27, 28, 29, 30, 31, 32, 33, 34, 35, 36, 37, 38, 39, 40, 41, 42, 43, 44, 45, 46, 47, 48, 49, 50, 51, 52, 53, 54, 55, 56, 57, 58, 59, 60, 61, 62, 63, 64, 65, 66, 67, 68, 75, 76, 77, 78, 79, 80, 81, 82, 83, 84, 85, 86, 87, 88, 89, 69, 70, 71, 72, 73, 74, 90, 91, 92, 93, 94, 95, 96, 97, 98, 99, 100, 101, 102, 103] (by decide +kernel) (by decide +kernel)) (goodIn_sub (fun _ h => List.mem_cons_of_mem _ (List.mem_append_left _ (List.mem_append_left _ (List.mem_append_left _ (List.mem_append_right _ h))))) (by decide +kernel))) (goodIn_sub (fun _ h => List.mem_cons_of_mem _ (List.mem_append_left _ (List.mem_append_left _ (List.mem_append_right _ h)))) (by decide +kernel))) (goodIn_sub (fun _ h => List.mem_cons_of_mem _ (List.mem_append_left _ (List.mem_append_right _ h))) (by decide +kernel))) (goodIn_sub (fun _ h => List.mem_cons_of_mem _ (List.mem_append_right _ h)) (by decide +kernel))
set_option maxRecDepth 20000 in
theorem gX5_cycle_X5_wayAhead : GoodIn wsX5_cycle (wsV RX5 198 RX5 yX5_wayAhead wsX5_wayAhead) := goodIn_app (goodIn_of _ (by decide +kernel)) ggX5_cycle_X5_wayAhead
theorem dX5_cycle_0 : decode cX5_cycle 0 = .ok (.aload_n 0, 1) := by decide +kernel
theorem dX5_cycle_1 : decode cX5_cycle 1 = .ok (.invokevirtual 198, 3) := by decide +kernel
theorem dX5_cycle_4 : decode cX5_cycle 4 = .ok (.getfield 202, 3) := by decide +kernel
theorem dX5_cycle_7 : decode cX5_cycle 7 = .ok (.ireturn, 1) := by decide +kernel
set_option maxRecDepth 20000 in
theorem ggX5_lead_X5_wayAhead : GoodIn wsX5_lead wsX5_wayAhead := goodIn_ca (goodIn_ca (goodIn_ca (goodIn_ca (goodIn_r _ [5, 6, 7, 8, 9, 10, 11, 12, 13, 14, 15, 4, 16, 17, 18, 19, 20, 21, 22, 23, 24, 25, 26, 27, 28, 29, 30, 31, 32, 33, 34, 35, 36, 37, 38, 39, 40, 41, 42, 43, 44, 45, 46, 47, 48, 49, 50, 51, 52, 53, 54, 55, 56, 57, 58, 59, 60, 61, 62, 63, 64, 65, 66, 67, 68, 75, 76, 77, 78, 79, 80, 81, 82, 83, 84, 85, 86, 87, 88, 89, 69, 70, 71, 72, 73, 74, 90, 91, 92, 93, 94, 95, 96, 97, 98, 99, 100, 101, 102, 103] (by decide +kernel) (by decide +kernel)) (goodIn_sub (fun _ h => List.mem_cons_of_mem _ (List.mem_append_left _ (List.mem_append_left _ (List.mem_append_left _ (List.mem_append_right _ h))))) (by decide +kernel))) (goodIn_sub (fun _ h => List.mem_cons_of_mem _ (List.mem_append_left _ (List.mem_append_left _ (List.mem_append_right _ h)))) (by decide +kernel))) (goodIn_sub (fun _ h => List.mem_cons_of_mem _ (List.mem_append_left _ (List.mem_append_right _ h))) (by decide +kernel))) (goodIn_sub (fun _ h => List.mem_cons_of_mem _ (List.mem_append_right _ h)) (by decide +kernel))
set_option maxRecDepth 20000 in
theorem gX5_lead_X5_wayAhead : GoodIn wsX5_lead (wsV RX5 198 RX5 yX5_wayAhead wsX5_wayAhead) := goodIn_app (goodIn_of _ (by decide +kernel)) ggX5_lead_X5_wayAhead
theorem dX5_lead_0 : decode cX5_lead 0 = .ok (.aload_n 0, 1) := by decide +kernel
theorem dX5_lead_1 : decode cX5_lead 1 = .ok (.invokevirtual 198, 3) := by decide +kernel
theorem dX5_lead_4 : decode cX5_lead 4 = .ok (.getfield 205, 3) := by decide +kernel
theorem dX5_lead_7 : decode cX5_lead 7 = .ok (.ireturn, 1) := by decide +kernel
set_option maxRecDepth 20000 in
theorem ggX5_beats_X5_checkBeater : GoodIn wsX5_beats wsX5_checkBeater := goodIn_ca (goodIn_ca (goodIn_r _ [5, 6, 7, 8, 9, 10, 4, 11, 12, 13, 14, 15, 16, 17, 18, 91, 92, 93, 94, 95, 96, 97, 98, 99, 100, 101, 102, 103, 104, 105, 106, 107, 108, 109, 110, 111, 112, 113, 114, 115, 116] (by decide +kernel) (by decide +kernel)) (goodIn_sub (fun _ h => List.mem_cons_of_mem _ (List.mem_append_left _ (List.mem_append_left _ (List.mem_append_left _ (List.mem_append_left _ (List.mem_append_left _ (List.mem_append_right _ h))))))) (by decide +kernel))) (goodIn_sub (fun _ h => List.mem_cons_of_mem _ (List.mem_append_left _ (List.mem_append_left _ (List.mem_append_left _ (List.mem_append_left _ (List.mem_append_right _ h)))))) (by decide +kernel))
set_option maxRecDepth 20000 in
theorem gX5_beats_X5_checkBeater : GoodIn wsX5_beats (wsV RX5 108 RX5 yX5_checkBeater wsX5_checkBeater) := goodIn_app (goodIn_of _ (by decide +kernel)) ggX5_beats_X5_checkBeater
set_option maxRecDepth 20000 in
theorem ggX5_beats_X5_wayAhead : GoodIn wsX5_beats wsX5_wayAhead := goodIn_ca (goodIn_ca (goodIn_ca (goodIn_ca (goodIn_r _ [22, 23, 24, 25, 26, 8, 27, 28, 29, 30, 31, 4, 32, 33, 34, 35, 36, 37, 38, 39, 40, 41, 42, 43, 44, 45, 46, 47, 48, 49, 50, 51, 52, 53, 54, 55, 56, 57, 58, 59, 60, 61, 62, 15, 63, 64, 65, 66, 67, 68, 69, 70, 71, 72, 73, 74, 75, 76, 77, 78, 79, 80, 81, 82, 83, 91, 92, 93, 94, 95, 96, 97, 98, 99, 100, 101, 102, 103, 104, 105, 117, 118, 119, 120, 121, 122, 123, 124, 125, 106, 107, 108, 109, 110, 111, 112, 113, 114, 115, 116] (by decide +kernel) (by decide +kernel)) (goodIn_sub (fun _ h => List.mem_cons_of_mem _ (List.mem_append_left _ (List.mem_append_left _ (List.mem_append_left _ (List.mem_append_right _ h))))) (by decide +kernel))) (goodIn_sub (fun _ h => List.mem_cons_of_mem _ (List.mem_append_left _ (List.mem_append_left _ (List.mem_append_right _ h)))) (by decide +kernel))) (goodIn_sub (fun _ h => List.mem_cons_of_mem _ (List.mem_append_left _ (List.mem_append_right _ h))) (by decide +kernel))) (goodIn_sub (fun _ h => List.mem_cons_of_mem _ (List.mem_append_right _ h)) (by decide +kernel))
set_option maxRecDepth 20000 in
theorem gX5_beats_X5_wayAhead : GoodIn wsX5_beats (wsV RX5 198 RX5 yX5_wayAhead wsX5_wayAhead) := goodIn_app (goodIn_of _ (by decide +kernel)) ggX5_beats_X5_wayAhead
set_option maxRecDepth 20000 in
theorem ggX5_beats_X4_countFlashes : GoodIn wsX5_beats wsX4_countFlashes := goodIn_ca (goodIn_r _ [86, 43, 87, 88, 89, 37, 90, 83, 42, 117, 118, 119, 120, 121, 122] (by decide +kernel) (by decide +kernel)) (goodIn_sub (fun _ h => List.mem_cons_of_mem _ (List.mem_append_left _ (List.mem_append_right _ h))) (by decide +kernel))
set_option maxRecDepth 20000 in
theorem gX5_beats_X4_countFlashes_n208 : GoodIn wsX5_beats (wsX4_countFlashes) := ggX5_beats_X4_countFlashes
theorem dX5_beats_0 : decode cX5_beats 0 = .ok (.aload_n 0, 1) := by decide +kernel
theorem dX5_beats_1 : decode cX5_beats 1 = .ok (.iload_n 1, 1) := by decide +kernel
theorem dX5_beats_2 : decode cX5_beats 2 = .ok (.invokevirtual 108, 3) := by decide +kernel
theorem dX5_beats_5 : decode cX5_beats 5 = .ok (.aload_n 0, 1) := by decide +kernel
theorem dX5_beats_6 : decode cX5_beats 6 = .ok (.invokevirtual 198, 3) := by decide +kernel
theorem dX5_beats_9 : decode cX5_beats 9 = .ok (.iload_n 1, 1) := by decide +kernel
theorem dX5_beats_10 : decode cX5_beats 10 = .ok (.invokevirtual 208, 3) := by decide +kernel
theorem dX5_beats_13 : decode cX5_beats 13 = .ok (.ireturn, 1) := by decide +kernel
set_option maxRecDepth 20000 in
theorem ggX5_inStep_X5_checkPlace : GoodIn wsX5_inStep wsX5_checkPlace := goodIn_ca (goodIn_r _ [4, 5, 6] (by decide +kernel) (by decide +kernel)) (goodIn_sub (fun _ h => List.mem_cons_of_mem _ (List.mem_append_left _ (List.mem_append_left _ (List.mem_append_left _ (List.mem_append_left _ (List.mem_append_left _ (List.mem_append_right _ h))))))) (by decide +kernel))
set_option maxRecDepth 20000 in
theorem gX5_inStep_X5_checkPlace : GoodIn wsX5_inStep (va_wsS RX5 77 yX5_checkPlace wsX5_checkPlace) := goodIn_app (goodIn_of _ (by decide +kernel)) ggX5_inStep_X5_checkPlace
set_option maxRecDepth 20000 in
theorem ggX5_inStep_X5_checkBeater : GoodIn wsX5_inStep wsX5_checkBeater := goodIn_ca (goodIn_ca (goodIn_r _ [10, 11, 12, 13, 1, 2, 3, 4, 5, 6, 14, 15, 16, 17, 18, 91, 92, 93, 94, 95, 96, 97, 98, 99, 100, 101, 102, 103, 104, 105, 106, 107, 108, 109, 110, 111, 112, 113, 114, 115, 116] (by decide +kernel) (by decide +kernel)) (goodIn_sub (fun _ h => List.mem_cons_of_mem _ (List.mem_append_left _ (List.mem_append_left _ (List.mem_append_left _ (List.mem_append_left _ (List.mem_append_right _ h)))))) (by decide +kernel))) (goodIn_sub (fun _ h => List.mem_cons_of_mem _ (List.mem_append_left _ (List.mem_append_left _ (List.mem_append_left _ (List.mem_append_left _ (List.mem_append_left _ (List.mem_append_right _ h))))))) (by decide +kernel))
set_option maxRecDepth 20000 in
theorem gX5_inStep_X5_checkBeater : GoodIn wsX5_inStep (wsV RX5 108 RX5 yX5_checkBeater wsX5_checkBeater) := goodIn_app (goodIn_of _ (by decide +kernel)) ggX5_inStep_X5_checkBeater
set_option maxRecDepth 20000 in
theorem ggX5_inStep_X5_wayAhead : GoodIn wsX5_inStep wsX5_wayAhead := goodIn_ca (goodIn_ca (goodIn_ca (goodIn_ca (goodIn_r _ [22, 23, 24, 25, 26, 13, 27, 28, 29, 30, 31, 3, 32, 33, 34, 35, 36, 37, 38, 39, 40, 41, 42, 43, 44, 45, 46, 47, 48, 49, 50, 51, 52, 53, 54, 55, 56, 57, 58, 59, 60, 61, 62, 15, 63, 64, 65, 66, 67, 68, 69, 70, 71, 72, 73, 74, 75, 76, 77, 78, 79, 80, 81, 82, 83, 91, 92, 93, 94, 95, 96, 97, 98, 99, 100, 101, 102, 103, 104, 105, 117, 118, 119, 120, 121, 122, 123, 124, 125, 106, 107, 108, 109, 110, 111, 112, 113, 114, 115, 116] (by decide +kernel) (by decide +kernel)) (goodIn_sub (fun _ h => List.mem_cons_of_mem _ (List.mem_append_left _ (List.mem_append_left _ (List.mem_append_left _ (List.mem_append_right _ h))))) (by decide +kernel))) (goodIn_sub (fun _ h => List.mem_cons_of_mem _ (List.mem_append_left _ (List.mem_append_left _ (List.mem_append_right _ h)))) (by decide +kernel))) (goodIn_sub (fun _ h => List.mem_cons_of_mem _ (List.mem_append_left _ (List.mem_append_right _ h))) (by decide +kernel))) (goodIn_sub (fun _ h => List.mem_cons_of_mem _ (List.mem_append_right _ h)) (by decide +kernel))
set_option maxRecDepth 20000 in
theorem gX5_inStep_X5_wayAhead : GoodIn wsX5_inStep (wsV RX5 198 RX5 yX5_wayAhead wsX5_wayAhead) := goodIn_app (goodIn_of _ (by decide +kernel)) ggX5_inStep_X5_wayAhead
set_option maxRecDepth 20000 in
theorem ggX5_inStep_X4_keepsStep : GoodIn wsX5_inStep wsX4_keepsStep := goodIn_ca (goodIn_r _ [86, 43, 87, 88, 89, 37, 90, 83, 42, 117, 118, 119, 120, 121, 122] (by decide +kernel) (by decide +kernel)) (goodIn_sub (fun _ h => List.mem_cons_of_mem _ (List.mem_append_left _ (List.mem_append_right _ h))) (by decide +kernel))
set_option maxRecDepth 20000 in
theorem gX5_inStep_X4_keepsStep_n211 : GoodIn wsX5_inStep (wsX4_keepsStep) := ggX5_inStep_X4_keepsStep
theorem dX5_inStep_0 : decode cX5_inStep 0 = .ok (.iload_n 1, 1) := by decide +kernel
theorem dX5_inStep_1 : decode cX5_inStep 1 = .ok (.invokestatic 77, 3) := by decide +kernel
theorem dX5_inStep_4 : decode cX5_inStep 4 = .ok (.iload_n 2, 1) := by decide +kernel
theorem dX5_inStep_5 : decode cX5_inStep 5 = .ok (.invokestatic 77, 3) := by decide +kernel
theorem dX5_inStep_8 : decode cX5_inStep 8 = .ok (.aload_n 0, 1) := by decide +kernel
theorem dX5_inStep_9 : decode cX5_inStep 9 = .ok (.iload_n 1, 1) := by decide +kernel
theorem dX5_inStep_10 : decode cX5_inStep 10 = .ok (.invokevirtual 108, 3) := by decide +kernel
theorem dX5_inStep_13 : decode cX5_inStep 13 = .ok (.aload_n 0, 1) := by decide +kernel
theorem dX5_inStep_14 : decode cX5_inStep 14 = .ok (.iload_n 2, 1) := by decide +kernel
theorem dX5_inStep_15 : decode cX5_inStep 15 = .ok (.invokevirtual 108, 3) := by decide +kernel
theorem dX5_inStep_18 : decode cX5_inStep 18 = .ok (.aload_n 0, 1) := by decide +kernel
theorem dX5_inStep_19 : decode cX5_inStep 19 = .ok (.invokevirtual 198, 3) := by decide +kernel
theorem dX5_inStep_22 : decode cX5_inStep 22 = .ok (.iload_n 1, 1) := by decide +kernel
theorem dX5_inStep_23 : decode cX5_inStep 23 = .ok (.iload_n 2, 1) := by decide +kernel
theorem dX5_inStep_24 : decode cX5_inStep 24 = .ok (.invokevirtual 211, 3) := by decide +kernel
theorem dX5_inStep_27 : decode cX5_inStep 27 = .ok (.ireturn, 1) := by decide +kernel
set_option maxRecDepth 20000 in
theorem ggX5_groups_X5_wayAhead : GoodIn wsX5_groups wsX5_wayAhead := goodIn_ca (goodIn_ca (goodIn_ca (goodIn_ca (goodIn_r _ [6, 7, 8, 9, 10, 1, 11, 12, 13, 14, 15, 5, 16, 17, 18, 19, 20, 21, 22, 23, 24, 25, 26, 27, 28, 29, 30, 31, 32, 33, 34, 35, 36, 37, 38, 39, 40, 41, 42, 43, 44, 45, 46, 47, 48, 49, 50, 51, 52, 53, 54, 55, 56, 57, 58, 59, 60, 61, 62, 63, 64, 65, 66, 67, 68, 85, 86, 87, 88, 89, 90, 91, 92, 93, 94, 95, 96, 97, 98, 99, 100, 101, 102, 103, 104, 105, 106, 107, 108, 109, 110, 111, 112, 113, 114, 115, 116, 117, 118, 119] (by decide +kernel) (by decide +kernel)) (goodIn_sub (fun _ h => List.mem_cons_of_mem _ (List.mem_append_left _ (List.mem_append_left _ (List.mem_append_left _ (List.mem_append_right _ h))))) (by decide +kernel))) (goodIn_sub (fun _ h => List.mem_cons_of_mem _ (List.mem_append_left _ (List.mem_append_left _ (List.mem_append_right _ h)))) (by decide +kernel))) (goodIn_sub (fun _ h => List.mem_cons_of_mem _ (List.mem_append_left _ (List.mem_append_right _ h))) (by decide +kernel))) (goodIn_sub (fun _ h => List.mem_cons_of_mem _ (List.mem_append_right _ h)) (by decide +kernel))
set_option maxRecDepth 20000 in
theorem gX5_groups_X5_wayAhead : GoodIn wsX5_groups (wsV RX5 198 RX5 yX5_wayAhead wsX5_wayAhead) := goodIn_app (goodIn_of _ (by decide +kernel)) ggX5_groups_X5_wayAhead
set_option maxRecDepth 20000 in
theorem ggX5_groups_X4_gather : GoodIn wsX5_groups wsX4_gather := goodIn_ca (goodIn_r _ [71, 72, 73, 74, 75, 21, 76, 77, 78, 79, 80, 27, 81, 82, 83, 84, 68, 26, 109, 110, 111, 112, 113, 114, 115, 116, 117, 118, 119, 100, 101, 102, 103, 104, 105] (by decide +kernel) (by decide +kernel)) (goodIn_sub (fun _ h => List.mem_cons_of_mem _ (List.mem_append_left _ (List.mem_append_right _ h))) (by decide +kernel))
set_option maxRecDepth 20000 in
theorem gX5_groups_X4_gather_n215 : GoodIn wsX5_groups (wsX4_gather) := ggX5_groups_X4_gather
theorem dX5_groups_0 : decode cX5_groups 0 = .ok (.aload_n 0, 1) := by decide +kernel
theorem dX5_groups_1 : decode cX5_groups 1 = .ok (.invokevirtual 198, 3) := by decide +kernel
theorem dX5_groups_4 : decode cX5_groups 4 = .ok (.aload_n 0, 1) := by decide +kernel
theorem dX5_groups_5 : decode cX5_groups 5 = .ok (.getfield 12, 3) := by decide +kernel
theorem dX5_groups_8 : decode cX5_groups 8 = .ok (.invokevirtual 215, 3) := by decide +kernel
theorem dX5_groups_11 : decode cX5_groups 11 = .ok (.ireturn, 1) := by decide +kernel
set_option maxRecDepth 20000 in
theorem ggX5_groupOf_X5_checkBeater : GoodIn wsX5_groupOf wsX5_checkBeater := goodIn_ca (goodIn_ca (goodIn_r _ [6, 7, 8, 1, 9, 10, 5, 11, 12, 13, 14, 15, 16, 17, 18, 100, 101, 102, 103, 104, 105, 106, 107, 108, 109, 110, 111, 112, 113, 114, 121, 122, 123, 124, 125, 126, 127, 128, 129, 130, 131] (by decide +kernel) (by decide +kernel)) (goodIn_sub (fun _ h => List.mem_cons_of_mem _ (List.mem_append_left _ (List.mem_append_left _ (List.mem_append_left _ (List.mem_append_left _ (List.mem_append_right _ h)))))) (by decide +kernel))) (goodIn_sub (fun _ h => List.mem_cons_of_mem _ (List.mem_append_left _ (List.mem_append_left _ (List.mem_append_left _ (List.mem_append_right _ h))))) (by decide +kernel))
set_option maxRecDepth 20000 in
theorem gX5_groupOf_X5_checkBeater : GoodIn wsX5_groupOf (wsV RX5 108 RX5 yX5_checkBeater wsX5_checkBeater) := goodIn_app (goodIn_of _ (by decide +kernel)) ggX5_groupOf_X5_checkBeater
set_option maxRecDepth 20000 in
theorem ggX5_groupOf_X5_wayAhead : GoodIn wsX5_groupOf wsX5_wayAhead := goodIn_ca (goodIn_ca (goodIn_ca (goodIn_ca (goodIn_r _ [22, 23, 24, 25, 26, 1, 27, 28, 29, 30, 31, 5, 32, 33, 34, 35, 36, 37, 38, 39, 40, 41, 42, 43, 44, 45, 46, 47, 48, 49, 50, 51, 52, 53, 54, 55, 56, 57, 58, 59, 60, 61, 62, 15, 63, 64, 65, 66, 67, 68, 69, 70, 71, 72, 73, 74, 75, 76, 77, 78, 79, 80, 81, 82, 83, 100, 101, 102, 103, 104, 105, 106, 107, 108, 109, 110, 111, 112, 113, 114, 115, 116, 117, 118, 119, 120, 132, 133, 134, 121, 122, 123, 124, 125, 126, 127, 128, 129, 130, 131] (by decide +kernel) (by decide +kernel)) (goodIn_sub (fun _ h => List.mem_cons_of_mem _ (List.mem_append_left _ (List.mem_append_left _ (List.mem_append_right _ h)))) (by decide +kernel))) (goodIn_sub (fun _ h => List.mem_cons_of_mem _ (List.mem_append_left _ (List.mem_append_right _ h))) (by decide +kernel))) (goodIn_sub (fun _ h => List.mem_cons_of_mem _ (List.mem_append_left _ (List.mem_append_left _ (List.mem_append_left _ (List.mem_append_left _ (List.mem_append_left _ (List.mem_append_right _ h))))))) (by decide +kernel))) (goodIn_sub (fun _ h => List.mem_cons_of_mem _ (List.mem_append_right _ h)) (by decide +kernel))
set_option maxRecDepth 20000 in
theorem gX5_groupOf_X5_wayAhead : GoodIn wsX5_groupOf (wsV RX5 198 RX5 yX5_wayAhead wsX5_wayAhead) := goodIn_app (goodIn_of _ (by decide +kernel)) ggX5_groupOf_X5_wayAhead
set_option maxRecDepth 20000 in
theorem ggX5_groupOf_X4_gather : GoodIn wsX5_groupOf wsX4_gather := goodIn_ca (goodIn_r _ [86, 87, 88, 89, 90, 37, 91, 92, 93, 94, 95, 43, 96, 97, 98, 99, 83, 42, 121, 122, 123, 124, 125, 126, 127, 128, 129, 130, 131, 115, 116, 117, 118, 119, 120] (by decide +kernel) (by decide +kernel)) (goodIn_sub (fun _ h => List.mem_cons_of_mem _ (List.mem_append_left _ (List.mem_append_left _ (List.mem_append_left _ (List.mem_append_left _ (List.mem_append_left _ (List.mem_append_right _ h))))))) (by decide +kernel))
set_option maxRecDepth 20000 in
theorem gX5_groupOf_X4_gather_n215 : GoodIn wsX5_groupOf (wsX4_gather) := ggX5_groupOf_X4_gather
theorem dX5_groupOf_0 : decode cX5_groupOf 0 = .ok (.aload_n 0, 1) := by decide +kernel
theorem dX5_groupOf_1 : decode cX5_groupOf 1 = .ok (.iload_n 1, 1) := by decide +kernel
theorem dX5_groupOf_2 : decode cX5_groupOf 2 = .ok (.invokevirtual 108, 3) := by decide +kernel
theorem dX5_groupOf_5 : decode cX5_groupOf 5 = .ok (.aload_n 0, 1) := by decide +kernel
theorem dX5_groupOf_6 : decode cX5_groupOf 6 = .ok (.invokevirtual 198, 3) := by decide +kernel
theorem dX5_groupOf_9 : decode cX5_groupOf 9 = .ok (.astore_n 2, 1) := by decide +kernel
theorem dX5_groupOf_10 : decode cX5_groupOf 10 = .ok (.aload_n 2, 1) := by decide +kernel
theorem dX5_groupOf_11 : decode cX5_groupOf 11 = .ok (.aload_n 0, 1) := by decide +kernel
theorem dX5_groupOf_12 : decode cX5_groupOf 12 = .ok (.getfield 12, 3) := by decide +kernel
theorem dX5_groupOf_15 : decode cX5_groupOf 15 = .ok (.invokevirtual 215, 3) := by decide +kernel
theorem dX5_groupOf_18 : decode cX5_groupOf 18 = .ok (.pop, 1) := by decide +kernel
theorem dX5_groupOf_19 : decode cX5_groupOf 19 = .ok (.aload_n 2, 1) := by decide +kernel
theorem dX5_groupOf_20 : decode cX5_groupOf 20 = .ok (.getfield 219, 3) := by decide +kernel
theorem dX5_groupOf_23 : decode cX5_groupOf 23 = .ok (.iload_n 1, 1) := by decide +kernel
theorem dX5_groupOf_24 : decode cX5_groupOf 24 = .ok (.iaload, 1) := by decide +kernel
theorem dX5_groupOf_25 : decode cX5_groupOf 25 = .ok (.ireturn, 1) := by decide +kernel
set_option maxRecDepth 20000 in
theorem ggX5_islands_X5_wayAhead : GoodIn wsX5_islands wsX5_wayAhead := goodIn_ca (goodIn_ca (goodIn_ca (goodIn_ca (goodIn_r _ [6, 7, 8, 9, 10, 1, 11, 12, 13, 14, 15, 5, 16, 17, 18, 19, 20, 21, 22, 23, 24, 25, 26, 27, 28, 29, 30, 31, 32, 33, 34, 35, 36, 37, 38, 39, 40, 41, 42, 43, 44, 45, 46, 47, 48, 49, 50, 51, 52, 53, 54, 55, 56, 57, 58, 59, 60, 61, 62, 63, 64, 65, 66, 67, 68, 80, 81, 82, 83, 84, 85, 86, 87, 88, 89, 90, 91, 92, 93, 94, 106, 107, 108, 109, 110, 111, 112, 113, 114, 95, 96, 97, 98, 99, 100, 101, 102, 103, 104, 105] (by decide +kernel) (by decide +kernel)) (goodIn_sub (fun _ h => List.mem_cons_of_mem _ (List.mem_append_left _ (List.mem_append_left _ (List.mem_append_left _ (List.mem_append_right _ h))))) (by decide +kernel))) (goodIn_sub (fun _ h => List.mem_cons_of_mem _ (List.mem_append_left _ (List.mem_append_left _ (List.mem_append_right _ h)))) (by decide +kernel))) (goodIn_sub (fun _ h => List.mem_cons_of_mem _ (List.mem_append_left _ (List.mem_append_right _ h))) (by decide +kernel))) (goodIn_sub (fun _ h => List.mem_cons_of_mem _ (List.mem_append_right _ h)) (by decide +kernel))
set_option maxRecDepth 20000 in
theorem gX5_islands_X5_wayAhead : GoodIn wsX5_islands (wsV RX5 198 RX5 yX5_wayAhead wsX5_wayAhead) := goodIn_app (goodIn_of _ (by decide +kernel)) ggX5_islands_X5_wayAhead
set_option maxRecDepth 20000 in
theorem ggX5_islands_X4_countBreaks : GoodIn wsX5_islands wsX4_countBreaks := goodIn_ca (goodIn_r _ [71, 72, 73, 74, 21, 75, 27, 76, 77, 78, 79, 68, 26, 95, 96, 97, 98, 99, 100, 101, 102, 103, 104, 105, 106, 107, 108, 109, 110, 111] (by decide +kernel) (by decide +kernel)) (goodIn_sub (fun _ h => List.mem_cons_of_mem _ (List.mem_append_left _ (List.mem_append_right _ h))) (by decide +kernel))
set_option maxRecDepth 20000 in
theorem gX5_islands_X4_countBreaks_n222 : GoodIn wsX5_islands (wsX4_countBreaks) := ggX5_islands_X4_countBreaks
theorem dX5_islands_0 : decode cX5_islands 0 = .ok (.aload_n 0, 1) := by decide +kernel
theorem dX5_islands_1 : decode cX5_islands 1 = .ok (.invokevirtual 198, 3) := by decide +kernel
theorem dX5_islands_4 : decode cX5_islands 4 = .ok (.aload_n 0, 1) := by decide +kernel
theorem dX5_islands_5 : decode cX5_islands 5 = .ok (.getfield 12, 3) := by decide +kernel
theorem dX5_islands_8 : decode cX5_islands 8 = .ok (.invokevirtual 222, 3) := by decide +kernel
theorem dX5_islands_11 : decode cX5_islands 11 = .ok (.istore_n 1, 1) := by decide +kernel
theorem dX5_islands_12 : decode cX5_islands 12 = .ok (.iload_n 1, 1) := by decide +kernel
theorem dX5_islands_13 : decode cX5_islands 13 = .ok (.ifCond .ne 17, 3) := by decide +kernel
theorem dX5_islands_16 : decode cX5_islands 16 = .ok (.aload_n 0, 1) := by decide +kernel
theorem dX5_islands_17 : decode cX5_islands 17 = .ok (.getfield 12, 3) := by decide +kernel
theorem dX5_islands_20 : decode cX5_islands 20 = .ok (.getfield 157, 3) := by decide +kernel
theorem dX5_islands_23 : decode cX5_islands 23 = .ok (.ifCond .le 7, 3) := by decide +kernel
theorem dX5_islands_26 : decode cX5_islands 26 = .ok (.iconst 1, 1) := by decide +kernel
theorem dX5_islands_27 : decode cX5_islands 27 = .ok (.goto 4, 3) := by decide +kernel
theorem dX5_islands_30 : decode cX5_islands 30 = .ok (.iload_n 1, 1) := by decide +kernel
theorem dX5_islands_31 : decode cX5_islands 31 = .ok (.ireturn, 1) := by decide +kernel
set_option maxRecDepth 20000 in
theorem ggX5_order_X5_wayAhead : GoodIn wsX5_order wsX5_wayAhead := goodIn_ca (goodIn_ca (goodIn_ca (goodIn_ca (goodIn_r _ [8, 9, 10, 11, 12, 3, 13, 14, 15, 16, 17, 7, 18, 19, 20, 21, 22, 23, 24, 25, 26, 27, 28, 29, 30, 31, 32, 33, 34, 35, 36, 37, 38, 39, 40, 41, 42, 43, 44, 45, 46, 47, 48, 49, 50, 51, 52, 53, 54, 55, 56, 57, 58, 59, 60, 61, 62, 63, 64, 65, 66, 67, 68, 69, 70, 78, 79, 80, 81, 82, 83, 84, 85, 86, 87, 88, 89, 90, 91, 92, 93, 94, 95, 96, 97, 98, 99, 100, 101, 102, 103, 104, 105, 106, 107, 108, 109, 110, 111, 112] (by decide +kernel) (by decide +kernel)) (goodIn_sub (fun _ h => List.mem_cons_of_mem _ (List.mem_append_left _ (List.mem_append_left _ (List.mem_append_left _ (List.mem_append_right _ h))))) (by decide +kernel))) (goodIn_sub (fun _ h => List.mem_cons_of_mem _ (List.mem_append_left _ (List.mem_append_left _ (List.mem_append_right _ h)))) (by decide +kernel))) (goodIn_sub (fun _ h => List.mem_cons_of_mem _ (List.mem_append_left _ (List.mem_append_right _ h))) (by decide +kernel))) (goodIn_sub (fun _ h => List.mem_cons_of_mem _ (List.mem_append_right _ h)) (by decide +kernel))
set_option maxRecDepth 20000 in
theorem gX5_order_X5_wayAhead : GoodIn wsX5_order (wsV RX5 198 RX5 yX5_wayAhead wsX5_wayAhead) := goodIn_app (goodIn_of _ (by decide +kernel)) ggX5_order_X5_wayAhead
set_option maxRecDepth 20000 in
theorem ggX5_order_X4_flasherAt : GoodIn wsX5_order wsX4_flasherAt := goodIn_ca (goodIn_r _ [73, 29, 74, 75, 76, 23, 77, 70, 28, 93, 94, 95, 96, 97, 98, 102, 103, 104, 105, 106, 107, 108, 109, 110, 111, 112] (by decide +kernel) (by decide +kernel)) (goodIn_sub (fun _ h => List.mem_cons_of_mem _ (List.mem_append_left _ (List.mem_append_right _ h))) (by decide +kernel))
set_option maxRecDepth 20000 in
theorem gX5_order_X4_flasherAt_n225 : GoodIn wsX5_order (wsX4_flasherAt) := ggX5_order_X4_flasherAt
theorem dX5_order_0 : decode cX5_order 0 = .ok (.aload_n 0, 1) := by decide +kernel
theorem dX5_order_1 : decode cX5_order 1 = .ok (.invokevirtual 198, 3) := by decide +kernel
theorem dX5_order_4 : decode cX5_order 4 = .ok (.aload_n 0, 1) := by decide +kernel
theorem dX5_order_5 : decode cX5_order 5 = .ok (.getfield 12, 3) := by decide +kernel
theorem dX5_order_8 : decode cX5_order 8 = .ok (.iload_n 1, 1) := by decide +kernel
theorem dX5_order_9 : decode cX5_order 9 = .ok (.invokevirtual 225, 3) := by decide +kernel
theorem dX5_order_12 : decode cX5_order 12 = .ok (.istore_n 2, 1) := by decide +kernel
theorem dX5_order_13 : decode cX5_order 13 = .ok (.iload_n 2, 1) := by decide +kernel
theorem dX5_order_14 : decode cX5_order 14 = .ok (.ifCond .ge 13, 3) := by decide +kernel
theorem dX5_order_17 : decode cX5_order 17 = .ok (.new 228, 3) := by decide +kernel
theorem dX5_order_20 : decode cX5_order 20 = .ok (.dup, 1) := by decide +kernel
theorem dX5_order_21 : decode cX5_order 21 = .ok (.ldc 230, 2) := by decide +kernel
theorem dX5_order_23 : decode cX5_order 23 = .ok (.invokespecial 232, 3) := by decide +kernel
theorem dX5_order_26 : decode cX5_order 26 = .ok (.athrow, 1) := by decide +kernel
theorem dX5_order_27 : decode cX5_order 27 = .ok (.iload_n 2, 1) := by decide +kernel
theorem dX5_order_28 : decode cX5_order 28 = .ok (.ireturn, 1) := by decide +kernel
set_option maxRecDepth 20000 in
theorem ggX5_map_X5_checkPair : GoodIn wsX5_map wsX5_checkPair := goodIn_ca (goodIn_ca (goodIn_ca (goodIn_r _ [10, 11, 12, 9, 13, 14, 15, 16, 17, 18, 19, 20, 21, 22, 23, 24, 25, 26, 3, 27, 28, 29, 30, 31, 87, 88, 89, 90, 91, 92, 93, 94, 95, 96, 97, 98, 99, 100, 101, 102, 103, 104, 105, 106, 107, 108, 109, 110, 111, 112] (by decide +kernel) (by decide +kernel)) (goodIn_sub (fun _ h => List.mem_cons_of_mem _ (List.mem_append_left _ (List.mem_append_left _ (List.mem_append_left _ (List.mem_append_right _ h))))) (by decide +kernel))) (goodIn_sub (fun _ h => List.mem_cons_of_mem _ (List.mem_append_left _ (List.mem_append_left _ (List.mem_append_right _ h)))) (by decide +kernel))) (goodIn_sub (fun _ h => List.mem_cons_of_mem _ (List.mem_append_left _ (List.mem_append_right _ h))) (by decide +kernel))
set_option maxRecDepth 20000 in
theorem gX5_map_X5_checkPair : GoodIn wsX5_map (wsV RX5 233 RX5 yX5_checkPair wsX5_checkPair) := goodIn_app (goodIn_of _ (by decide +kernel)) ggX5_map_X5_checkPair
set_option maxRecDepth 20000 in
theorem ggX5_map_X5_setPair : GoodIn wsX5_map wsX5_setPair := goodIn_ca (goodIn_r _ [35, 5, 3, 4, 36, 28, 37, 38, 39, 40, 41, 42, 43, 44, 45, 46, 47, 48, 49, 50, 51, 52, 53, 54, 31, 55, 56, 57, 27, 29, 30, 58, 59, 60, 61, 62, 63, 64, 65, 66, 67, 87, 88, 89, 90, 91, 92, 93, 94, 95, 96, 97, 98, 99, 100, 101, 102, 103, 104, 105, 106, 107, 108, 109, 110, 111, 112, 113, 114, 115] (by decide +kernel) (by decide +kernel)) (goodIn_sub (fun _ h => List.mem_cons_of_mem _ (List.mem_append_left _ (List.mem_append_left _ (List.mem_append_left _ (List.mem_append_left _ (List.mem_append_left _ (List.mem_append_right _ h))))))) (by decide +kernel))
set_option maxRecDepth 20000 in
theorem gX5_map_X5_setPair : GoodIn wsX5_map (wsV RX5 241 RX5 yX5_setPair wsX5_setPair) := goodIn_app (goodIn_of _ (by decide +kernel)) ggX5_map_X5_setPair
set_option maxRecDepth 20000 in
theorem ggX5_map_X2_advance : GoodIn wsX5_map wsX2_advance := goodIn_ca (goodIn_ca (goodIn_r _ [70, 71, 66, 67, 72, 73, 74, 63, 75, 76, 28, 77, 78, 39, 44, 45, 79, 80, 81, 82, 83, 84, 85, 86, 113, 114, 115, 102, 103, 104, 105, 106, 107, 108, 109, 110, 111, 112] (by decide +kernel) (by decide +kernel)) (goodIn_sub (fun _ h => List.mem_cons_of_mem _ (List.mem_append_left _ (List.mem_append_left _ (List.mem_append_left _ (List.mem_append_left _ (List.mem_append_left _ (List.mem_append_right _ h))))))) (by decide +kernel))) (goodIn_sub (fun _ h => List.mem_cons_of_mem _ (List.mem_append_right _ h)) (by decide +kernel))
set_option maxRecDepth 20000 in
theorem gX5_map_X2_advance_n180 : GoodIn wsX5_map (wsX2_advance) := ggX5_map_X2_advance
theorem dX5_map_0 : decode cX5_map 0 = .ok (.aload_n 0, 1) := by decide +kernel
theorem dX5_map_1 : decode cX5_map 1 = .ok (.iload_n 1, 1) := by decide +kernel
theorem dX5_map_2 : decode cX5_map 2 = .ok (.iload_n 2, 1) := by decide +kernel
theorem dX5_map_3 : decode cX5_map 3 = .ok (.invokevirtual 233, 3) := by decide +kernel
theorem dX5_map_6 : decode cX5_map 6 = .ok (.iload_n 3, 1) := by decide +kernel
theorem dX5_map_7 : decode cX5_map 7 = .ok (.ifCond .lt 16, 3) := by decide +kernel
theorem dX5_map_10 : decode cX5_map 10 = .ok (.iload_n 3, 1) := by decide +kernel
theorem dX5_map_11 : decode cX5_map 11 = .ok (.aload_n 0, 1) := by decide +kernel
theorem dX5_map_12 : decode cX5_map 12 = .ok (.getfield 12, 3) := by decide +kernel
theorem dX5_map_15 : decode cX5_map 15 = .ok (.getfield 111, 3) := by decide +kernel
theorem dX5_map_18 : decode cX5_map 18 = .ok (.iload_n 2, 1) := by decide +kernel
theorem dX5_map_19 : decode cX5_map 19 = .ok (.iaload, 1) := by decide +kernel
theorem dX5_map_20 : decode cX5_map 20 = .ok (.if_icmp .lt 13, 3) := by decide +kernel
theorem dX5_map_23 : decode cX5_map 23 = .ok (.new 236, 3) := by decide +kernel
theorem dX5_map_26 : decode cX5_map 26 = .ok (.dup, 1) := by decide +kernel
theorem dX5_map_27 : decode cX5_map 27 = .ok (.ldc 238, 2) := by decide +kernel
theorem dX5_map_29 : decode cX5_map 29 = .ok (.invokespecial 240, 3) := by decide +kernel
theorem dX5_map_32 : decode cX5_map 32 = .ok (.athrow, 1) := by decide +kernel
theorem dX5_map_33 : decode cX5_map 33 = .ok (.aload_n 0, 1) := by decide +kernel
theorem dX5_map_34 : decode cX5_map 34 = .ok (.iload_n 1, 1) := by decide +kernel
theorem dX5_map_35 : decode cX5_map 35 = .ok (.iload_n 2, 1) := by decide +kernel
theorem dX5_map_36 : decode cX5_map 36 = .ok (.invokevirtual 241, 3) := by decide +kernel
theorem dX5_map_39 : decode cX5_map 39 = .ok (.aload_n 0, 1) := by decide +kernel
theorem dX5_map_40 : decode cX5_map 40 = .ok (.getfield 57, 3) := by decide +kernel
theorem dX5_map_43 : decode cX5_map 43 = .ok (.getfield 99, 3) := by decide +kernel
theorem dX5_map_46 : decode cX5_map 46 = .ok (.iload_n 1, 1) := by decide +kernel
theorem dX5_map_47 : decode cX5_map 47 = .ok (.iconst 0, 1) := by decide +kernel
theorem dX5_map_48 : decode cX5_map 48 = .ok (.iastore, 1) := by decide +kernel
theorem dX5_map_49 : decode cX5_map 49 = .ok (.aload_n 0, 1) := by decide +kernel
theorem dX5_map_50 : decode cX5_map 50 = .ok (.getfield 57, 3) := by decide +kernel
theorem dX5_map_53 : decode cX5_map 53 = .ok (.getfield 99, 3) := by decide +kernel
theorem dX5_map_56 : decode cX5_map 56 = .ok (.iload_n 2, 1) := by decide +kernel
theorem dX5_map_57 : decode cX5_map 57 = .ok (.iload_n 3, 1) := by decide +kernel
theorem dX5_map_58 : decode cX5_map 58 = .ok (.iastore, 1) := by decide +kernel
theorem dX5_map_59 : decode cX5_map 59 = .ok (.iconst 0, 1) := by decide +kernel
theorem dX5_map_60 : decode cX5_map 60 = .ok (.istore 4, 2) := by decide +kernel
theorem dX5_map_62 : decode cX5_map 62 = .ok (.iload 4, 2) := by decide +kernel
theorem dX5_map_64 : decode cX5_map 64 = .ok (.sipush 999, 3) := by decide +kernel
theorem dX5_map_67 : decode cX5_map 67 = .ok (.if_icmp .ge 42, 3) := by decide +kernel
theorem dX5_map_70 : decode cX5_map 70 = .ok (.aload_n 0, 1) := by decide +kernel
theorem dX5_map_71 : decode cX5_map 71 = .ok (.getfield 57, 3) := by decide +kernel
theorem dX5_map_74 : decode cX5_map 74 = .ok (.aload_n 0, 1) := by decide +kernel
theorem dX5_map_75 : decode cX5_map 75 = .ok (.getfield 54, 3) := by decide +kernel
theorem dX5_map_78 : decode cX5_map 78 = .ok (.iconst 0, 1) := by decide +kernel
theorem dX5_map_79 : decode cX5_map 79 = .ok (.invokevirtual 180, 3) := by decide +kernel
theorem dX5_map_82 : decode cX5_map 82 = .ok (.istore 5, 2) := by decide +kernel
theorem dX5_map_84 : decode cX5_map 84 = .ok (.iload 5, 2) := by decide +kernel
theorem dX5_map_86 : decode cX5_map 86 = .ok (.iload_n 1, 1) := by decide +kernel
theorem dX5_map_87 : decode cX5_map 87 = .ok (.ishr, 1) := by decide +kernel
theorem dX5_map_88 : decode cX5_map 88 = .ok (.iconst 1, 1) := by decide +kernel
theorem dX5_map_89 : decode cX5_map 89 = .ok (.iand, 1) := by decide +kernel
theorem dX5_map_90 : decode cX5_map 90 = .ok (.ifCond .eq 13, 3) := by decide +kernel
theorem dX5_map_93 : decode cX5_map 93 = .ok (.aload_n 0, 1) := by decide +kernel
theorem dX5_map_94 : decode cX5_map 94 = .ok (.getfield 57, 3) := by decide +kernel
theorem dX5_map_97 : decode cX5_map 97 = .ok (.getfield 99, 3) := by decide +kernel
theorem dX5_map_100 : decode cX5_map 100 = .ok (.iload_n 2, 1) := by decide +kernel
theorem dX5_map_101 : decode cX5_map 101 = .ok (.iaload, 1) := by decide +kernel
theorem dX5_map_102 : decode cX5_map 102 = .ok (.ireturn, 1) := by decide +kernel
theorem dX5_map_103 : decode cX5_map 103 = .ok (.iinc 4 1, 3) := by decide +kernel
theorem dX5_map_106 : decode cX5_map 106 = .ok (.goto (-44), 3) := by decide +kernel
theorem dX5_map_109 : decode cX5_map 109 = .ok (.new 236, 3) := by decide +kernel
theorem dX5_map_112 : decode cX5_map 112 = .ok (.dup, 1) := by decide +kernel
theorem dX5_map_113 : decode cX5_map 113 = .ok (.ldc 244, 2) := by decide +kernel
theorem dX5_map_115 : decode cX5_map 115 = .ok (.invokespecial 240, 3) := by decide +kernel
theorem dX5_map_118 : decode cX5_map 118 = .ok (.athrow, 1) := by decide +kernel
set_option maxRecDepth 20000 in
theorem ggX5_locks_X5_checkPlace : GoodIn wsX5_locks wsX5_checkPlace := goodIn_ca (goodIn_r _ [6, 7, 8] (by decide +kernel) (by decide +kernel)) (goodIn_sub (fun _ h => List.mem_cons_of_mem _ (List.mem_append_left _ (List.mem_append_left _ (List.mem_append_left _ (List.mem_append_left _ (List.mem_append_right _ h)))))) (by decide +kernel))
set_option maxRecDepth 20000 in
theorem gX5_locks_X5_checkPlace : GoodIn wsX5_locks (va_wsS RX5 77 yX5_checkPlace wsX5_checkPlace) := goodIn_app (goodIn_of _ (by decide +kernel)) ggX5_locks_X5_checkPlace
set_option maxRecDepth 20000 in
theorem ggX5_locks_X5_checkOther : GoodIn wsX5_locks wsX5_checkOther := goodIn_ca (goodIn_r _ [11, 12, 13] (by decide +kernel) (by decide +kernel)) (goodIn_sub (fun _ h => List.mem_cons_of_mem _ (List.mem_append_left _ (List.mem_append_left _ (List.mem_append_left _ (List.mem_append_right _ h))))) (by decide +kernel))
set_option maxRecDepth 20000 in
theorem gX5_locks_X5_checkOther : GoodIn wsX5_locks (va_wsS RX5 131 yX5_checkOther wsX5_checkOther) := goodIn_app (goodIn_of _ (by decide +kernel)) ggX5_locks_X5_checkOther
set_option maxRecDepth 20000 in
theorem ggX5_locks_X5_checkRange : GoodIn wsX5_locks wsX5_checkRange := goodIn_ca (goodIn_r _ [16, 12, 13] (by decide +kernel) (by decide +kernel)) (goodIn_sub (fun _ h => List.mem_cons_of_mem _ (List.mem_append_left _ (List.mem_append_left _ (List.mem_append_left _ (List.mem_append_right _ h))))) (by decide +kernel))
set_option maxRecDepth 20000 in
theorem gX5_locks_X5_checkRange : GoodIn wsX5_locks (va_wsS RX5 81 yX5_checkRange wsX5_checkRange) := goodIn_app (goodIn_of _ (by decide +kernel)) ggX5_locks_X5_checkRange
set_option maxRecDepth 20000 in
theorem ggX5_locks_X5_checkPair : GoodIn wsX5_locks wsX5_checkPair := goodIn_ca (goodIn_ca (goodIn_ca (goodIn_r _ [20, 3, 4, 5, 6, 7, 8, 9, 10, 11, 12, 13, 21, 22, 23, 24, 25, 26, 27, 28, 29, 30, 31, 32, 130, 131, 132, 133, 134, 135, 136, 137, 138, 139, 140, 141, 142, 143, 144, 145, 146, 147, 148, 149, 150, 151, 152, 153, 154, 155] (by decide +kernel) (by decide +kernel)) (goodIn_sub (fun _ h => List.mem_cons_of_mem _ (List.mem_append_left _ (List.mem_append_left _ (List.mem_append_left _ (List.mem_append_left _ (List.mem_append_right _ h)))))) (by decide +kernel))) (goodIn_sub (fun _ h => List.mem_cons_of_mem _ (List.mem_append_left _ (List.mem_append_left _ (List.mem_append_left _ (List.mem_append_right _ h))))) (by decide +kernel))) (goodIn_sub (fun _ h => List.mem_cons_of_mem _ (List.mem_append_left _ (List.mem_append_left _ (List.mem_append_right _ h)))) (by decide +kernel))
set_option maxRecDepth 20000 in
theorem gX5_locks_X5_checkPair : GoodIn wsX5_locks (wsV RX5 233 RX5 yX5_checkPair wsX5_checkPair) := goodIn_app (goodIn_of _ (by decide +kernel)) ggX5_locks_X5_checkPair
set_option maxRecDepth 20000 in
theorem ggX5_locks_X5_setPair : GoodIn wsX5_locks wsX5_setPair := goodIn_ca (goodIn_r _ [36, 37, 27, 38, 39, 29, 40, 41, 42, 43, 44, 45, 46, 47, 48, 49, 50, 51, 52, 53, 54, 55, 56, 57, 32, 58, 59, 60, 28, 30, 31, 61, 62, 63, 64, 65, 66, 67, 68, 69, 70, 130, 131, 132, 133, 134, 135, 136, 137, 138, 139, 140, 141, 142, 143, 144, 145, 146, 147, 148, 149, 150, 151, 152, 153, 154, 155, 156, 157, 158] (by decide +kernel) (by decide +kernel)) (goodIn_sub (fun _ h => List.mem_cons_of_mem _ (List.mem_append_left _ (List.mem_append_right _ h))) (by decide +kernel))
set_option maxRecDepth 20000 in
theorem gX5_locks_X5_setPair : GoodIn wsX5_locks (wsV RX5 241 RX5 yX5_setPair wsX5_setPair) := goodIn_app (goodIn_of _ (by decide +kernel)) ggX5_locks_X5_setPair
set_option maxRecDepth 20000 in
theorem ggX5_locks_X5_followPair : GoodIn wsX5_locks wsX5_followPair := goodIn_ca (goodIn_ca (goodIn_r _ [74, 37, 27, 75, 76, 77, 78, 38, 79, 80, 81, 82, 83, 84, 85, 86, 87, 88, 89, 66, 90, 91, 69, 92, 44, 45, 46, 70, 93, 94, 95, 96, 97, 98, 99, 100, 101, 29, 102, 103, 42, 47, 48, 104, 105, 106, 107, 108, 109, 110, 111, 112, 113, 114, 115, 116, 117, 118, 130, 131, 132, 133, 134, 135, 136, 137, 138, 139, 140, 141, 142, 143, 144, 145, 146, 147, 148, 149, 150, 151, 152, 153, 154, 155, 156, 157, 158, 159, 160, 161, 162, 163, 164] (by decide +kernel) (by decide +kernel)) (goodIn_sub (fun _ h => List.mem_cons_of_mem _ (List.mem_append_left _ (List.mem_append_right _ h))) (by decide +kernel))) (goodIn_sub (fun _ h => List.mem_cons_of_mem _ (List.mem_append_right _ h)) (by decide +kernel))
set_option maxRecDepth 20000 in
theorem gX5_locks_X5_followPair : GoodIn wsX5_locks (wsV RX5 246 RX5 yX5_followPair wsX5_followPair) := goodIn_app (goodIn_of _ (by decide +kernel)) ggX5_locks_X5_followPair
set_option maxRecDepth 20000 in
theorem ggX5_locks_X5_flashEquallyOften : GoodIn wsX5_locks wsX5_flashEquallyOften := goodIn_ca (goodIn_r _ [122, 80, 123, 82, 124, 125, 88, 126, 127, 128, 129, 118, 87, 130, 131, 132, 133, 134, 135, 136, 137, 138, 139, 140, 141, 142, 143, 144, 159, 160, 161, 162, 163, 164] (by decide +kernel) (by decide +kernel)) (goodIn_sub (fun _ h => List.mem_cons_of_mem _ (List.mem_append_left _ (List.mem_append_right _ h))) (by decide +kernel))
set_option maxRecDepth 20000 in
theorem gX5_locks_X5_flashEquallyOften : GoodIn wsX5_locks (wsV RX5 252 RX5 yX5_flashEquallyOften wsX5_flashEquallyOften) := goodIn_app (goodIn_of _ (by decide +kernel)) ggX5_locks_X5_flashEquallyOften
theorem dX5_locks_0 : decode cX5_locks 0 = .ok (.iload_n 1, 1) := by decide +kernel
theorem dX5_locks_1 : decode cX5_locks 1 = .ok (.invokestatic 77, 3) := by decide +kernel
theorem dX5_locks_4 : decode cX5_locks 4 = .ok (.iload_n 2, 1) := by decide +kernel
theorem dX5_locks_5 : decode cX5_locks 5 = .ok (.invokestatic 77, 3) := by decide +kernel
theorem dX5_locks_8 : decode cX5_locks 8 = .ok (.iload_n 1, 1) := by decide +kernel
theorem dX5_locks_9 : decode cX5_locks 9 = .ok (.iload_n 2, 1) := by decide +kernel
theorem dX5_locks_10 : decode cX5_locks 10 = .ok (.invokestatic 131, 3) := by decide +kernel
theorem dX5_locks_13 : decode cX5_locks 13 = .ok (.iload_n 3, 1) := by decide +kernel
theorem dX5_locks_14 : decode cX5_locks 14 = .ok (.iconst 2, 1) := by decide +kernel
theorem dX5_locks_15 : decode cX5_locks 15 = .ok (.bipush 99, 2) := by decide +kernel
theorem dX5_locks_17 : decode cX5_locks 17 = .ok (.invokestatic 81, 3) := by decide +kernel
theorem dX5_locks_20 : decode cX5_locks 20 = .ok (.aload_n 0, 1) := by decide +kernel
theorem dX5_locks_21 : decode cX5_locks 21 = .ok (.iload_n 1, 1) := by decide +kernel
theorem dX5_locks_22 : decode cX5_locks 22 = .ok (.iload_n 2, 1) := by decide +kernel
theorem dX5_locks_23 : decode cX5_locks 23 = .ok (.invokevirtual 233, 3) := by decide +kernel
theorem dX5_locks_26 : decode cX5_locks 26 = .ok (.aload_n 0, 1) := by decide +kernel
theorem dX5_locks_27 : decode cX5_locks 27 = .ok (.iload_n 1, 1) := by decide +kernel
theorem dX5_locks_28 : decode cX5_locks 28 = .ok (.iload_n 2, 1) := by decide +kernel
theorem dX5_locks_29 : decode cX5_locks 29 = .ok (.invokevirtual 241, 3) := by decide +kernel
theorem dX5_locks_32 : decode cX5_locks 32 = .ok (.aload_n 0, 1) := by decide +kernel
theorem dX5_locks_33 : decode cX5_locks 33 = .ok (.iload_n 1, 1) := by decide +kernel
theorem dX5_locks_34 : decode cX5_locks 34 = .ok (.iload_n 2, 1) := by decide +kernel
theorem dX5_locks_35 : decode cX5_locks 35 = .ok (.iload_n 3, 1) := by decide +kernel
theorem dX5_locks_36 : decode cX5_locks 36 = .ok (.invokevirtual 246, 3) := by decide +kernel
theorem dX5_locks_39 : decode cX5_locks 39 = .ok (.ifCond .ne 13, 3) := by decide +kernel
theorem dX5_locks_42 : decode cX5_locks 42 = .ok (.new 236, 3) := by decide +kernel
theorem dX5_locks_45 : decode cX5_locks 45 = .ok (.dup, 1) := by decide +kernel
theorem dX5_locks_46 : decode cX5_locks 46 = .ok (.ldc 250, 2) := by decide +kernel
theorem dX5_locks_48 : decode cX5_locks 48 = .ok (.invokespecial 240, 3) := by decide +kernel
theorem dX5_locks_51 : decode cX5_locks 51 = .ok (.athrow, 1) := by decide +kernel
theorem dX5_locks_52 : decode cX5_locks 52 = .ok (.aload_n 0, 1) := by decide +kernel
theorem dX5_locks_53 : decode cX5_locks 53 = .ok (.iload_n 1, 1) := by decide +kernel
theorem dX5_locks_54 : decode cX5_locks 54 = .ok (.iload_n 2, 1) := by decide +kernel
theorem dX5_locks_55 : decode cX5_locks 55 = .ok (.invokevirtual 252, 3) := by decide +kernel
theorem dX5_locks_58 : decode cX5_locks 58 = .ok (.ireturn, 1) := by decide +kernel
set_option maxRecDepth 20000 in
theorem ggX5_tongue_X5_checkPair : GoodIn wsX5_tongue wsX5_checkPair := goodIn_ca (goodIn_ca (goodIn_ca (goodIn_r _ [5, 6, 7, 4, 8, 9, 10, 11, 12, 13, 14, 15, 16, 17, 18, 19, 20, 21, 22, 23, 24, 25, 26, 27, 125, 126, 127, 128, 129, 130, 131, 132, 133, 134, 135, 136, 137, 138, 139, 140, 141, 142, 143, 144, 145, 146, 147, 148, 149, 150] (by decide +kernel) (by decide +kernel)) (goodIn_sub (fun _ h => List.mem_cons_of_mem _ (List.mem_append_left _ (List.mem_append_left _ (List.mem_append_left _ (List.mem_append_left _ (List.mem_append_right _ h)))))) (by decide +kernel))) (goodIn_sub (fun _ h => List.mem_cons_of_mem _ (List.mem_append_left _ (List.mem_append_left _ (List.mem_append_left _ (List.mem_append_right _ h))))) (by decide +kernel))) (goodIn_sub (fun _ h => List.mem_cons_of_mem _ (List.mem_append_left _ (List.mem_append_left _ (List.mem_append_right _ h)))) (by decide +kernel))
set_option maxRecDepth 20000 in
theorem gX5_tongue_X5_checkPair : GoodIn wsX5_tongue (wsV RX5 233 RX5 yX5_checkPair wsX5_checkPair) := goodIn_app (goodIn_of _ (by decide +kernel)) ggX5_tongue_X5_checkPair
set_option maxRecDepth 20000 in
theorem ggX5_tongue_X5_setPair : GoodIn wsX5_tongue wsX5_setPair := goodIn_ca (goodIn_r _ [31, 32, 22, 33, 34, 24, 35, 36, 37, 38, 39, 40, 41, 42, 43, 44, 45, 46, 47, 48, 49, 50, 51, 52, 27, 53, 54, 55, 23, 25, 26, 56, 57, 58, 59, 60, 61, 62, 63, 64, 65, 125, 126, 127, 128, 129, 130, 131, 132, 133, 134, 135, 136, 137, 138, 139, 140, 141, 142, 143, 144, 145, 146, 147, 148, 149, 150, 151, 152, 153] (by decide +kernel) (by decide +kernel)) (goodIn_sub (fun _ h => List.mem_cons_of_mem _ (List.mem_append_left _ (List.mem_append_right _ h))) (by decide +kernel))
set_option maxRecDepth 20000 in
theorem gX5_tongue_X5_setPair : GoodIn wsX5_tongue (wsV RX5 241 RX5 yX5_setPair wsX5_setPair) := goodIn_app (goodIn_of _ (by decide +kernel)) ggX5_tongue_X5_setPair
set_option maxRecDepth 20000 in
theorem ggX5_tongue_X5_followPair : GoodIn wsX5_tongue wsX5_followPair := goodIn_ca (goodIn_ca (goodIn_r _ [69, 32, 22, 70, 71, 72, 73, 33, 74, 75, 76, 77, 78, 79, 80, 81, 82, 83, 84, 61, 85, 86, 64, 87, 39, 40, 41, 65, 88, 89, 90, 91, 92, 93, 94, 95, 96, 24, 97, 98, 37, 42, 43, 99, 100, 101, 102, 103, 104, 105, 106, 107, 108, 109, 110, 111, 112, 113, 125, 126, 127, 128, 129, 130, 131, 132, 133, 134, 135, 136, 137, 138, 139, 140, 141, 142, 143, 144, 145, 146, 147, 148, 149, 150, 151, 152, 153, 154, 155, 156, 157, 158, 159] (by decide +kernel) (by decide +kernel)) (goodIn_sub (fun _ h => List.mem_cons_of_mem _ (List.mem_append_left _ (List.mem_append_right _ h))) (by decide +kernel))) (goodIn_sub (fun _ h => List.mem_cons_of_mem _ (List.mem_append_right _ h)) (by decide +kernel))
set_option maxRecDepth 20000 in
theorem gX5_tongue_X5_followPair : GoodIn wsX5_tongue (wsV RX5 246 RX5 yX5_followPair wsX5_followPair) := goodIn_app (goodIn_of _ (by decide +kernel)) ggX5_tongue_X5_followPair
set_option maxRecDepth 20000 in
theorem ggX5_tongue_X5_flashEquallyOften : GoodIn wsX5_tongue wsX5_flashEquallyOften := goodIn_ca (goodIn_r _ [117, 75, 118, 77, 119, 120, 83, 121, 122, 123, 124, 113, 82, 125, 126, 127, 128, 129, 130, 131, 132, 133, 134, 135, 136, 137, 138, 139, 154, 155, 156, 157, 158, 159] (by decide +kernel) (by decide +kernel)) (goodIn_sub (fun _ h => List.mem_cons_of_mem _ (List.mem_append_left _ (List.mem_append_right _ h))) (by decide +kernel))
set_option maxRecDepth 20000 in
theorem gX5_tongue_X5_flashEquallyOften : GoodIn wsX5_tongue (wsV RX5 252 RX5 yX5_flashEquallyOften wsX5_flashEquallyOften) := goodIn_app (goodIn_of _ (by decide +kernel)) ggX5_tongue_X5_flashEquallyOften
theorem dX5_tongue_0 : decode cX5_tongue 0 = .ok (.aload_n 0, 1) := by decide +kernel
theorem dX5_tongue_1 : decode cX5_tongue 1 = .ok (.iload_n 1, 1) := by decide +kernel
theorem dX5_tongue_2 : decode cX5_tongue 2 = .ok (.iload_n 2, 1) := by decide +kernel
theorem dX5_tongue_3 : decode cX5_tongue 3 = .ok (.invokevirtual 233, 3) := by decide +kernel
theorem dX5_tongue_6 : decode cX5_tongue 6 = .ok (.aload_n 0, 1) := by decide +kernel
theorem dX5_tongue_7 : decode cX5_tongue 7 = .ok (.iload_n 1, 1) := by decide +kernel
theorem dX5_tongue_8 : decode cX5_tongue 8 = .ok (.iload_n 2, 1) := by decide +kernel
theorem dX5_tongue_9 : decode cX5_tongue 9 = .ok (.invokevirtual 241, 3) := by decide +kernel
theorem dX5_tongue_12 : decode cX5_tongue 12 = .ok (.iconst 0, 1) := by decide +kernel
theorem dX5_tongue_13 : decode cX5_tongue 13 = .ok (.istore_n 3, 1) := by decide +kernel
theorem dX5_tongue_14 : decode cX5_tongue 14 = .ok (.iconst 2, 1) := by decide +kernel
theorem dX5_tongue_15 : decode cX5_tongue 15 = .ok (.istore 4, 2) := by decide +kernel
theorem dX5_tongue_17 : decode cX5_tongue 17 = .ok (.iload 4, 2) := by decide +kernel
theorem dX5_tongue_19 : decode cX5_tongue 19 = .ok (.bipush 99, 2) := by decide +kernel
theorem dX5_tongue_21 : decode cX5_tongue 21 = .ok (.if_icmp .gt 32, 3) := by decide +kernel
theorem dX5_tongue_24 : decode cX5_tongue 24 = .ok (.aload_n 0, 1) := by decide +kernel
theorem dX5_tongue_25 : decode cX5_tongue 25 = .ok (.iload_n 1, 1) := by decide +kernel
theorem dX5_tongue_26 : decode cX5_tongue 26 = .ok (.iload_n 2, 1) := by decide +kernel
theorem dX5_tongue_27 : decode cX5_tongue 27 = .ok (.iload 4, 2) := by decide +kernel
theorem dX5_tongue_29 : decode cX5_tongue 29 = .ok (.invokevirtual 246, 3) := by decide +kernel
theorem dX5_tongue_32 : decode cX5_tongue 32 = .ok (.ifCond .eq 15, 3) := by decide +kernel
theorem dX5_tongue_35 : decode cX5_tongue 35 = .ok (.aload_n 0, 1) := by decide +kernel
theorem dX5_tongue_36 : decode cX5_tongue 36 = .ok (.iload_n 1, 1) := by decide +kernel
theorem dX5_tongue_37 : decode cX5_tongue 37 = .ok (.iload_n 2, 1) := by decide +kernel
theorem dX5_tongue_38 : decode cX5_tongue 38 = .ok (.invokevirtual 252, 3) := by decide +kernel
theorem dX5_tongue_41 : decode cX5_tongue 41 = .ok (.ifCond .eq 6, 3) := by decide +kernel
theorem dX5_tongue_44 : decode cX5_tongue 44 = .ok (.iinc 3 1, 3) := by decide +kernel
theorem dX5_tongue_47 : decode cX5_tongue 47 = .ok (.iinc 4 1, 3) := by decide +kernel
theorem dX5_tongue_50 : decode cX5_tongue 50 = .ok (.goto (-33), 3) := by decide +kernel
theorem dX5_tongue_53 : decode cX5_tongue 53 = .ok (.iload_n 3, 1) := by decide +kernel
theorem dX5_tongue_54 : decode cX5_tongue 54 = .ok (.ireturn, 1) := by decide +kernel
set_option maxRecDepth 20000 in
theorem ggX5_push_X5_checkPlace : GoodIn wsX5_push wsX5_checkPlace := goodIn_ca (goodIn_r _ [14, 15, 16] (by decide +kernel) (by decide +kernel)) (goodIn_sub (fun _ h => List.mem_cons_of_mem _ (List.mem_append_left _ (List.mem_append_left _ (List.mem_append_right _ h)))) (by decide +kernel))
set_option maxRecDepth 20000 in
theorem gX5_push_X5_checkPlace : GoodIn wsX5_push (va_wsS RX5 77 yX5_checkPlace wsX5_checkPlace) := goodIn_app (goodIn_of _ (by decide +kernel)) ggX5_push_X5_checkPlace
set_option maxRecDepth 20000 in
theorem ggX5_push_X5_checkRange : GoodIn wsX5_push wsX5_checkRange := goodIn_ca (goodIn_r _ [19, 20, 21] (by decide +kernel) (by decide +kernel)) (goodIn_sub (fun _ h => List.mem_cons_of_mem _ (List.mem_append_left _ (List.mem_append_right _ h))) (by decide +kernel))
set_option maxRecDepth 20000 in
theorem gX5_push_X5_checkRange : GoodIn wsX5_push (va_wsS RX5 81 yX5_checkRange wsX5_checkRange) := goodIn_app (goodIn_of _ (by decide +kernel)) ggX5_push_X5_checkRange
