theorem dX6_init_0 : decode cX6_init 0 = .ok (.aload_n 0, 1) := by decide +kernel
theorem dX6_init_1 : decode cX6_init 1 = .ok (.aload_n 1, 1) := by decide +kernel
theorem dX6_init_2 : decode cX6_init 2 = .ok (.putfield 3, 3) := by decide +kernel
theorem dX6_init_5 : decode cX6_init 5 = .ok (.aload_n 0, 1) := by decide +kernel
theorem dX6_init_6 : decode cX6_init 6 = .ok (.invokespecial 9, 3) := by decide +kernel
theorem dX6_init_9 : decode cX6_init 9 = .ok (.aload_n 0, 1) := by decide +kernel
theorem dX6_init_10 : decode cX6_init 10 = .ok (.bipush 16, 2) := by decide +kernel
theorem dX6_init_12 : decode cX6_init 12 = .ok (.newarray .boolean, 2) := by decide +kernel
theorem dX6_init_14 : decode cX6_init 14 = .ok (.putfield 15, 3) := by decide +kernel
theorem dX6_init_17 : decode cX6_init 17 = .ok (.aload_n 0, 1) := by decide +kernel
theorem dX6_init_18 : decode cX6_init 18 = .ok (.bipush 16, 2) := by decide +kernel
theorem dX6_init_20 : decode cX6_init 20 = .ok (.newarray .int, 2) := by decide +kernel
theorem dX6_init_22 : decode cX6_init 22 = .ok (.putfield 19, 3) := by decide +kernel
theorem dX6_init_25 : decode cX6_init 25 = .ok (.aload_n 0, 1) := by decide +kernel
theorem dX6_init_26 : decode cX6_init 26 = .ok (.bipush 16, 2) := by decide +kernel
theorem dX6_init_28 : decode cX6_init 28 = .ok (.newarray .int, 2) := by decide +kernel
theorem dX6_init_30 : decode cX6_init 30 = .ok (.putfield 23, 3) := by decide +kernel
theorem dX6_init_33 : decode cX6_init 33 = .ok (.aload_n 0, 1) := by decide +kernel
theorem dX6_init_34 : decode cX6_init 34 = .ok (.bipush 16, 2) := by decide +kernel
theorem dX6_init_36 : decode cX6_init 36 = .ok (.newarray .int, 2) := by decide +kernel
theorem dX6_init_38 : decode cX6_init 38 = .ok (.putfield 26, 3) := by decide +kernel
theorem dX6_init_41 : decode cX6_init 41 = .ok (.aload_n 0, 1) := by decide +kernel
theorem dX6_init_42 : decode cX6_init 42 = .ok (.sipush 496, 3) := by decide +kernel
theorem dX6_init_45 : decode cX6_init 45 = .ok (.newarray .int, 2) := by decide +kernel
theorem dX6_init_47 : decode cX6_init 47 = .ok (.putfield 29, 3) := by decide +kernel
theorem dX6_init_50 : decode cX6_init 50 = .ok (.aload_n 0, 1) := by decide +kernel
theorem dX6_init_51 : decode cX6_init 51 = .ok (.bipush 16, 2) := by decide +kernel
theorem dX6_init_53 : decode cX6_init 53 = .ok (.newarray .boolean, 2) := by decide +kernel
theorem dX6_init_55 : decode cX6_init 55 = .ok (.putfield 32, 3) := by decide +kernel
theorem dX6_init_58 : decode cX6_init 58 = .ok (.return_, 1) := by decide +kernel
theorem dX6_takes_0 : decode cX6_takes 0 = .ok (.iconst 0, 1) := by decide +kernel
theorem dX6_takes_1 : decode cX6_takes 1 = .ok (.istore_n 2, 1) := by decide +kernel
theorem dX6_takes_2 : decode cX6_takes 2 = .ok (.iload_n 2, 1) := by decide +kernel
theorem dX6_takes_3 : decode cX6_takes 3 = .ok (.bipush 16, 2) := by decide +kernel
theorem dX6_takes_5 : decode cX6_takes 5 = .ok (.if_icmp .ge 57, 3) := by decide +kernel
theorem dX6_takes_8 : decode cX6_takes 8 = .ok (.aload_n 0, 1) := by decide +kernel
theorem dX6_takes_9 : decode cX6_takes 9 = .ok (.getfield 15, 3) := by decide +kernel
theorem dX6_takes_12 : decode cX6_takes 12 = .ok (.iload_n 2, 1) := by decide +kernel
theorem dX6_takes_13 : decode cX6_takes 13 = .ok (.aload_n 1, 1) := by decide +kernel
theorem dX6_takes_14 : decode cX6_takes 14 = .ok (.getfield 15, 3) := by decide +kernel
theorem dX6_takes_17 : decode cX6_takes 17 = .ok (.iload_n 2, 1) := by decide +kernel
theorem dX6_takes_18 : decode cX6_takes 18 = .ok (.baload, 1) := by decide +kernel
theorem dX6_takes_19 : decode cX6_takes 19 = .ok (.bastore, 1) := by decide +kernel
theorem dX6_takes_20 : decode cX6_takes 20 = .ok (.aload_n 0, 1) := by decide +kernel
theorem dX6_takes_21 : decode cX6_takes 21 = .ok (.getfield 19, 3) := by decide +kernel
theorem dX6_takes_24 : decode cX6_takes 24 = .ok (.iload_n 2, 1) := by decide +kernel
theorem dX6_takes_25 : decode cX6_takes 25 = .ok (.aload_n 1, 1) := by decide +kernel
theorem dX6_takes_26 : decode cX6_takes 26 = .ok (.getfield 19, 3) := by decide +kernel
theorem dX6_takes_29 : decode cX6_takes 29 = .ok (.iload_n 2, 1) := by decide +kernel
theorem dX6_takes_30 : decode cX6_takes 30 = .ok (.iaload, 1) := by decide +kernel
theorem dX6_takes_31 : decode cX6_takes 31 = .ok (.iastore, 1) := by decide +kernel
theorem dX6_takes_32 : decode cX6_takes 32 = .ok (.aload_n 0, 1) := by decide +kernel
theorem dX6_takes_33 : decode cX6_takes 33 = .ok (.getfield 23, 3) := by decide +kernel
theorem dX6_takes_36 : decode cX6_takes 36 = .ok (.iload_n 2, 1) := by decide +kernel
theorem dX6_takes_37 : decode cX6_takes 37 = .ok (.aload_n 1, 1) := by decide +kernel
theorem dX6_takes_38 : decode cX6_takes 38 = .ok (.getfield 23, 3) := by decide +kernel
theorem dX6_takes_41 : decode cX6_takes 41 = .ok (.iload_n 2, 1) := by decide +kernel
theorem dX6_takes_42 : decode cX6_takes 42 = .ok (.iaload, 1) := by decide +kernel
theorem dX6_takes_43 : decode cX6_takes 43 = .ok (.iastore, 1) := by decide +kernel
theorem dX6_takes_44 : decode cX6_takes 44 = .ok (.aload_n 0, 1) := by decide +kernel
theorem dX6_takes_45 : decode cX6_takes 45 = .ok (.getfield 26, 3) := by decide +kernel
theorem dX6_takes_48 : decode cX6_takes 48 = .ok (.iload_n 2, 1) := by decide +kernel
theorem dX6_takes_49 : decode cX6_takes 49 = .ok (.aload_n 1, 1) := by decide +kernel
theorem dX6_takes_50 : decode cX6_takes 50 = .ok (.getfield 26, 3) := by decide +kernel
theorem dX6_takes_53 : decode cX6_takes 53 = .ok (.iload_n 2, 1) := by decide +kernel
theorem dX6_takes_54 : decode cX6_takes 54 = .ok (.iaload, 1) := by decide +kernel
theorem dX6_takes_55 : decode cX6_takes 55 = .ok (.iastore, 1) := by decide +kernel
theorem dX6_takes_56 : decode cX6_takes 56 = .ok (.iinc 2 1, 3) := by decide +kernel
theorem dX6_takes_59 : decode cX6_takes 59 = .ok (.goto (-57), 3) := by decide +kernel
theorem dX6_takes_62 : decode cX6_takes 62 = .ok (.iconst 0, 1) := by decide +kernel
theorem dX6_takes_63 : decode cX6_takes 63 = .ok (.istore_n 2, 1) := by decide +kernel
theorem dX6_takes_64 : decode cX6_takes 64 = .ok (.iload_n 2, 1) := by decide +kernel
theorem dX6_takes_65 : decode cX6_takes 65 = .ok (.aload_n 0, 1) := by decide +kernel
theorem dX6_takes_66 : decode cX6_takes 66 = .ok (.getfield 29, 3) := by decide +kernel
theorem dX6_takes_69 : decode cX6_takes 69 = .ok (.arraylength, 1) := by decide +kernel
theorem dX6_takes_70 : decode cX6_takes 70 = .ok (.if_icmp .ge 21, 3) := by decide +kernel
theorem dX6_takes_73 : decode cX6_takes 73 = .ok (.aload_n 0, 1) := by decide +kernel
theorem dX6_takes_74 : decode cX6_takes 74 = .ok (.getfield 29, 3) := by decide +kernel
theorem dX6_takes_77 : decode cX6_takes 77 = .ok (.iload_n 2, 1) := by decide +kernel
theorem dX6_takes_78 : decode cX6_takes 78 = .ok (.aload_n 1, 1) := by decide +kernel
theorem dX6_takes_79 : decode cX6_takes 79 = .ok (.getfield 29, 3) := by decide +kernel
theorem dX6_takes_82 : decode cX6_takes 82 = .ok (.iload_n 2, 1) := by decide +kernel
theorem dX6_takes_83 : decode cX6_takes 83 = .ok (.iaload, 1) := by decide +kernel
theorem dX6_takes_84 : decode cX6_takes 84 = .ok (.iastore, 1) := by decide +kernel
theorem dX6_takes_85 : decode cX6_takes 85 = .ok (.iinc 2 1, 3) := by decide +kernel
theorem dX6_takes_88 : decode cX6_takes 88 = .ok (.goto (-24), 3) := by decide +kernel
theorem dX6_takes_91 : decode cX6_takes 91 = .ok (.aload_n 0, 1) := by decide +kernel
theorem dX6_takes_92 : decode cX6_takes 92 = .ok (.aload_n 1, 1) := by decide +kernel
theorem dX6_takes_93 : decode cX6_takes 93 = .ok (.getfield 35, 3) := by decide +kernel
theorem dX6_takes_96 : decode cX6_takes 96 = .ok (.putfield 35, 3) := by decide +kernel
theorem dX6_takes_99 : decode cX6_takes 99 = .ok (.return_, 1) := by decide +kernel
set_option maxRecDepth 20000 in
theorem ggX6_takesTwo_X6_takes : GoodIn wsX6_takesTwo wsX6_takes := goodIn_ca (goodIn_r _ [8, 2, 9, 10, 11, 3, 12, 13, 14, 15, 16, 17, 18, 19, 20] (by decide +kernel) (by decide +kernel)) (goodIn_sub (fun _ h => List.mem_cons_of_mem _ (List.mem_append_right _ h)) (by decide +kernel))
set_option maxRecDepth 20000 in
theorem gX6_takesTwo_X6_takes : GoodIn wsX6_takesTwo (wsV RX6 43 RX6 yX6_takes wsX6_takes) := goodIn_app (goodIn_of _ (by decide +kernel)) ggX6_takesTwo_X6_takes
theorem dX6_takesTwo_0 : decode cX6_takesTwo 0 = .ok (.aload_n 0, 1) := by decide +kernel
theorem dX6_takesTwo_1 : decode cX6_takesTwo 1 = .ok (.aload_n 0, 1) := by decide +kernel
theorem dX6_takesTwo_2 : decode cX6_takesTwo 2 = .ok (.getfield 3, 3) := by decide +kernel
theorem dX6_takesTwo_5 : decode cX6_takesTwo 5 = .ok (.getfield 39, 3) := by decide +kernel
theorem dX6_takesTwo_8 : decode cX6_takesTwo 8 = .ok (.invokevirtual 43, 3) := by decide +kernel
theorem dX6_takesTwo_11 : decode cX6_takesTwo 11 = .ok (.iconst 0, 1) := by decide +kernel
theorem dX6_takesTwo_12 : decode cX6_takesTwo 12 = .ok (.istore_n 3, 1) := by decide +kernel
theorem dX6_takesTwo_13 : decode cX6_takesTwo 13 = .ok (.iload_n 3, 1) := by decide +kernel
theorem dX6_takesTwo_14 : decode cX6_takesTwo 14 = .ok (.bipush 16, 2) := by decide +kernel
theorem dX6_takesTwo_16 : decode cX6_takesTwo 16 = .ok (.if_icmp .ge 30, 3) := by decide +kernel
theorem dX6_takesTwo_19 : decode cX6_takesTwo 19 = .ok (.aload_n 0, 1) := by decide +kernel
theorem dX6_takesTwo_20 : decode cX6_takesTwo 20 = .ok (.getfield 15, 3) := by decide +kernel
theorem dX6_takesTwo_23 : decode cX6_takesTwo 23 = .ok (.iload_n 3, 1) := by decide +kernel
theorem dX6_takesTwo_24 : decode cX6_takesTwo 24 = .ok (.iload_n 3, 1) := by decide +kernel
theorem dX6_takesTwo_25 : decode cX6_takesTwo 25 = .ok (.iload_n 1, 1) := by decide +kernel
theorem dX6_takesTwo_26 : decode cX6_takesTwo 26 = .ok (.if_icmp .eq 8, 3) := by decide +kernel
theorem dX6_takesTwo_29 : decode cX6_takesTwo 29 = .ok (.iload_n 3, 1) := by decide +kernel
theorem dX6_takesTwo_30 : decode cX6_takesTwo 30 = .ok (.iload_n 2, 1) := by decide +kernel
theorem dX6_takesTwo_31 : decode cX6_takesTwo 31 = .ok (.if_icmp .ne 7, 3) := by decide +kernel
theorem dX6_takesTwo_34 : decode cX6_takesTwo 34 = .ok (.iconst 1, 1) := by decide +kernel
theorem dX6_takesTwo_35 : decode cX6_takesTwo 35 = .ok (.goto 4, 3) := by decide +kernel
theorem dX6_takesTwo_38 : decode cX6_takesTwo 38 = .ok (.iconst 0, 1) := by decide +kernel
theorem dX6_takesTwo_39 : decode cX6_takesTwo 39 = .ok (.bastore, 1) := by decide +kernel
theorem dX6_takesTwo_40 : decode cX6_takesTwo 40 = .ok (.iinc 3 1, 3) := by decide +kernel
theorem dX6_takesTwo_43 : decode cX6_takesTwo 43 = .ok (.goto (-30), 3) := by decide +kernel
theorem dX6_takesTwo_46 : decode cX6_takesTwo 46 = .ok (.iconst 0, 1) := by decide +kernel
theorem dX6_takesTwo_47 : decode cX6_takesTwo 47 = .ok (.istore_n 3, 1) := by decide +kernel
theorem dX6_takesTwo_48 : decode cX6_takesTwo 48 = .ok (.iload_n 3, 1) := by decide +kernel
theorem dX6_takesTwo_49 : decode cX6_takesTwo 49 = .ok (.aload_n 0, 1) := by decide +kernel
theorem dX6_takesTwo_50 : decode cX6_takesTwo 50 = .ok (.getfield 29, 3) := by decide +kernel
theorem dX6_takesTwo_53 : decode cX6_takesTwo 53 = .ok (.arraylength, 1) := by decide +kernel
theorem dX6_takesTwo_54 : decode cX6_takesTwo 54 = .ok (.if_icmp .ge 16, 3) := by decide +kernel
theorem dX6_takesTwo_57 : decode cX6_takesTwo 57 = .ok (.aload_n 0, 1) := by decide +kernel
theorem dX6_takesTwo_58 : decode cX6_takesTwo 58 = .ok (.getfield 29, 3) := by decide +kernel
theorem dX6_takesTwo_61 : decode cX6_takesTwo 61 = .ok (.iload_n 3, 1) := by decide +kernel
theorem dX6_takesTwo_62 : decode cX6_takesTwo 62 = .ok (.iconst 0, 1) := by decide +kernel
theorem dX6_takesTwo_63 : decode cX6_takesTwo 63 = .ok (.iastore, 1) := by decide +kernel
theorem dX6_takesTwo_64 : decode cX6_takesTwo 64 = .ok (.iinc 3 1, 3) := by decide +kernel
theorem dX6_takesTwo_67 : decode cX6_takesTwo 67 = .ok (.goto (-19), 3) := by decide +kernel
theorem dX6_takesTwo_70 : decode cX6_takesTwo 70 = .ok (.return_, 1) := by decide +kernel
theorem dX6_setPeriod_0 : decode cX6_setPeriod 0 = .ok (.aload_n 0, 1) := by decide +kernel
theorem dX6_setPeriod_1 : decode cX6_setPeriod 1 = .ok (.getfield 19, 3) := by decide +kernel
theorem dX6_setPeriod_4 : decode cX6_setPeriod 4 = .ok (.iload_n 1, 1) := by decide +kernel
theorem dX6_setPeriod_5 : decode cX6_setPeriod 5 = .ok (.iload_n 2, 1) := by decide +kernel
theorem dX6_setPeriod_6 : decode cX6_setPeriod 6 = .ok (.iastore, 1) := by decide +kernel
theorem dX6_setPeriod_7 : decode cX6_setPeriod 7 = .ok (.aload_n 0, 1) := by decide +kernel
theorem dX6_setPeriod_8 : decode cX6_setPeriod 8 = .ok (.getfield 23, 3) := by decide +kernel
theorem dX6_setPeriod_11 : decode cX6_setPeriod 11 = .ok (.iload_n 1, 1) := by decide +kernel
theorem dX6_setPeriod_12 : decode cX6_setPeriod 12 = .ok (.aload_n 0, 1) := by decide +kernel
theorem dX6_setPeriod_13 : decode cX6_setPeriod 13 = .ok (.getfield 23, 3) := by decide +kernel
theorem dX6_setPeriod_16 : decode cX6_setPeriod 16 = .ok (.iload_n 1, 1) := by decide +kernel
theorem dX6_setPeriod_17 : decode cX6_setPeriod 17 = .ok (.iaload, 1) := by decide +kernel
theorem dX6_setPeriod_18 : decode cX6_setPeriod 18 = .ok (.iload_n 2, 1) := by decide +kernel
theorem dX6_setPeriod_19 : decode cX6_setPeriod 19 = .ok (.iconst 1, 1) := by decide +kernel
theorem dX6_setPeriod_20 : decode cX6_setPeriod 20 = .ok (.isub, 1) := by decide +kernel
theorem dX6_setPeriod_21 : decode cX6_setPeriod 21 = .ok (.invokestatic 47, 3) := by decide +kernel
theorem dX6_setPeriod_24 : decode cX6_setPeriod 24 = .ok (.iastore, 1) := by decide +kernel
theorem dX6_setPeriod_25 : decode cX6_setPeriod 25 = .ok (.aload_n 0, 1) := by decide +kernel
theorem dX6_setPeriod_26 : decode cX6_setPeriod 26 = .ok (.getfield 26, 3) := by decide +kernel
theorem dX6_setPeriod_29 : decode cX6_setPeriod 29 = .ok (.iload_n 1, 1) := by decide +kernel
theorem dX6_setPeriod_30 : decode cX6_setPeriod 30 = .ok (.aload_n 0, 1) := by decide +kernel
theorem dX6_setPeriod_31 : decode cX6_setPeriod 31 = .ok (.getfield 26, 3) := by decide +kernel
theorem dX6_setPeriod_34 : decode cX6_setPeriod 34 = .ok (.iload_n 1, 1) := by decide +kernel
theorem dX6_setPeriod_35 : decode cX6_setPeriod 35 = .ok (.iaload, 1) := by decide +kernel
theorem dX6_setPeriod_36 : decode cX6_setPeriod 36 = .ok (.iload_n 2, 1) := by decide +kernel
theorem dX6_setPeriod_37 : decode cX6_setPeriod 37 = .ok (.iconst 1, 1) := by decide +kernel
theorem dX6_setPeriod_38 : decode cX6_setPeriod 38 = .ok (.isub, 1) := by decide +kernel
theorem dX6_setPeriod_39 : decode cX6_setPeriod 39 = .ok (.invokestatic 47, 3) := by decide +kernel
theorem dX6_setPeriod_42 : decode cX6_setPeriod 42 = .ok (.iastore, 1) := by decide +kernel
theorem dX6_setPeriod_43 : decode cX6_setPeriod 43 = .ok (.return_, 1) := by decide +kernel
set_option maxRecDepth 20000 in
theorem ggX6_tick_X8_lot : GoodIn wsX6_tick wsX8_lot := goodIn_r _ [17, 18, 19, 20, 21, 53, 54, 55, 56, 57, 58, 59, 60, 61, 62, 63, 64, 65, 66, 67, 68, 69, 70, 71, 72, 73] (by decide +kernel) (by decide +kernel)
set_option maxRecDepth 20000 in
theorem gX6_tick_X8_lot_n60 : GoodIn wsX6_tick (wsX8_lot) := ggX6_tick_X8_lot
set_option maxRecDepth 20000 in
theorem ggX6_tick_Jx4a65c_size_8abf5 : GoodIn wsX6_tick wsJx4a65c_size_8abf5 := goodIn_r _ [26, 27, 78, 79, 80] (by decide +kernel) (by decide +kernel)
set_option maxRecDepth 20000 in
theorem gX6_tick_Jx4a65c_size_8abf5 : GoodIn wsX6_tick (wsV RX6 68 RJx4a65c yJx4a65c_size_8abf5 wsJx4a65c_size_8abf5) := goodIn_app (goodIn_of _ (by decide +kernel)) ggX6_tick_Jx4a65c_size_8abf5
set_option maxRecDepth 20000 in
theorem ggX6_tick_Jx4a65c_get_915e3 : GoodIn wsX6_tick wsJx4a65c_get_915e3 := goodIn_r _ [31, 27, 32, 33, 34, 35, 36, 37, 38, 39, 40, 41, 42, 25, 43, 44, 78, 79, 80] (by decide +kernel) (by decide +kernel)
set_option maxRecDepth 20000 in
theorem gX6_tick_Jx4a65c_get_915e3 : GoodIn wsX6_tick (wsV RX6 74 RJx4a65c yJx4a65c_get_915e3 wsJx4a65c_get_915e3) := goodIn_app (goodIn_of _ (by decide +kernel)) ggX6_tick_Jx4a65c_get_915e3
theorem dX6_tick_0 : decode cX6_tick 0 = .ok (.aload_n 0, 1) := by decide +kernel
theorem dX6_tick_1 : decode cX6_tick 1 = .ok (.dup, 1) := by decide +kernel
theorem dX6_tick_2 : decode cX6_tick 2 = .ok (.getfield 35, 3) := by decide +kernel
theorem dX6_tick_5 : decode cX6_tick 5 = .ok (.iconst 1, 1) := by decide +kernel
theorem dX6_tick_6 : decode cX6_tick 6 = .ok (.iadd, 1) := by decide +kernel
theorem dX6_tick_7 : decode cX6_tick 7 = .ok (.putfield 35, 3) := by decide +kernel
theorem dX6_tick_10 : decode cX6_tick 10 = .ok (.iconst 0, 1) := by decide +kernel
theorem dX6_tick_11 : decode cX6_tick 11 = .ok (.istore_n 2, 1) := by decide +kernel
theorem dX6_tick_12 : decode cX6_tick 12 = .ok (.iconst 0, 1) := by decide +kernel
theorem dX6_tick_13 : decode cX6_tick 13 = .ok (.istore_n 3, 1) := by decide +kernel
theorem dX6_tick_14 : decode cX6_tick 14 = .ok (.iload_n 3, 1) := by decide +kernel
theorem dX6_tick_15 : decode cX6_tick 15 = .ok (.bipush 16, 2) := by decide +kernel
theorem dX6_tick_17 : decode cX6_tick 17 = .ok (.if_icmp .ge 215, 3) := by decide +kernel
theorem dX6_tick_20 : decode cX6_tick 20 = .ok (.iload_n 3, 1) := by decide +kernel
theorem dX6_tick_21 : decode cX6_tick 21 = .ok (.bipush 31, 2) := by decide +kernel
theorem dX6_tick_23 : decode cX6_tick 23 = .ok (.imul, 1) := by decide +kernel
theorem dX6_tick_24 : decode cX6_tick 24 = .ok (.aload_n 0, 1) := by decide +kernel
theorem dX6_tick_25 : decode cX6_tick 25 = .ok (.getfield 35, 3) := by decide +kernel
theorem dX6_tick_28 : decode cX6_tick 28 = .ok (.bipush 31, 2) := by decide +kernel
theorem dX6_tick_30 : decode cX6_tick 30 = .ok (.irem, 1) := by decide +kernel
theorem dX6_tick_31 : decode cX6_tick 31 = .ok (.iadd, 1) := by decide +kernel
theorem dX6_tick_32 : decode cX6_tick 32 = .ok (.istore 4, 2) := by decide +kernel
theorem dX6_tick_34 : decode cX6_tick 34 = .ok (.aload_n 0, 1) := by decide +kernel
theorem dX6_tick_35 : decode cX6_tick 35 = .ok (.getfield 29, 3) := by decide +kernel
theorem dX6_tick_38 : decode cX6_tick 38 = .ok (.iload 4, 2) := by decide +kernel
theorem dX6_tick_40 : decode cX6_tick 40 = .ok (.iaload, 1) := by decide +kernel
theorem dX6_tick_41 : decode cX6_tick 41 = .ok (.istore 5, 2) := by decide +kernel
theorem dX6_tick_43 : decode cX6_tick 43 = .ok (.aload_n 0, 1) := by decide +kernel
theorem dX6_tick_44 : decode cX6_tick 44 = .ok (.getfield 29, 3) := by decide +kernel
theorem dX6_tick_47 : decode cX6_tick 47 = .ok (.iload 4, 2) := by decide +kernel
theorem dX6_tick_49 : decode cX6_tick 49 = .ok (.iconst 0, 1) := by decide +kernel
theorem dX6_tick_50 : decode cX6_tick 50 = .ok (.iastore, 1) := by decide +kernel
theorem dX6_tick_51 : decode cX6_tick 51 = .ok (.aload_n 0, 1) := by decide +kernel
theorem dX6_tick_52 : decode cX6_tick 52 = .ok (.getfield 32, 3) := by decide +kernel
theorem dX6_tick_55 : decode cX6_tick 55 = .ok (.iload_n 3, 1) := by decide +kernel
theorem dX6_tick_56 : decode cX6_tick 56 = .ok (.iconst 0, 1) := by decide +kernel
theorem dX6_tick_57 : decode cX6_tick 57 = .ok (.bastore, 1) := by decide +kernel
theorem dX6_tick_58 : decode cX6_tick 58 = .ok (.aload_n 0, 1) := by decide +kernel
theorem dX6_tick_59 : decode cX6_tick 59 = .ok (.getfield 15, 3) := by decide +kernel
theorem dX6_tick_62 : decode cX6_tick 62 = .ok (.iload_n 3, 1) := by decide +kernel
theorem dX6_tick_63 : decode cX6_tick 63 = .ok (.baload, 1) := by decide +kernel
theorem dX6_tick_64 : decode cX6_tick 64 = .ok (.ifCond .eq 162, 3) := by decide +kernel
theorem dX6_tick_67 : decode cX6_tick 67 = .ok (.iconst 4, 1) := by decide +kernel
theorem dX6_tick_68 : decode cX6_tick 68 = .ok (.aload_n 0, 1) := by decide +kernel
theorem dX6_tick_69 : decode cX6_tick 69 = .ok (.getfield 23, 3) := by decide +kernel
theorem dX6_tick_72 : decode cX6_tick 72 = .ok (.iload_n 3, 1) := by decide +kernel
theorem dX6_tick_73 : decode cX6_tick 73 = .ok (.iaload, 1) := by decide +kernel
theorem dX6_tick_74 : decode cX6_tick 74 = .ok (.imul, 1) := by decide +kernel
theorem dX6_tick_75 : decode cX6_tick 75 = .ok (.aload_n 0, 1) := by decide +kernel
theorem dX6_tick_76 : decode cX6_tick 76 = .ok (.getfield 19, 3) := by decide +kernel
theorem dX6_tick_79 : decode cX6_tick 79 = .ok (.iload_n 3, 1) := by decide +kernel
theorem dX6_tick_80 : decode cX6_tick 80 = .ok (.iaload, 1) := by decide +kernel
theorem dX6_tick_81 : decode cX6_tick 81 = .ok (.idiv, 1) := by decide +kernel
theorem dX6_tick_82 : decode cX6_tick 82 = .ok (.istore 6, 2) := by decide +kernel
theorem dX6_tick_84 : decode cX6_tick 84 = .ok (.aload_n 0, 1) := by decide +kernel
theorem dX6_tick_85 : decode cX6_tick 85 = .ok (.getfield 23, 3) := by decide +kernel
theorem dX6_tick_88 : decode cX6_tick 88 = .ok (.iload_n 3, 1) := by decide +kernel
theorem dX6_tick_89 : decode cX6_tick 89 = .ok (.iaload, 1) := by decide +kernel
theorem dX6_tick_90 : decode cX6_tick 90 = .ok (.aload_n 0, 1) := by decide +kernel
theorem dX6_tick_91 : decode cX6_tick 91 = .ok (.getfield 26, 3) := by decide +kernel
theorem dX6_tick_94 : decode cX6_tick 94 = .ok (.iload_n 3, 1) := by decide +kernel
theorem dX6_tick_95 : decode cX6_tick 95 = .ok (.iaload, 1) := by decide +kernel
theorem dX6_tick_96 : decode cX6_tick 96 = .ok (.if_icmp .ge 7, 3) := by decide +kernel
theorem dX6_tick_99 : decode cX6_tick 99 = .ok (.iconst 0, 1) := by decide +kernel
theorem dX6_tick_100 : decode cX6_tick 100 = .ok (.goto 18, 3) := by decide +kernel
theorem dX6_tick_103 : decode cX6_tick 103 = .ok (.aload_n 0, 1) := by decide +kernel
theorem dX6_tick_104 : decode cX6_tick 104 = .ok (.getfield 3, 3) := by decide +kernel
theorem dX6_tick_107 : decode cX6_tick 107 = .ok (.getfield 53, 3) := by decide +kernel
theorem dX6_tick_110 : decode cX6_tick 110 = .ok (.iload_n 3, 1) := by decide +kernel
theorem dX6_tick_111 : decode cX6_tick 111 = .ok (.aaload, 1) := by decide +kernel
theorem dX6_tick_112 : decode cX6_tick 112 = .ok (.iload 6, 2) := by decide +kernel
theorem dX6_tick_114 : decode cX6_tick 114 = .ok (.iaload, 1) := by decide +kernel
theorem dX6_tick_115 : decode cX6_tick 115 = .ok (.iload 5, 2) := by decide +kernel
theorem dX6_tick_117 : decode cX6_tick 117 = .ok (.imul, 1) := by decide +kernel
theorem dX6_tick_118 : decode cX6_tick 118 = .ok (.istore 7, 2) := by decide +kernel
theorem dX6_tick_120 : decode cX6_tick 120 = .ok (.aload_n 0, 1) := by decide +kernel
theorem dX6_tick_121 : decode cX6_tick 121 = .ok (.getfield 23, 3) := by decide +kernel
theorem dX6_tick_124 : decode cX6_tick 124 = .ok (.iload_n 3, 1) := by decide +kernel
theorem dX6_tick_125 : decode cX6_tick 125 = .ok (.iconst 0, 1) := by decide +kernel
theorem dX6_tick_126 : decode cX6_tick 126 = .ok (.aload_n 0, 1) := by decide +kernel
theorem dX6_tick_127 : decode cX6_tick 127 = .ok (.getfield 23, 3) := by decide +kernel
theorem dX6_tick_130 : decode cX6_tick 130 = .ok (.iload_n 3, 1) := by decide +kernel
theorem dX6_tick_131 : decode cX6_tick 131 = .ok (.iaload, 1) := by decide +kernel
theorem dX6_tick_132 : decode cX6_tick 132 = .ok (.iload 7, 2) := by decide +kernel
theorem dX6_tick_134 : decode cX6_tick 134 = .ok (.iadd, 1) := by decide +kernel
theorem dX6_tick_135 : decode cX6_tick 135 = .ok (.invokestatic 57, 3) := by decide +kernel
theorem dX6_tick_138 : decode cX6_tick 138 = .ok (.iconst 1, 1) := by decide +kernel
theorem dX6_tick_139 : decode cX6_tick 139 = .ok (.iadd, 1) := by decide +kernel
theorem dX6_tick_140 : decode cX6_tick 140 = .ok (.iload_n 1, 1) := by decide +kernel
theorem dX6_tick_141 : decode cX6_tick 141 = .ok (.ifCond .le 14, 3) := by decide +kernel
theorem dX6_tick_144 : decode cX6_tick 144 = .ok (.aload_n 0, 1) := by decide +kernel
theorem dX6_tick_145 : decode cX6_tick 145 = .ok (.getfield 3, 3) := by decide +kernel
theorem dX6_tick_148 : decode cX6_tick 148 = .ok (.iload_n 1, 1) := by decide +kernel
theorem dX6_tick_149 : decode cX6_tick 149 = .ok (.invokevirtual 60, 3) := by decide +kernel
theorem dX6_tick_152 : decode cX6_tick 152 = .ok (.goto 4, 3) := by decide +kernel
theorem dX6_tick_155 : decode cX6_tick 155 = .ok (.iconst 0, 1) := by decide +kernel
theorem dX6_tick_156 : decode cX6_tick 156 = .ok (.iadd, 1) := by decide +kernel
theorem dX6_tick_157 : decode cX6_tick 157 = .ok (.iastore, 1) := by decide +kernel
theorem dX6_tick_158 : decode cX6_tick 158 = .ok (.aload_n 0, 1) := by decide +kernel
theorem dX6_tick_159 : decode cX6_tick 159 = .ok (.getfield 32, 3) := by decide +kernel
theorem dX6_tick_162 : decode cX6_tick 162 = .ok (.iload_n 3, 1) := by decide +kernel
theorem dX6_tick_163 : decode cX6_tick 163 = .ok (.aload_n 0, 1) := by decide +kernel
theorem dX6_tick_164 : decode cX6_tick 164 = .ok (.getfield 23, 3) := by decide +kernel
theorem dX6_tick_167 : decode cX6_tick 167 = .ok (.iload_n 3, 1) := by decide +kernel
theorem dX6_tick_168 : decode cX6_tick 168 = .ok (.iaload, 1) := by decide +kernel
theorem dX6_tick_169 : decode cX6_tick 169 = .ok (.aload_n 0, 1) := by decide +kernel
theorem dX6_tick_170 : decode cX6_tick 170 = .ok (.getfield 19, 3) := by decide +kernel
theorem dX6_tick_173 : decode cX6_tick 173 = .ok (.iload_n 3, 1) := by decide +kernel
theorem dX6_tick_174 : decode cX6_tick 174 = .ok (.iaload, 1) := by decide +kernel
theorem dX6_tick_175 : decode cX6_tick 175 = .ok (.if_icmp .lt 7, 3) := by decide +kernel
theorem dX6_tick_178 : decode cX6_tick 178 = .ok (.iconst 1, 1) := by decide +kernel
theorem dX6_tick_179 : decode cX6_tick 179 = .ok (.goto 4, 3) := by decide +kernel
theorem dX6_tick_182 : decode cX6_tick 182 = .ok (.iconst 0, 1) := by decide +kernel
theorem dX6_tick_183 : decode cX6_tick 183 = .ok (.bastore, 1) := by decide +kernel
theorem dX6_tick_184 : decode cX6_tick 184 = .ok (.aload_n 0, 1) := by decide +kernel
theorem dX6_tick_185 : decode cX6_tick 185 = .ok (.getfield 23, 3) := by decide +kernel
theorem dX6_tick_188 : decode cX6_tick 188 = .ok (.iload_n 3, 1) := by decide +kernel
theorem dX6_tick_189 : decode cX6_tick 189 = .ok (.aload_n 0, 1) := by decide +kernel
theorem dX6_tick_190 : decode cX6_tick 190 = .ok (.getfield 32, 3) := by decide +kernel
theorem dX6_tick_193 : decode cX6_tick 193 = .ok (.iload_n 3, 1) := by decide +kernel
theorem dX6_tick_194 : decode cX6_tick 194 = .ok (.baload, 1) := by decide +kernel
theorem dX6_tick_195 : decode cX6_tick 195 = .ok (.ifCond .eq 7, 3) := by decide +kernel
theorem dX6_tick_198 : decode cX6_tick 198 = .ok (.iconst 0, 1) := by decide +kernel
theorem dX6_tick_199 : decode cX6_tick 199 = .ok (.goto 9, 3) := by decide +kernel
theorem dX6_tick_202 : decode cX6_tick 202 = .ok (.aload_n 0, 1) := by decide +kernel
theorem dX6_tick_203 : decode cX6_tick 203 = .ok (.getfield 23, 3) := by decide +kernel
theorem dX6_tick_206 : decode cX6_tick 206 = .ok (.iload_n 3, 1) := by decide +kernel
theorem dX6_tick_207 : decode cX6_tick 207 = .ok (.iaload, 1) := by decide +kernel
theorem dX6_tick_208 : decode cX6_tick 208 = .ok (.iastore, 1) := by decide +kernel
theorem dX6_tick_209 : decode cX6_tick 209 = .ok (.iload_n 2, 1) := by decide +kernel
theorem dX6_tick_210 : decode cX6_tick 210 = .ok (.aload_n 0, 1) := by decide +kernel
theorem dX6_tick_211 : decode cX6_tick 211 = .ok (.getfield 32, 3) := by decide +kernel
theorem dX6_tick_214 : decode cX6_tick 214 = .ok (.iload_n 3, 1) := by decide +kernel
theorem dX6_tick_215 : decode cX6_tick 215 = .ok (.baload, 1) := by decide +kernel
theorem dX6_tick_216 : decode cX6_tick 216 = .ok (.ifCond .eq 7, 3) := by decide +kernel
theorem dX6_tick_219 : decode cX6_tick 219 = .ok (.iconst 1, 1) := by decide +kernel
theorem dX6_tick_220 : decode cX6_tick 220 = .ok (.goto 4, 3) := by decide +kernel
theorem dX6_tick_223 : decode cX6_tick 223 = .ok (.iconst 0, 1) := by decide +kernel
theorem dX6_tick_224 : decode cX6_tick 224 = .ok (.iadd, 1) := by decide +kernel
theorem dX6_tick_225 : decode cX6_tick 225 = .ok (.istore_n 2, 1) := by decide +kernel
theorem dX6_tick_226 : decode cX6_tick 226 = .ok (.iinc 3 1, 3) := by decide +kernel
theorem dX6_tick_229 : decode cX6_tick 229 = .ok (.goto (-215), 3) := by decide +kernel
theorem dX6_tick_232 : decode cX6_tick 232 = .ok (.iconst 0, 1) := by decide +kernel
theorem dX6_tick_233 : decode cX6_tick 233 = .ok (.istore_n 3, 1) := by decide +kernel
theorem dX6_tick_234 : decode cX6_tick 234 = .ok (.iload_n 3, 1) := by decide +kernel
theorem dX6_tick_235 : decode cX6_tick 235 = .ok (.aload_n 0, 1) := by decide +kernel
theorem dX6_tick_236 : decode cX6_tick 236 = .ok (.getfield 3, 3) := by decide +kernel
theorem dX6_tick_239 : decode cX6_tick 239 = .ok (.getfield 64, 3) := by decide +kernel
theorem dX6_tick_242 : decode cX6_tick 242 = .ok (.invokevirtual 68, 3) := by decide +kernel
theorem dX6_tick_245 : decode cX6_tick 245 = .ok (.if_icmp .ge 73, 3) := by decide +kernel
theorem dX6_tick_248 : decode cX6_tick 248 = .ok (.aload_n 0, 1) := by decide +kernel
theorem dX6_tick_249 : decode cX6_tick 249 = .ok (.getfield 3, 3) := by decide +kernel
theorem dX6_tick_252 : decode cX6_tick 252 = .ok (.getfield 64, 3) := by decide +kernel
theorem dX6_tick_255 : decode cX6_tick 255 = .ok (.iload_n 3, 1) := by decide +kernel
theorem dX6_tick_256 : decode cX6_tick 256 = .ok (.invokevirtual 74, 3) := by decide +kernel
theorem dX6_tick_259 : decode cX6_tick 259 = .ok (.checkcast 78, 3) := by decide +kernel
theorem dX6_tick_262 : decode cX6_tick 262 = .ok (.astore 4, 2) := by decide +kernel
theorem dX6_tick_264 : decode cX6_tick 264 = .ok (.aload_n 0, 1) := by decide +kernel
theorem dX6_tick_265 : decode cX6_tick 265 = .ok (.getfield 32, 3) := by decide +kernel
theorem dX6_tick_268 : decode cX6_tick 268 = .ok (.aload 4, 2) := by decide +kernel
theorem dX6_tick_270 : decode cX6_tick 270 = .ok (.getfield 80, 3) := by decide +kernel
theorem dX6_tick_273 : decode cX6_tick 273 = .ok (.baload, 1) := by decide +kernel
theorem dX6_tick_274 : decode cX6_tick 274 = .ok (.ifCond .eq 38, 3) := by decide +kernel
theorem dX6_tick_277 : decode cX6_tick 277 = .ok (.aload_n 0, 1) := by decide +kernel
theorem dX6_tick_278 : decode cX6_tick 278 = .ok (.getfield 29, 3) := by decide +kernel
theorem dX6_tick_281 : decode cX6_tick 281 = .ok (.aload 4, 2) := by decide +kernel
theorem dX6_tick_283 : decode cX6_tick 283 = .ok (.getfield 83, 3) := by decide +kernel
theorem dX6_tick_286 : decode cX6_tick 286 = .ok (.bipush 31, 2) := by decide +kernel
theorem dX6_tick_288 : decode cX6_tick 288 = .ok (.imul, 1) := by decide +kernel
theorem dX6_tick_289 : decode cX6_tick 289 = .ok (.aload_n 0, 1) := by decide +kernel
theorem dX6_tick_290 : decode cX6_tick 290 = .ok (.getfield 35, 3) := by decide +kernel
theorem dX6_tick_293 : decode cX6_tick 293 = .ok (.aload 4, 2) := by decide +kernel
theorem dX6_tick_295 : decode cX6_tick 295 = .ok (.getfield 86, 3) := by decide +kernel
theorem dX6_tick_298 : decode cX6_tick 298 = .ok (.iadd, 1) := by decide +kernel
theorem dX6_tick_299 : decode cX6_tick 299 = .ok (.bipush 31, 2) := by decide +kernel
theorem dX6_tick_301 : decode cX6_tick 301 = .ok (.irem, 1) := by decide +kernel
theorem dX6_tick_302 : decode cX6_tick 302 = .ok (.iadd, 1) := by decide +kernel
theorem dX6_tick_303 : decode cX6_tick 303 = .ok (.dup2, 1) := by decide +kernel
theorem dX6_tick_304 : decode cX6_tick 304 = .ok (.iaload, 1) := by decide +kernel
theorem dX6_tick_305 : decode cX6_tick 305 = .ok (.aload 4, 2) := by decide +kernel
theorem dX6_tick_307 : decode cX6_tick 307 = .ok (.getfield 89, 3) := by decide +kernel
theorem dX6_tick_310 : decode cX6_tick 310 = .ok (.iadd, 1) := by decide +kernel
theorem dX6_tick_311 : decode cX6_tick 311 = .ok (.iastore, 1) := by decide +kernel
theorem dX6_tick_312 : decode cX6_tick 312 = .ok (.iinc 3 1, 3) := by decide +kernel
theorem dX6_tick_315 : decode cX6_tick 315 = .ok (.goto (-81), 3) := by decide +kernel
theorem dX6_tick_318 : decode cX6_tick 318 = .ok (.iload_n 2, 1) := by decide +kernel
theorem dX6_tick_319 : decode cX6_tick 319 = .ok (.ireturn, 1) := by decide +kernel
theorem dX6_isLike_0 : decode cX6_isLike 0 = .ok (.iconst 1, 1) := by decide +kernel
theorem dX6_isLike_1 : decode cX6_isLike 1 = .ok (.istore_n 2, 1) := by decide +kernel
theorem dX6_isLike_2 : decode cX6_isLike 2 = .ok (.iconst 0, 1) := by decide +kernel
theorem dX6_isLike_3 : decode cX6_isLike 3 = .ok (.istore_n 3, 1) := by decide +kernel
theorem dX6_isLike_4 : decode cX6_isLike 4 = .ok (.iload_n 3, 1) := by decide +kernel
theorem dX6_isLike_5 : decode cX6_isLike 5 = .ok (.bipush 16, 2) := by decide +kernel
theorem dX6_isLike_7 : decode cX6_isLike 7 = .ok (.if_icmp .ge 43, 3) := by decide +kernel
theorem dX6_isLike_10 : decode cX6_isLike 10 = .ok (.iload_n 2, 1) := by decide +kernel
theorem dX6_isLike_11 : decode cX6_isLike 11 = .ok (.ifCond .eq 39, 3) := by decide +kernel
theorem dX6_isLike_14 : decode cX6_isLike 14 = .ok (.aload_n 0, 1) := by decide +kernel
theorem dX6_isLike_15 : decode cX6_isLike 15 = .ok (.getfield 15, 3) := by decide +kernel
theorem dX6_isLike_18 : decode cX6_isLike 18 = .ok (.iload_n 3, 1) := by decide +kernel
theorem dX6_isLike_19 : decode cX6_isLike 19 = .ok (.baload, 1) := by decide +kernel
theorem dX6_isLike_20 : decode cX6_isLike 20 = .ok (.ifCond .eq 18, 3) := by decide +kernel
theorem dX6_isLike_23 : decode cX6_isLike 23 = .ok (.aload_n 0, 1) := by decide +kernel
theorem dX6_isLike_24 : decode cX6_isLike 24 = .ok (.getfield 23, 3) := by decide +kernel
theorem dX6_isLike_27 : decode cX6_isLike 27 = .ok (.iload_n 3, 1) := by decide +kernel
theorem dX6_isLike_28 : decode cX6_isLike 28 = .ok (.iaload, 1) := by decide +kernel
theorem dX6_isLike_29 : decode cX6_isLike 29 = .ok (.aload_n 1, 1) := by decide +kernel
theorem dX6_isLike_30 : decode cX6_isLike 30 = .ok (.getfield 23, 3) := by decide +kernel
theorem dX6_isLike_33 : decode cX6_isLike 33 = .ok (.iload_n 3, 1) := by decide +kernel
theorem dX6_isLike_34 : decode cX6_isLike 34 = .ok (.iaload, 1) := by decide +kernel
theorem dX6_isLike_35 : decode cX6_isLike 35 = .ok (.if_icmp .ne 7, 3) := by decide +kernel
theorem dX6_isLike_38 : decode cX6_isLike 38 = .ok (.iconst 1, 1) := by decide +kernel
theorem dX6_isLike_39 : decode cX6_isLike 39 = .ok (.goto 4, 3) := by decide +kernel
theorem dX6_isLike_42 : decode cX6_isLike 42 = .ok (.iconst 0, 1) := by decide +kernel
theorem dX6_isLike_43 : decode cX6_isLike 43 = .ok (.istore_n 2, 1) := by decide +kernel
theorem dX6_isLike_44 : decode cX6_isLike 44 = .ok (.iinc 3 1, 3) := by decide +kernel
theorem dX6_isLike_47 : decode cX6_isLike 47 = .ok (.goto (-43), 3) := by decide +kernel
theorem dX6_isLike_50 : decode cX6_isLike 50 = .ok (.iconst 0, 1) := by decide +kernel
theorem dX6_isLike_51 : decode cX6_isLike 51 = .ok (.istore_n 3, 1) := by decide +kernel
theorem dX6_isLike_52 : decode cX6_isLike 52 = .ok (.iload_n 3, 1) := by decide +kernel
theorem dX6_isLike_53 : decode cX6_isLike 53 = .ok (.bipush 16, 2) := by decide +kernel
theorem dX6_isLike_55 : decode cX6_isLike 55 = .ok (.if_icmp .ge 91, 3) := by decide +kernel
theorem dX6_isLike_58 : decode cX6_isLike 58 = .ok (.iload_n 2, 1) := by decide +kernel
theorem dX6_isLike_59 : decode cX6_isLike 59 = .ok (.ifCond .eq 87, 3) := by decide +kernel
theorem dX6_isLike_62 : decode cX6_isLike 62 = .ok (.iconst 1, 1) := by decide +kernel
theorem dX6_isLike_63 : decode cX6_isLike 63 = .ok (.istore 4, 2) := by decide +kernel
theorem dX6_isLike_65 : decode cX6_isLike 65 = .ok (.iload 4, 2) := by decide +kernel
theorem dX6_isLike_67 : decode cX6_isLike 67 = .ok (.bipush 31, 2) := by decide +kernel
theorem dX6_isLike_69 : decode cX6_isLike 69 = .ok (.if_icmp .ge 71, 3) := by decide +kernel
theorem dX6_isLike_72 : decode cX6_isLike 72 = .ok (.iload_n 2, 1) := by decide +kernel
theorem dX6_isLike_73 : decode cX6_isLike 73 = .ok (.ifCond .eq 67, 3) := by decide +kernel
theorem dX6_isLike_76 : decode cX6_isLike 76 = .ok (.aload_n 0, 1) := by decide +kernel
theorem dX6_isLike_77 : decode cX6_isLike 77 = .ok (.getfield 15, 3) := by decide +kernel
theorem dX6_isLike_80 : decode cX6_isLike 80 = .ok (.iload_n 3, 1) := by decide +kernel
theorem dX6_isLike_81 : decode cX6_isLike 81 = .ok (.baload, 1) := by decide +kernel
theorem dX6_isLike_82 : decode cX6_isLike 82 = .ok (.ifCond .eq 58, 3) := by decide +kernel
theorem dX6_isLike_85 : decode cX6_isLike 85 = .ok (.aload_n 0, 1) := by decide +kernel
theorem dX6_isLike_86 : decode cX6_isLike 86 = .ok (.getfield 29, 3) := by decide +kernel
theorem dX6_isLike_89 : decode cX6_isLike 89 = .ok (.iload_n 3, 1) := by decide +kernel
theorem dX6_isLike_90 : decode cX6_isLike 90 = .ok (.bipush 31, 2) := by decide +kernel
theorem dX6_isLike_92 : decode cX6_isLike 92 = .ok (.imul, 1) := by decide +kernel
theorem dX6_isLike_93 : decode cX6_isLike 93 = .ok (.aload_n 0, 1) := by decide +kernel
theorem dX6_isLike_94 : decode cX6_isLike 94 = .ok (.getfield 35, 3) := by decide +kernel
theorem dX6_isLike_97 : decode cX6_isLike 97 = .ok (.iload 4, 2) := by decide +kernel
theorem dX6_isLike_99 : decode cX6_isLike 99 = .ok (.iadd, 1) := by decide +kernel
theorem dX6_isLike_100 : decode cX6_isLike 100 = .ok (.bipush 31, 2) := by decide +kernel
theorem dX6_isLike_102 : decode cX6_isLike 102 = .ok (.irem, 1) := by decide +kernel
theorem dX6_isLike_103 : decode cX6_isLike 103 = .ok (.iadd, 1) := by decide +kernel
theorem dX6_isLike_104 : decode cX6_isLike 104 = .ok (.iaload, 1) := by decide +kernel
theorem dX6_isLike_105 : decode cX6_isLike 105 = .ok (.aload_n 1, 1) := by decide +kernel
theorem dX6_isLike_106 : decode cX6_isLike 106 = .ok (.getfield 29, 3) := by decide +kernel
theorem dX6_isLike_109 : decode cX6_isLike 109 = .ok (.iload_n 3, 1) := by decide +kernel
theorem dX6_isLike_110 : decode cX6_isLike 110 = .ok (.bipush 31, 2) := by decide +kernel
theorem dX6_isLike_112 : decode cX6_isLike 112 = .ok (.imul, 1) := by decide +kernel
theorem dX6_isLike_113 : decode cX6_isLike 113 = .ok (.aload_n 1, 1) := by decide +kernel
theorem dX6_isLike_114 : decode cX6_isLike 114 = .ok (.getfield 35, 3) := by decide +kernel
theorem dX6_isLike_117 : decode cX6_isLike 117 = .ok (.iload 4, 2) := by decide +kernel
theorem dX6_isLike_119 : decode cX6_isLike 119 = .ok (.iadd, 1) := by decide +kernel
theorem dX6_isLike_120 : decode cX6_isLike 120 = .ok (.bipush 31, 2) := by decide +kernel
theorem dX6_isLike_122 : decode cX6_isLike 122 = .ok (.irem, 1) := by decide +kernel
theorem dX6_isLike_123 : decode cX6_isLike 123 = .ok (.iadd, 1) := by decide +kernel
theorem dX6_isLike_124 : decode cX6_isLike 124 = .ok (.iaload, 1) := by decide +kernel
theorem dX6_isLike_125 : decode cX6_isLike 125 = .ok (.if_icmp .ne 7, 3) := by decide +kernel
theorem dX6_isLike_128 : decode cX6_isLike 128 = .ok (.iconst 1, 1) := by decide +kernel
theorem dX6_isLike_129 : decode cX6_isLike 129 = .ok (.goto 4, 3) := by decide +kernel
theorem dX6_isLike_132 : decode cX6_isLike 132 = .ok (.iconst 0, 1) := by decide +kernel
theorem dX6_isLike_133 : decode cX6_isLike 133 = .ok (.istore_n 2, 1) := by decide +kernel
theorem dX6_isLike_134 : decode cX6_isLike 134 = .ok (.iinc 4 1, 3) := by decide +kernel
theorem dX6_isLike_137 : decode cX6_isLike 137 = .ok (.goto (-72), 3) := by decide +kernel
theorem dX6_isLike_140 : decode cX6_isLike 140 = .ok (.iinc 3 1, 3) := by decide +kernel
theorem dX6_isLike_143 : decode cX6_isLike 143 = .ok (.goto (-91), 3) := by decide +kernel
theorem dX6_isLike_146 : decode cX6_isLike 146 = .ok (.iload_n 2, 1) := by decide +kernel
theorem dX6_isLike_147 : decode cX6_isLike 147 = .ok (.ireturn, 1) := by decide +kernel
theorem dX7_init_0 : decode cX7_init 0 = .ok (.aload_n 0, 1) := by decide +kernel
theorem dX7_init_1 : decode cX7_init 1 = .ok (.invokespecial 1, 3) := by decide +kernel
theorem dX7_init_4 : decode cX7_init 4 = .ok (.aload_n 0, 1) := by decide +kernel
theorem dX7_init_5 : decode cX7_init 5 = .ok (.iload_n 1, 1) := by decide +kernel
theorem dX7_init_6 : decode cX7_init 6 = .ok (.putfield 7, 3) := by decide +kernel
theorem dX7_init_9 : decode cX7_init 9 = .ok (.aload_n 0, 1) := by decide +kernel
theorem dX7_init_10 : decode cX7_init 10 = .ok (.iload_n 2, 1) := by decide +kernel
theorem dX7_init_11 : decode cX7_init 11 = .ok (.putfield 13, 3) := by decide +kernel
theorem dX7_init_14 : decode cX7_init 14 = .ok (.aload_n 0, 1) := by decide +kernel
theorem dX7_init_15 : decode cX7_init 15 = .ok (.iload_n 3, 1) := by decide +kernel
theorem dX7_init_16 : decode cX7_init 16 = .ok (.putfield 16, 3) := by decide +kernel
theorem dX7_init_19 : decode cX7_init 19 = .ok (.aload_n 0, 1) := by decide +kernel
theorem dX7_init_20 : decode cX7_init 20 = .ok (.iload 4, 2) := by decide +kernel
theorem dX7_init_22 : decode cX7_init 22 = .ok (.putfield 19, 3) := by decide +kernel
theorem dX7_init_25 : decode cX7_init 25 = .ok (.return_, 1) := by decide +kernel
theorem dX8_in_0 : decode cX8_in 0 = .ok (.lload_n 0, 1) := by decide +kernel
theorem dX8_in_1 : decode cX8_in 1 = .ok (.lload_n 2, 1) := by decide +kernel
theorem dX8_in_2 : decode cX8_in 2 = .ok (.lcmp, 1) := by decide +kernel
theorem dX8_in_3 : decode cX8_in 3 = .ok (.ifCond .lt 14, 3) := by decide +kernel
theorem dX8_in_6 : decode cX8_in 6 = .ok (.lload_n 0, 1) := by decide +kernel
theorem dX8_in_7 : decode cX8_in 7 = .ok (.lload 4, 2) := by decide +kernel
theorem dX8_in_9 : decode cX8_in 9 = .ok (.lcmp, 1) := by decide +kernel
theorem dX8_in_10 : decode cX8_in 10 = .ok (.ifCond .gt 7, 3) := by decide +kernel
theorem dX8_in_13 : decode cX8_in 13 = .ok (.iconst 1, 1) := by decide +kernel
theorem dX8_in_14 : decode cX8_in 14 = .ok (.goto 4, 3) := by decide +kernel
theorem dX8_in_17 : decode cX8_in 17 = .ok (.iconst 0, 1) := by decide +kernel
theorem dX8_in_18 : decode cX8_in 18 = .ok (.ireturn, 1) := by decide +kernel
set_option maxRecDepth 20000 in
theorem ggX8_init_Jx4a65c_init_da8c8 : GoodIn wsX8_init wsJx4a65c_init_da8c8 := goodIn_r _ [34, 35, 36, 37, 38, 39, 40, 41, 42, 43, 44, 45, 46, 2, 3, 78, 79, 80] (by decide +kernel) (by decide +kernel)
set_option maxRecDepth 20000 in
theorem gX8_init_Jx4a65c_init_da8c8 : GoodIn wsX8_init (wsJx4a65c_init_da8c8) := ggX8_init_Jx4a65c_init_da8c8
set_option maxRecDepth 20000 in
theorem ggX8_init_X6_init : GoodIn wsX8_init wsX6_init := goodIn_r _ [48, 49, 50, 2, 3, 23, 51, 5, 52, 53, 54, 55, 56, 81, 82, 83, 84, 85, 86, 87, 88] (by decide +kernel) (by decide +kernel)
set_option maxRecDepth 20000 in
theorem gX8_init_X6_init_n23 : GoodIn wsX8_init (wsX6_init) := ggX8_init_X6_init
theorem dX8_init_0 : decode cX8_init 0 = .ok (.aload_n 0, 1) := by decide +kernel
theorem dX8_init_1 : decode cX8_init 1 = .ok (.invokespecial 1, 3) := by decide +kernel
theorem dX8_init_4 : decode cX8_init 4 = .ok (.aload_n 0, 1) := by decide +kernel
theorem dX8_init_5 : decode cX8_init 5 = .ok (.bipush 16, 2) := by decide +kernel
theorem dX8_init_7 : decode cX8_init 7 = .ok (.iconst 4, 1) := by decide +kernel
theorem dX8_init_8 : decode cX8_init 8 = .ok (.multianewarray 9 2, 4) := by decide +kernel
theorem dX8_init_12 : decode cX8_init 12 = .ok (.putfield 11, 3) := by decide +kernel
theorem dX8_init_15 : decode cX8_init 15 = .ok (.aload_n 0, 1) := by decide +kernel
theorem dX8_init_16 : decode cX8_init 16 = .ok (.new 14, 3) := by decide +kernel
theorem dX8_init_19 : decode cX8_init 19 = .ok (.dup, 1) := by decide +kernel
theorem dX8_init_20 : decode cX8_init 20 = .ok (.invokespecial 16, 3) := by decide +kernel
theorem dX8_init_23 : decode cX8_init 23 = .ok (.putfield 17, 3) := by decide +kernel
theorem dX8_init_26 : decode cX8_init 26 = .ok (.aload_n 0, 1) := by decide +kernel
theorem dX8_init_27 : decode cX8_init 27 = .ok (.new 21, 3) := by decide +kernel
theorem dX8_init_30 : decode cX8_init 30 = .ok (.dup, 1) := by decide +kernel
theorem dX8_init_31 : decode cX8_init 31 = .ok (.aload_n 0, 1) := by decide +kernel
theorem dX8_init_32 : decode cX8_init 32 = .ok (.invokespecial 23, 3) := by decide +kernel
theorem dX8_init_35 : decode cX8_init 35 = .ok (.putfield 26, 3) := by decide +kernel
theorem dX8_init_38 : decode cX8_init 38 = .ok (.aload_n 0, 1) := by decide +kernel
theorem dX8_init_39 : decode cX8_init 39 = .ok (.bipush 16, 2) := by decide +kernel
theorem dX8_init_41 : decode cX8_init 41 = .ok (.newarray .int, 2) := by decide +kernel
theorem dX8_init_43 : decode cX8_init 43 = .ok (.putfield 30, 3) := by decide +kernel
theorem dX8_init_46 : decode cX8_init 46 = .ok (.aload_n 0, 1) := by decide +kernel
theorem dX8_init_47 : decode cX8_init 47 = .ok (.bipush 16, 2) := by decide +kernel
theorem dX8_init_49 : decode cX8_init 49 = .ok (.newarray .int, 2) := by decide +kernel
theorem dX8_init_51 : decode cX8_init 51 = .ok (.putfield 34, 3) := by decide +kernel
theorem dX8_init_54 : decode cX8_init 54 = .ok (.aload_n 0, 1) := by decide +kernel
theorem dX8_init_55 : decode cX8_init 55 = .ok (.lconst 1, 1) := by decide +kernel
theorem dX8_init_56 : decode cX8_init 56 = .ok (.putfield 37, 3) := by decide +kernel
theorem dX8_init_59 : decode cX8_init 59 = .ok (.aload_n 0, 1) := by decide +kernel
theorem dX8_init_60 : decode cX8_init 60 = .ok (.new 21, 3) := by decide +kernel
theorem dX8_init_63 : decode cX8_init 63 = .ok (.dup, 1) := by decide +kernel
theorem dX8_init_64 : decode cX8_init 64 = .ok (.aload_n 0, 1) := by decide +kernel
theorem dX8_init_65 : decode cX8_init 65 = .ok (.invokespecial 23, 3) := by decide +kernel
theorem dX8_init_68 : decode cX8_init 68 = .ok (.putfield 41, 3) := by decide +kernel
theorem dX8_init_71 : decode cX8_init 71 = .ok (.aload_n 0, 1) := by decide +kernel
theorem dX8_init_72 : decode cX8_init 72 = .ok (.new 21, 3) := by decide +kernel
theorem dX8_init_75 : decode cX8_init 75 = .ok (.dup, 1) := by decide +kernel
theorem dX8_init_76 : decode cX8_init 76 = .ok (.aload_n 0, 1) := by decide +kernel
theorem dX8_init_77 : decode cX8_init 77 = .ok (.invokespecial 23, 3) := by decide +kernel
theorem dX8_init_80 : decode cX8_init 80 = .ok (.putfield 44, 3) := by decide +kernel
theorem dX8_init_83 : decode cX8_init 83 = .ok (.aload_n 0, 1) := by decide +kernel
theorem dX8_init_84 : decode cX8_init 84 = .ok (.new 21, 3) := by decide +kernel
theorem dX8_init_87 : decode cX8_init 87 = .ok (.dup, 1) := by decide +kernel
theorem dX8_init_88 : decode cX8_init 88 = .ok (.aload_n 0, 1) := by decide +kernel
theorem dX8_init_89 : decode cX8_init 89 = .ok (.invokespecial 23, 3) := by decide +kernel
theorem dX8_init_92 : decode cX8_init 92 = .ok (.putfield 47, 3) := by decide +kernel
theorem dX8_init_95 : decode cX8_init 95 = .ok (.aload_n 0, 1) := by decide +kernel
theorem dX8_init_96 : decode cX8_init 96 = .ok (.bipush 16, 2) := by decide +kernel
theorem dX8_init_98 : decode cX8_init 98 = .ok (.newarray .int, 2) := by decide +kernel
theorem dX8_init_100 : decode cX8_init 100 = .ok (.putfield 50, 3) := by decide +kernel
theorem dX8_init_103 : decode cX8_init 103 = .ok (.aload_n 0, 1) := by decide +kernel
theorem dX8_init_104 : decode cX8_init 104 = .ok (.bipush 16, 2) := by decide +kernel
theorem dX8_init_106 : decode cX8_init 106 = .ok (.bipush 16, 2) := by decide +kernel
theorem dX8_init_108 : decode cX8_init 108 = .ok (.multianewarray 53 2, 4) := by decide +kernel
theorem dX8_init_112 : decode cX8_init 112 = .ok (.putfield 55, 3) := by decide +kernel
theorem dX8_init_115 : decode cX8_init 115 = .ok (.aload_n 0, 1) := by decide +kernel
theorem dX8_init_116 : decode cX8_init 116 = .ok (.new 14, 3) := by decide +kernel
theorem dX8_init_119 : decode cX8_init 119 = .ok (.dup, 1) := by decide +kernel
theorem dX8_init_120 : decode cX8_init 120 = .ok (.invokespecial 16, 3) := by decide +kernel
theorem dX8_init_123 : decode cX8_init 123 = .ok (.putfield 58, 3) := by decide +kernel
theorem dX8_init_126 : decode cX8_init 126 = .ok (.aload_n 0, 1) := by decide +kernel
theorem dX8_init_127 : decode cX8_init 127 = .ok (.iconst 4, 1) := by decide +kernel
theorem dX8_init_128 : decode cX8_init 128 = .ok (.newarray .boolean, 2) := by decide +kernel
theorem dX8_init_130 : decode cX8_init 130 = .ok (.putfield 61, 3) := by decide +kernel
theorem dX8_init_133 : decode cX8_init 133 = .ok (.aload_n 0, 1) := by decide +kernel
theorem dX8_init_134 : decode cX8_init 134 = .ok (.iconst 4, 1) := by decide +kernel
theorem dX8_init_135 : decode cX8_init 135 = .ok (.newarray .float, 2) := by decide +kernel
theorem dX8_init_137 : decode cX8_init 137 = .ok (.putfield 65, 3) := by decide +kernel
theorem dX8_init_140 : decode cX8_init 140 = .ok (.aload_n 0, 1) := by decide +kernel
theorem dX8_init_141 : decode cX8_init 141 = .ok (.iconst 4, 1) := by decide +kernel
theorem dX8_init_142 : decode cX8_init 142 = .ok (.newarray .float, 2) := by decide +kernel
theorem dX8_init_144 : decode cX8_init 144 = .ok (.putfield 69, 3) := by decide +kernel
theorem dX8_init_147 : decode cX8_init 147 = .ok (.aload_n 0, 1) := by decide +kernel
theorem dX8_init_148 : decode cX8_init 148 = .ok (.bipush 10, 2) := by decide +kernel
theorem dX8_init_150 : decode cX8_init 150 = .ok (.putfield 72, 3) := by decide +kernel
theorem dX8_init_153 : decode cX8_init 153 = .ok (.aload_n 0, 1) := by decide +kernel
theorem dX8_init_154 : decode cX8_init 154 = .ok (.iconst 0, 1) := by decide +kernel
theorem dX8_init_155 : decode cX8_init 155 = .ok (.putfield 76, 3) := by decide +kernel
theorem dX8_init_158 : decode cX8_init 158 = .ok (.return_, 1) := by decide +kernel
theorem dX8_thrown_0 : decode cX8_thrown 0 = .ok (.aload_n 0, 1) := by decide +kernel
theorem dX8_thrown_1 : decode cX8_thrown 1 = .ok (.getfield 76, 3) := by decide +kernel
theorem dX8_thrown_4 : decode cX8_thrown 4 = .ok (.ireturn, 1) := by decide +kernel
theorem dX8_lot_0 : decode cX8_lot 0 = .ok (.aload_n 0, 1) := by decide +kernel
theorem dX8_lot_1 : decode cX8_lot 1 = .ok (.aload_n 0, 1) := by decide +kernel
theorem dX8_lot_2 : decode cX8_lot 2 = .ok (.getfield 37, 3) := by decide +kernel
theorem dX8_lot_5 : decode cX8_lot 5 = .ok (.ldc2_w 79, 3) := by decide +kernel
theorem dX8_lot_8 : decode cX8_lot 8 = .ok (.lmul, 1) := by decide +kernel
theorem dX8_lot_9 : decode cX8_lot 9 = .ok (.ldc2_w 81, 3) := by decide +kernel
theorem dX8_lot_12 : decode cX8_lot 12 = .ok (.lrem, 1) := by decide +kernel
theorem dX8_lot_13 : decode cX8_lot 13 = .ok (.putfield 37, 3) := by decide +kernel
theorem dX8_lot_16 : decode cX8_lot 16 = .ok (.aload_n 0, 1) := by decide +kernel
theorem dX8_lot_17 : decode cX8_lot 17 = .ok (.getfield 37, 3) := by decide +kernel
theorem dX8_lot_20 : decode cX8_lot 20 = .ok (.ldc2_w 83, 3) := by decide +kernel
theorem dX8_lot_23 : decode cX8_lot 23 = .ok (.lrem, 1) := by decide +kernel
theorem dX8_lot_24 : decode cX8_lot 24 = .ok (.iload_n 1, 1) := by decide +kernel
theorem dX8_lot_25 : decode cX8_lot 25 = .ok (.i2l, 1) := by decide +kernel
theorem dX8_lot_26 : decode cX8_lot 26 = .ok (.lcmp, 1) := by decide +kernel
theorem dX8_lot_27 : decode cX8_lot 27 = .ok (.ifCond .ge 7, 3) := by decide +kernel
theorem dX8_lot_30 : decode cX8_lot 30 = .ok (.iconst 1, 1) := by decide +kernel
theorem dX8_lot_31 : decode cX8_lot 31 = .ok (.goto 4, 3) := by decide +kernel
theorem dX8_lot_34 : decode cX8_lot 34 = .ok (.iconst 0, 1) := by decide +kernel
theorem dX8_lot_35 : decode cX8_lot 35 = .ok (.ireturn, 1) := by decide +kernel
set_option maxRecDepth 20000 in
theorem ggX8_isPlace_X8_in : GoodIn wsX8_isPlace wsX8_in := goodIn_r _ [5] (by decide +kernel) (by decide +kernel)
set_option maxRecDepth 20000 in
theorem gX8_isPlace_X8_in : GoodIn wsX8_isPlace (va_wsS RX8 87 yX8_in wsX8_in) := goodIn_app (goodIn_of _ (by decide +kernel)) ggX8_isPlace_X8_in
theorem dX8_isPlace_0 : decode cX8_isPlace 0 = .ok (.iload_n 0, 1) := by decide +kernel
theorem dX8_isPlace_1 : decode cX8_isPlace 1 = .ok (.i2l, 1) := by decide +kernel
theorem dX8_isPlace_2 : decode cX8_isPlace 2 = .ok (.lconst 0, 1) := by decide +kernel
theorem dX8_isPlace_3 : decode cX8_isPlace 3 = .ok (.ldc2_w 85, 3) := by decide +kernel
theorem dX8_isPlace_6 : decode cX8_isPlace 6 = .ok (.invokestatic 87, 3) := by decide +kernel
theorem dX8_isPlace_9 : decode cX8_isPlace 9 = .ok (.ireturn, 1) := by decide +kernel
set_option maxRecDepth 20000 in
theorem ggX8_beater_X8_in : GoodIn wsX8_beater wsX8_in := goodIn_r _ [11] (by decide +kernel) (by decide +kernel)
set_option maxRecDepth 20000 in
theorem gX8_beater_X8_in : GoodIn wsX8_beater (va_wsS RX8 87 yX8_in wsX8_in) := goodIn_app (goodIn_of _ (by decide +kernel)) ggX8_beater_X8_in
set_option maxRecDepth 20000 in
theorem ggX8_beater_X8_isPlace : GoodIn wsX8_beater wsX8_isPlace := goodIn_r _ [14, 15, 8, 9, 10, 11] (by decide +kernel) (by decide +kernel)
set_option maxRecDepth 20000 in
theorem gX8_beater_X8_isPlace : GoodIn wsX8_beater (va_wsS RX8 95 yX8_isPlace wsX8_isPlace) := goodIn_app (goodIn_of _ (by decide +kernel)) ggX8_beater_X8_isPlace
theorem dX8_beater_0 : decode cX8_beater 0 = .ok (.iload_n 2, 1) := by decide +kernel
theorem dX8_beater_1 : decode cX8_beater 1 = .ok (.i2l, 1) := by decide +kernel
theorem dX8_beater_2 : decode cX8_beater 2 = .ok (.ldc2_w 91, 3) := by decide +kernel
theorem dX8_beater_5 : decode cX8_beater 5 = .ok (.ldc2_w 93, 3) := by decide +kernel
theorem dX8_beater_8 : decode cX8_beater 8 = .ok (.invokestatic 87, 3) := by decide +kernel
theorem dX8_beater_11 : decode cX8_beater 11 = .ok (.ifCond .eq 34, 3) := by decide +kernel
theorem dX8_beater_14 : decode cX8_beater 14 = .ok (.iload_n 3, 1) := by decide +kernel
theorem dX8_beater_15 : decode cX8_beater 15 = .ok (.i2l, 1) := by decide +kernel
theorem dX8_beater_16 : decode cX8_beater 16 = .ok (.lconst 0, 1) := by decide +kernel
theorem dX8_beater_17 : decode cX8_beater 17 = .ok (.iload_n 2, 1) := by decide +kernel
theorem dX8_beater_18 : decode cX8_beater 18 = .ok (.iconst 1, 1) := by decide +kernel
theorem dX8_beater_19 : decode cX8_beater 19 = .ok (.isub, 1) := by decide +kernel
theorem dX8_beater_20 : decode cX8_beater 20 = .ok (.i2l, 1) := by decide +kernel
theorem dX8_beater_21 : decode cX8_beater 21 = .ok (.invokestatic 87, 3) := by decide +kernel
theorem dX8_beater_24 : decode cX8_beater 24 = .ok (.ifCond .eq 21, 3) := by decide +kernel
theorem dX8_beater_27 : decode cX8_beater 27 = .ok (.iload 4, 2) := by decide +kernel
theorem dX8_beater_29 : decode cX8_beater 29 = .ok (.i2l, 1) := by decide +kernel
theorem dX8_beater_30 : decode cX8_beater 30 = .ok (.lconst 0, 1) := by decide +kernel
theorem dX8_beater_31 : decode cX8_beater 31 = .ok (.iload_n 2, 1) := by decide +kernel
theorem dX8_beater_32 : decode cX8_beater 32 = .ok (.iconst 1, 1) := by decide +kernel
theorem dX8_beater_33 : decode cX8_beater 33 = .ok (.isub, 1) := by decide +kernel
theorem dX8_beater_34 : decode cX8_beater 34 = .ok (.i2l, 1) := by decide +kernel
theorem dX8_beater_35 : decode cX8_beater 35 = .ok (.invokestatic 87, 3) := by decide +kernel
theorem dX8_beater_38 : decode cX8_beater 38 = .ok (.ifCond .eq 7, 3) := by decide +kernel
theorem dX8_beater_41 : decode cX8_beater 41 = .ok (.iconst 1, 1) := by decide +kernel
theorem dX8_beater_42 : decode cX8_beater 42 = .ok (.goto 4, 3) := by decide +kernel
theorem dX8_beater_45 : decode cX8_beater 45 = .ok (.iconst 0, 1) := by decide +kernel
theorem dX8_beater_46 : decode cX8_beater 46 = .ok (.istore 5, 2) := by decide +kernel
theorem dX8_beater_48 : decode cX8_beater 48 = .ok (.aload_n 0, 1) := by decide +kernel
theorem dX8_beater_49 : decode cX8_beater 49 = .ok (.iload_n 1, 1) := by decide +kernel
theorem dX8_beater_50 : decode cX8_beater 50 = .ok (.invokestatic 95, 3) := by decide +kernel
theorem dX8_beater_53 : decode cX8_beater 53 = .ok (.ifCond .ne 7, 3) := by decide +kernel
theorem dX8_beater_56 : decode cX8_beater 56 = .ok (.iconst 1, 1) := by decide +kernel
theorem dX8_beater_57 : decode cX8_beater 57 = .ok (.goto 23, 3) := by decide +kernel
theorem dX8_beater_60 : decode cX8_beater 60 = .ok (.iload 5, 2) := by decide +kernel
theorem dX8_beater_62 : decode cX8_beater 62 = .ok (.ifCond .ne 7, 3) := by decide +kernel
theorem dX8_beater_65 : decode cX8_beater 65 = .ok (.iconst 2, 1) := by decide +kernel
theorem dX8_beater_66 : decode cX8_beater 66 = .ok (.goto 14, 3) := by decide +kernel
theorem dX8_beater_69 : decode cX8_beater 69 = .ok (.iload_n 1, 1) := by decide +kernel
theorem dX8_beater_70 : decode cX8_beater 70 = .ok (.bipush 16, 2) := by decide +kernel
theorem dX8_beater_72 : decode cX8_beater 72 = .ok (.if_icmp .lt 7, 3) := by decide +kernel
theorem dX8_beater_75 : decode cX8_beater 75 = .ok (.iconst 3, 1) := by decide +kernel
theorem dX8_beater_76 : decode cX8_beater 76 = .ok (.goto 4, 3) := by decide +kernel
theorem dX8_beater_79 : decode cX8_beater 79 = .ok (.iconst 0, 1) := by decide +kernel
theorem dX8_beater_80 : decode cX8_beater 80 = .ok (.putfield 76, 3) := by decide +kernel
theorem dX8_beater_83 : decode cX8_beater 83 = .ok (.aload_n 0, 1) := by decide +kernel
theorem dX8_beater_84 : decode cX8_beater 84 = .ok (.getfield 76, 3) := by decide +kernel
theorem dX8_beater_87 : decode cX8_beater 87 = .ok (.ifCond .le 5, 3) := by decide +kernel
theorem dX8_beater_90 : decode cX8_beater 90 = .ok (.iconst 0, 1) := by decide +kernel
theorem dX8_beater_91 : decode cX8_beater 91 = .ok (.ireturn, 1) := by decide +kernel
theorem dX8_beater_92 : decode cX8_beater 92 = .ok (.aload_n 0, 1) := by decide +kernel
theorem dX8_beater_93 : decode cX8_beater 93 = .ok (.getfield 26, 3) := by decide +kernel
theorem dX8_beater_96 : decode cX8_beater 96 = .ok (.getfield 99, 3) := by decide +kernel
theorem dX8_beater_99 : decode cX8_beater 99 = .ok (.iload_n 1, 1) := by decide +kernel
theorem dX8_beater_100 : decode cX8_beater 100 = .ok (.baload, 1) := by decide +kernel
theorem dX8_beater_101 : decode cX8_beater 101 = .ok (.istore 6, 2) := by decide +kernel
theorem dX8_beater_103 : decode cX8_beater 103 = .ok (.aload_n 0, 1) := by decide +kernel
theorem dX8_beater_104 : decode cX8_beater 104 = .ok (.getfield 26, 3) := by decide +kernel
theorem dX8_beater_107 : decode cX8_beater 107 = .ok (.getfield 99, 3) := by decide +kernel
theorem dX8_beater_110 : decode cX8_beater 110 = .ok (.iload_n 1, 1) := by decide +kernel
theorem dX8_beater_111 : decode cX8_beater 111 = .ok (.iconst 1, 1) := by decide +kernel
theorem dX8_beater_112 : decode cX8_beater 112 = .ok (.bastore, 1) := by decide +kernel
theorem dX8_beater_113 : decode cX8_beater 113 = .ok (.aload_n 0, 1) := by decide +kernel
theorem dX8_beater_114 : decode cX8_beater 114 = .ok (.getfield 26, 3) := by decide +kernel
theorem dX8_beater_117 : decode cX8_beater 117 = .ok (.getfield 102, 3) := by decide +kernel
theorem dX8_beater_120 : decode cX8_beater 120 = .ok (.iload_n 1, 1) := by decide +kernel
theorem dX8_beater_121 : decode cX8_beater 121 = .ok (.iload_n 2, 1) := by decide +kernel
theorem dX8_beater_122 : decode cX8_beater 122 = .ok (.iastore, 1) := by decide +kernel
theorem dX8_beater_123 : decode cX8_beater 123 = .ok (.aload_n 0, 1) := by decide +kernel
theorem dX8_beater_124 : decode cX8_beater 124 = .ok (.getfield 26, 3) := by decide +kernel
theorem dX8_beater_127 : decode cX8_beater 127 = .ok (.getfield 105, 3) := by decide +kernel
theorem dX8_beater_130 : decode cX8_beater 130 = .ok (.iload_n 1, 1) := by decide +kernel
theorem dX8_beater_131 : decode cX8_beater 131 = .ok (.iload_n 3, 1) := by decide +kernel
theorem dX8_beater_132 : decode cX8_beater 132 = .ok (.iastore, 1) := by decide +kernel
theorem dX8_beater_133 : decode cX8_beater 133 = .ok (.aload_n 0, 1) := by decide +kernel
theorem dX8_beater_134 : decode cX8_beater 134 = .ok (.getfield 26, 3) := by decide +kernel
theorem dX8_beater_137 : decode cX8_beater 137 = .ok (.getfield 108, 3) := by decide +kernel
theorem dX8_beater_140 : decode cX8_beater 140 = .ok (.iload_n 1, 1) := by decide +kernel
theorem dX8_beater_141 : decode cX8_beater 141 = .ok (.iload 4, 2) := by decide +kernel
theorem dX8_beater_143 : decode cX8_beater 143 = .ok (.iastore, 1) := by decide +kernel
theorem dX8_beater_144 : decode cX8_beater 144 = .ok (.aload_n 0, 1) := by decide +kernel
theorem dX8_beater_145 : decode cX8_beater 145 = .ok (.getfield 30, 3) := by decide +kernel
theorem dX8_beater_148 : decode cX8_beater 148 = .ok (.iload_n 1, 1) := by decide +kernel
theorem dX8_beater_149 : decode cX8_beater 149 = .ok (.iconst 0, 1) := by decide +kernel
theorem dX8_beater_150 : decode cX8_beater 150 = .ok (.iastore, 1) := by decide +kernel
theorem dX8_beater_151 : decode cX8_beater 151 = .ok (.aload_n 0, 1) := by decide +kernel
theorem dX8_beater_152 : decode cX8_beater 152 = .ok (.getfield 34, 3) := by decide +kernel
theorem dX8_beater_155 : decode cX8_beater 155 = .ok (.iload_n 1, 1) := by decide +kernel
theorem dX8_beater_156 : decode cX8_beater 156 = .ok (.iconst 0, 1) := by decide +kernel
theorem dX8_beater_157 : decode cX8_beater 157 = .ok (.iastore, 1) := by decide +kernel
theorem dX8_beater_158 : decode cX8_beater 158 = .ok (.iconst 0, 1) := by decide +kernel
theorem dX8_beater_159 : decode cX8_beater 159 = .ok (.istore 7, 2) := by decide +kernel
theorem dX8_beater_161 : decode cX8_beater 161 = .ok (.iload 7, 2) := by decide +kernel
theorem dX8_beater_163 : decode cX8_beater 163 = .ok (.iconst 4, 1) := by decide +kernel
theorem dX8_beater_164 : decode cX8_beater 164 = .ok (.if_icmp .ge 19, 3) := by decide +kernel
theorem dX8_beater_167 : decode cX8_beater 167 = .ok (.aload_n 0, 1) := by decide +kernel
theorem dX8_beater_168 : decode cX8_beater 168 = .ok (.getfield 11, 3) := by decide +kernel
theorem dX8_beater_171 : decode cX8_beater 171 = .ok (.iload_n 1, 1) := by decide +kernel
theorem dX8_beater_172 : decode cX8_beater 172 = .ok (.aaload, 1) := by decide +kernel
theorem dX8_beater_173 : decode cX8_beater 173 = .ok (.iload 7, 2) := by decide +kernel
theorem dX8_beater_175 : decode cX8_beater 175 = .ok (.iconst 1, 1) := by decide +kernel
theorem dX8_beater_176 : decode cX8_beater 176 = .ok (.iastore, 1) := by decide +kernel
theorem dX8_beater_177 : decode cX8_beater 177 = .ok (.iinc 7 1, 3) := by decide +kernel
theorem dX8_beater_180 : decode cX8_beater 180 = .ok (.goto (-19), 3) := by decide +kernel
theorem dX8_beater_183 : decode cX8_beater 183 = .ok (.iload 6, 2) := by decide +kernel
theorem dX8_beater_185 : decode cX8_beater 185 = .ok (.ireturn, 1) := by decide +kernel
set_option maxRecDepth 20000 in
theorem ggX8_swing_X8_isPlace : GoodIn wsX8_swing wsX8_isPlace := goodIn_r _ [11, 12, 13, 14, 10, 15] (by decide +kernel) (by decide +kernel)
set_option maxRecDepth 20000 in
theorem gX8_swing_X8_isPlace : GoodIn wsX8_swing (va_wsS RX8 95 yX8_isPlace wsX8_isPlace) := goodIn_app (goodIn_of _ (by decide +kernel)) ggX8_swing_X8_isPlace
set_option maxRecDepth 20000 in
theorem ggX8_swing_X8_in : GoodIn wsX8_swing wsX8_in := goodIn_r _ [15] (by decide +kernel) (by decide +kernel)
set_option maxRecDepth 20000 in
theorem gX8_swing_X8_in : GoodIn wsX8_swing (va_wsS RX8 87 yX8_in wsX8_in) := goodIn_app (goodIn_of _ (by decide +kernel)) ggX8_swing_X8_in
theorem dX8_swing_0 : decode cX8_swing 0 = .ok (.aload_n 0, 1) := by decide +kernel
theorem dX8_swing_1 : decode cX8_swing 1 = .ok (.iload_n 1, 1) := by decide +kernel
theorem dX8_swing_2 : decode cX8_swing 2 = .ok (.invokestatic 95, 3) := by decide +kernel
theorem dX8_swing_5 : decode cX8_swing 5 = .ok (.ifCond .ne 7, 3) := by decide +kernel
theorem dX8_swing_8 : decode cX8_swing 8 = .ok (.iconst 1, 1) := by decide +kernel
theorem dX8_swing_9 : decode cX8_swing 9 = .ok (.goto 32, 3) := by decide +kernel
theorem dX8_swing_12 : decode cX8_swing 12 = .ok (.iload_n 2, 1) := by decide +kernel
theorem dX8_swing_13 : decode cX8_swing 13 = .ok (.i2l, 1) := by decide +kernel
theorem dX8_swing_14 : decode cX8_swing 14 = .ok (.ldc2_w 111, 3) := by decide +kernel
theorem dX8_swing_17 : decode cX8_swing 17 = .ok (.ldc2_w 113, 3) := by decide +kernel
theorem dX8_swing_20 : decode cX8_swing 20 = .ok (.invokestatic 87, 3) := by decide +kernel
theorem dX8_swing_23 : decode cX8_swing 23 = .ok (.ifCond .ne 7, 3) := by decide +kernel
theorem dX8_swing_26 : decode cX8_swing 26 = .ok (.iconst 2, 1) := by decide +kernel
theorem dX8_swing_27 : decode cX8_swing 27 = .ok (.goto 14, 3) := by decide +kernel
theorem dX8_swing_30 : decode cX8_swing 30 = .ok (.iload_n 1, 1) := by decide +kernel
theorem dX8_swing_31 : decode cX8_swing 31 = .ok (.bipush 16, 2) := by decide +kernel
theorem dX8_swing_33 : decode cX8_swing 33 = .ok (.if_icmp .ge 7, 3) := by decide +kernel
theorem dX8_swing_36 : decode cX8_swing 36 = .ok (.iconst 3, 1) := by decide +kernel
theorem dX8_swing_37 : decode cX8_swing 37 = .ok (.goto 4, 3) := by decide +kernel
theorem dX8_swing_40 : decode cX8_swing 40 = .ok (.iconst 0, 1) := by decide +kernel
theorem dX8_swing_41 : decode cX8_swing 41 = .ok (.putfield 76, 3) := by decide +kernel
theorem dX8_swing_44 : decode cX8_swing 44 = .ok (.aload_n 0, 1) := by decide +kernel
theorem dX8_swing_45 : decode cX8_swing 45 = .ok (.getfield 76, 3) := by decide +kernel
theorem dX8_swing_48 : decode cX8_swing 48 = .ok (.ifCond .le 5, 3) := by decide +kernel
theorem dX8_swing_51 : decode cX8_swing 51 = .ok (.iconst 0, 1) := by decide +kernel
theorem dX8_swing_52 : decode cX8_swing 52 = .ok (.ireturn, 1) := by decide +kernel
theorem dX8_swing_53 : decode cX8_swing 53 = .ok (.iload_n 1, 1) := by decide +kernel
theorem dX8_swing_54 : decode cX8_swing 54 = .ok (.bipush 16, 2) := by decide +kernel
theorem dX8_swing_56 : decode cX8_swing 56 = .ok (.isub, 1) := by decide +kernel
theorem dX8_swing_57 : decode cX8_swing 57 = .ok (.istore_n 3, 1) := by decide +kernel
theorem dX8_swing_58 : decode cX8_swing 58 = .ok (.aload_n 0, 1) := by decide +kernel
theorem dX8_swing_59 : decode cX8_swing 59 = .ok (.getfield 61, 3) := by decide +kernel
theorem dX8_swing_62 : decode cX8_swing 62 = .ok (.iload_n 3, 1) := by decide +kernel
theorem dX8_swing_63 : decode cX8_swing 63 = .ok (.baload, 1) := by decide +kernel
theorem dX8_swing_64 : decode cX8_swing 64 = .ok (.istore 4, 2) := by decide +kernel
theorem dX8_swing_66 : decode cX8_swing 66 = .ok (.aload_n 0, 1) := by decide +kernel
theorem dX8_swing_67 : decode cX8_swing 67 = .ok (.getfield 61, 3) := by decide +kernel
theorem dX8_swing_70 : decode cX8_swing 70 = .ok (.iload_n 3, 1) := by decide +kernel
theorem dX8_swing_71 : decode cX8_swing 71 = .ok (.iconst 1, 1) := by decide +kernel
theorem dX8_swing_72 : decode cX8_swing 72 = .ok (.bastore, 1) := by decide +kernel
theorem dX8_swing_73 : decode cX8_swing 73 = .ok (.aload_n 0, 1) := by decide +kernel
theorem dX8_swing_74 : decode cX8_swing 74 = .ok (.getfield 65, 3) := by decide +kernel
theorem dX8_swing_77 : decode cX8_swing 77 = .ok (.iload_n 3, 1) := by decide +kernel
theorem dX8_swing_78 : decode cX8_swing 78 = .ok (.iload_n 2, 1) := by decide +kernel
theorem dX8_swing_79 : decode cX8_swing 79 = .ok (.i2f, 1) := by decide +kernel
theorem dX8_swing_80 : decode cX8_swing 80 = .ok (.ldc 115, 2) := by decide +kernel
theorem dX8_swing_82 : decode cX8_swing 82 = .ok (.fdiv, 1) := by decide +kernel
theorem dX8_swing_83 : decode cX8_swing 83 = .ok (.fastore, 1) := by decide +kernel
theorem dX8_swing_84 : decode cX8_swing 84 = .ok (.aload_n 0, 1) := by decide +kernel
theorem dX8_swing_85 : decode cX8_swing 85 = .ok (.getfield 69, 3) := by decide +kernel
theorem dX8_swing_88 : decode cX8_swing 88 = .ok (.iload_n 3, 1) := by decide +kernel
theorem dX8_swing_89 : decode cX8_swing 89 = .ok (.fconst 0, 1) := by decide +kernel
theorem dX8_swing_90 : decode cX8_swing 90 = .ok (.fastore, 1) := by decide +kernel
theorem dX8_swing_91 : decode cX8_swing 91 = .ok (.iload 4, 2) := by decide +kernel
theorem dX8_swing_93 : decode cX8_swing 93 = .ok (.ireturn, 1) := by decide +kernel
set_option maxRecDepth 20000 in
theorem ggX8_isBeater_X8_in : GoodIn wsX8_isBeater wsX8_in := goodIn_r _ [6] (by decide +kernel) (by decide +kernel)
set_option maxRecDepth 20000 in
theorem gX8_isBeater_X8_in : GoodIn wsX8_isBeater (va_wsS RX8 87 yX8_in wsX8_in) := goodIn_app (goodIn_of _ (by decide +kernel)) ggX8_isBeater_X8_in
theorem dX8_isBeater_0 : decode cX8_isBeater 0 = .ok (.iload_n 1, 1) := by decide +kernel
theorem dX8_isBeater_1 : decode cX8_isBeater 1 = .ok (.i2l, 1) := by decide +kernel
theorem dX8_isBeater_2 : decode cX8_isBeater 2 = .ok (.lconst 0, 1) := by decide +kernel
theorem dX8_isBeater_3 : decode cX8_isBeater 3 = .ok (.ldc2_w 116, 3) := by decide +kernel
theorem dX8_isBeater_6 : decode cX8_isBeater 6 = .ok (.invokestatic 87, 3) := by decide +kernel
theorem dX8_isBeater_9 : decode cX8_isBeater 9 = .ok (.ifCond .eq 19, 3) := by decide +kernel
theorem dX8_isBeater_12 : decode cX8_isBeater 12 = .ok (.aload_n 0, 1) := by decide +kernel
theorem dX8_isBeater_13 : decode cX8_isBeater 13 = .ok (.getfield 26, 3) := by decide +kernel
theorem dX8_isBeater_16 : decode cX8_isBeater 16 = .ok (.getfield 99, 3) := by decide +kernel
theorem dX8_isBeater_19 : decode cX8_isBeater 19 = .ok (.iload_n 1, 1) := by decide +kernel
theorem dX8_isBeater_20 : decode cX8_isBeater 20 = .ok (.baload, 1) := by decide +kernel
theorem dX8_isBeater_21 : decode cX8_isBeater 21 = .ok (.ifCond .eq 7, 3) := by decide +kernel
theorem dX8_isBeater_24 : decode cX8_isBeater 24 = .ok (.iconst 1, 1) := by decide +kernel
theorem dX8_isBeater_25 : decode cX8_isBeater 25 = .ok (.goto 4, 3) := by decide +kernel
theorem dX8_isBeater_28 : decode cX8_isBeater 28 = .ok (.iconst 0, 1) := by decide +kernel
theorem dX8_isBeater_29 : decode cX8_isBeater 29 = .ok (.ireturn, 1) := by decide +kernel
set_option maxRecDepth 20000 in
theorem ggX8_noBeater_X8_isPlace : GoodIn wsX8_noBeater wsX8_isPlace := goodIn_r _ [5, 6, 7, 8, 4, 9] (by decide +kernel) (by decide +kernel)
set_option maxRecDepth 20000 in
theorem gX8_noBeater_X8_isPlace : GoodIn wsX8_noBeater (va_wsS RX8 95 yX8_isPlace wsX8_isPlace) := goodIn_app (goodIn_of _ (by decide +kernel)) ggX8_noBeater_X8_isPlace
set_option maxRecDepth 20000 in
theorem ggX8_noBeater_X8_isBeater : GoodIn wsX8_noBeater wsX8_isBeater := goodIn_ca (goodIn_r _ [13, 14, 15, 7, 8, 4, 9, 16, 17, 18, 19, 20, 21, 22, 23, 24, 25, 26, 27, 28, 29, 30, 31, 32, 33, 34, 35, 36, 37, 38, 39, 40, 41, 42, 43, 44] (by decide +kernel) (by decide +kernel)) (goodIn_sub (fun _ h => List.mem_cons_of_mem _ (List.mem_append_right _ h)) (by decide +kernel))
set_option maxRecDepth 20000 in
theorem gX8_noBeater_X8_isBeater : GoodIn wsX8_noBeater (wsV RX8 118 RX8 yX8_isBeater wsX8_isBeater) := goodIn_app (goodIn_of _ (by decide +kernel)) ggX8_noBeater_X8_isBeater
theorem dX8_noBeater_0 : decode cX8_noBeater 0 = .ok (.aload_n 0, 1) := by decide +kernel
theorem dX8_noBeater_1 : decode cX8_noBeater 1 = .ok (.iload_n 1, 1) := by decide +kernel
theorem dX8_noBeater_2 : decode cX8_noBeater 2 = .ok (.invokestatic 95, 3) := by decide +kernel
theorem dX8_noBeater_5 : decode cX8_noBeater 5 = .ok (.ifCond .ne 7, 3) := by decide +kernel
theorem dX8_noBeater_8 : decode cX8_noBeater 8 = .ok (.iconst 1, 1) := by decide +kernel
theorem dX8_noBeater_9 : decode cX8_noBeater 9 = .ok (.goto 16, 3) := by decide +kernel
theorem dX8_noBeater_12 : decode cX8_noBeater 12 = .ok (.aload_n 0, 1) := by decide +kernel
theorem dX8_noBeater_13 : decode cX8_noBeater 13 = .ok (.iload_n 1, 1) := by decide +kernel
theorem dX8_noBeater_14 : decode cX8_noBeater 14 = .ok (.invokevirtual 118, 3) := by decide +kernel
theorem dX8_noBeater_17 : decode cX8_noBeater 17 = .ok (.ifCond .ne 7, 3) := by decide +kernel
theorem dX8_noBeater_20 : decode cX8_noBeater 20 = .ok (.iconst 2, 1) := by decide +kernel
theorem dX8_noBeater_21 : decode cX8_noBeater 21 = .ok (.goto 4, 3) := by decide +kernel
theorem dX8_noBeater_24 : decode cX8_noBeater 24 = .ok (.iconst 0, 1) := by decide +kernel
theorem dX8_noBeater_25 : decode cX8_noBeater 25 = .ok (.putfield 76, 3) := by decide +kernel
theorem dX8_noBeater_28 : decode cX8_noBeater 28 = .ok (.aload_n 0, 1) := by decide +kernel
theorem dX8_noBeater_29 : decode cX8_noBeater 29 = .ok (.getfield 76, 3) := by decide +kernel
theorem dX8_noBeater_32 : decode cX8_noBeater 32 = .ok (.ifCond .le 7, 3) := by decide +kernel
theorem dX8_noBeater_35 : decode cX8_noBeater 35 = .ok (.iconst 1, 1) := by decide +kernel
theorem dX8_noBeater_36 : decode cX8_noBeater 36 = .ok (.goto 4, 3) := by decide +kernel
theorem dX8_noBeater_39 : decode cX8_noBeater 39 = .ok (.iconst 0, 1) := by decide +kernel
theorem dX8_noBeater_40 : decode cX8_noBeater 40 = .ok (.ireturn, 1) := by decide +kernel
set_option maxRecDepth 20000 in
theorem ggX8_phase_X8_noBeater : GoodIn wsX8_phase wsX8_noBeater := goodIn_ca (goodIn_r _ [6, 7, 8, 9, 5, 10, 11, 12, 13, 14, 15, 16, 17, 18, 19, 1, 20, 21, 22, 23, 24, 25, 26, 27, 28, 29, 30, 31, 32, 33, 34, 35, 36, 37, 38, 39, 40, 41, 42, 43, 44, 45, 46, 47, 48] (by decide +kernel) (by decide +kernel)) (goodIn_sub (fun _ h => List.mem_cons_of_mem _ (List.mem_append_right _ h)) (by decide +kernel))
set_option maxRecDepth 20000 in
theorem gX8_phase_X8_noBeater : GoodIn wsX8_phase (wsV RX8 121 RX8 yX8_noBeater wsX8_noBeater) := goodIn_app (goodIn_of _ (by decide +kernel)) ggX8_phase_X8_noBeater
theorem dX8_phase_0 : decode cX8_phase 0 = .ok (.aload_n 0, 1) := by decide +kernel
theorem dX8_phase_1 : decode cX8_phase 1 = .ok (.iload_n 1, 1) := by decide +kernel
theorem dX8_phase_2 : decode cX8_phase 2 = .ok (.invokevirtual 121, 3) := by decide +kernel
theorem dX8_phase_5 : decode cX8_phase 5 = .ok (.ifCond .eq 7, 3) := by decide +kernel
theorem dX8_phase_8 : decode cX8_phase 8 = .ok (.iconst 0, 1) := by decide +kernel
theorem dX8_phase_9 : decode cX8_phase 9 = .ok (.goto 12, 3) := by decide +kernel
theorem dX8_phase_12 : decode cX8_phase 12 = .ok (.aload_n 0, 1) := by decide +kernel
theorem dX8_phase_13 : decode cX8_phase 13 = .ok (.getfield 26, 3) := by decide +kernel
theorem dX8_phase_16 : decode cX8_phase 16 = .ok (.getfield 105, 3) := by decide +kernel
theorem dX8_phase_19 : decode cX8_phase 19 = .ok (.iload_n 1, 1) := by decide +kernel
theorem dX8_phase_20 : decode cX8_phase 20 = .ok (.iaload, 1) := by decide +kernel
theorem dX8_phase_21 : decode cX8_phase 21 = .ok (.ireturn, 1) := by decide +kernel
set_option maxRecDepth 20000 in
theorem ggX8_period_X8_isPlace : GoodIn wsX8_period wsX8_isPlace := goodIn_r _ [8, 9, 10, 11, 7, 12] (by decide +kernel) (by decide +kernel)
set_option maxRecDepth 20000 in
theorem gX8_period_X8_isPlace : GoodIn wsX8_period (va_wsS RX8 95 yX8_isPlace wsX8_isPlace) := goodIn_app (goodIn_of _ (by decide +kernel)) ggX8_period_X8_isPlace
set_option maxRecDepth 20000 in
theorem ggX8_period_X8_in : GoodIn wsX8_period wsX8_in := goodIn_r _ [12] (by decide +kernel) (by decide +kernel)
set_option maxRecDepth 20000 in
theorem gX8_period_X8_in : GoodIn wsX8_period (va_wsS RX8 87 yX8_in wsX8_in) := goodIn_app (goodIn_of _ (by decide +kernel)) ggX8_period_X8_in
set_option maxRecDepth 20000 in
theorem ggX8_period_X8_isBeater : GoodIn wsX8_period wsX8_isBeater := goodIn_ca (goodIn_r _ [16, 17, 4, 10, 11, 7, 12, 30, 31, 32, 33, 34, 35, 36, 37, 38, 39, 40, 41, 42, 43, 44, 45, 46, 47, 48, 49, 50, 51, 52, 53, 54, 55, 56, 57, 58] (by decide +kernel) (by decide +kernel)) (goodIn_sub (fun _ h => List.mem_cons_of_mem _ (List.mem_append_right _ h)) (by decide +kernel))
set_option maxRecDepth 20000 in
theorem gX8_period_X8_isBeater : GoodIn wsX8_period (wsV RX8 118 RX8 yX8_isBeater wsX8_isBeater) := goodIn_app (goodIn_of _ (by decide +kernel)) ggX8_period_X8_isBeater
set_option maxRecDepth 20000 in
theorem ggX8_period_X6_setPeriod : GoodIn wsX8_period wsX6_setPeriod := goodIn_ca (goodIn_r _ [22, 23, 24, 25, 26, 27, 28, 29, 51, 52, 53, 54, 55, 56, 57, 58] (by decide +kernel) (by decide +kernel)) (goodIn_sub (fun _ h => List.mem_cons_of_mem _ (List.mem_append_right _ h)) (by decide +kernel))
set_option maxRecDepth 20000 in
theorem gX8_period_X6_setPeriod : GoodIn wsX8_period (wsV RX8 124 RX6 yX6_setPeriod wsX6_setPeriod) := goodIn_app (goodIn_of _ (by decide +kernel)) ggX8_period_X6_setPeriod
theorem dX8_period_0 : decode cX8_period 0 = .ok (.aload_n 0, 1) := by decide +kernel
theorem dX8_period_1 : decode cX8_period 1 = .ok (.iload_n 1, 1) := by decide +kernel
theorem dX8_period_2 : decode cX8_period 2 = .ok (.invokestatic 95, 3) := by decide +kernel
theorem dX8_period_5 : decode cX8_period 5 = .ok (.ifCond .ne 7, 3) := by decide +kernel
theorem dX8_period_8 : decode cX8_period 8 = .ok (.iconst 1, 1) := by decide +kernel
theorem dX8_period_9 : decode cX8_period 9 = .ok (.goto 34, 3) := by decide +kernel
theorem dX8_period_12 : decode cX8_period 12 = .ok (.iload_n 2, 1) := by decide +kernel
theorem dX8_period_13 : decode cX8_period 13 = .ok (.i2l, 1) := by decide +kernel
theorem dX8_period_14 : decode cX8_period 14 = .ok (.ldc2_w 91, 3) := by decide +kernel
theorem dX8_period_17 : decode cX8_period 17 = .ok (.ldc2_w 93, 3) := by decide +kernel
theorem dX8_period_20 : decode cX8_period 20 = .ok (.invokestatic 87, 3) := by decide +kernel
theorem dX8_period_23 : decode cX8_period 23 = .ok (.ifCond .ne 7, 3) := by decide +kernel
theorem dX8_period_26 : decode cX8_period 26 = .ok (.iconst 2, 1) := by decide +kernel
theorem dX8_period_27 : decode cX8_period 27 = .ok (.goto 16, 3) := by decide +kernel
theorem dX8_period_30 : decode cX8_period 30 = .ok (.aload_n 0, 1) := by decide +kernel
theorem dX8_period_31 : decode cX8_period 31 = .ok (.iload_n 1, 1) := by decide +kernel
theorem dX8_period_32 : decode cX8_period 32 = .ok (.invokevirtual 118, 3) := by decide +kernel
theorem dX8_period_35 : decode cX8_period 35 = .ok (.ifCond .ne 7, 3) := by decide +kernel
theorem dX8_period_38 : decode cX8_period 38 = .ok (.iconst 3, 1) := by decide +kernel
theorem dX8_period_39 : decode cX8_period 39 = .ok (.goto 4, 3) := by decide +kernel
theorem dX8_period_42 : decode cX8_period 42 = .ok (.iconst 0, 1) := by decide +kernel
theorem dX8_period_43 : decode cX8_period 43 = .ok (.putfield 76, 3) := by decide +kernel
theorem dX8_period_46 : decode cX8_period 46 = .ok (.aload_n 0, 1) := by decide +kernel
theorem dX8_period_47 : decode cX8_period 47 = .ok (.getfield 76, 3) := by decide +kernel
theorem dX8_period_50 : decode cX8_period 50 = .ok (.ifCond .le 5, 3) := by decide +kernel
theorem dX8_period_53 : decode cX8_period 53 = .ok (.iconst 0, 1) := by decide +kernel
theorem dX8_period_54 : decode cX8_period 54 = .ok (.ireturn, 1) := by decide +kernel
theorem dX8_period_55 : decode cX8_period 55 = .ok (.aload_n 0, 1) := by decide +kernel
theorem dX8_period_56 : decode cX8_period 56 = .ok (.getfield 26, 3) := by decide +kernel
theorem dX8_period_59 : decode cX8_period 59 = .ok (.getfield 102, 3) := by decide +kernel
theorem dX8_period_62 : decode cX8_period 62 = .ok (.iload_n 1, 1) := by decide +kernel
theorem dX8_period_63 : decode cX8_period 63 = .ok (.iaload, 1) := by decide +kernel
theorem dX8_period_64 : decode cX8_period 64 = .ok (.istore_n 3, 1) := by decide +kernel
theorem dX8_period_65 : decode cX8_period 65 = .ok (.aload_n 0, 1) := by decide +kernel
theorem dX8_period_66 : decode cX8_period 66 = .ok (.getfield 26, 3) := by decide +kernel
theorem dX8_period_69 : decode cX8_period 69 = .ok (.iload_n 1, 1) := by decide +kernel
theorem dX8_period_70 : decode cX8_period 70 = .ok (.iload_n 2, 1) := by decide +kernel
theorem dX8_period_71 : decode cX8_period 71 = .ok (.invokevirtual 124, 3) := by decide +kernel
theorem dX8_period_74 : decode cX8_period 74 = .ok (.iload_n 3, 1) := by decide +kernel
theorem dX8_period_75 : decode cX8_period 75 = .ok (.ireturn, 1) := by decide +kernel
set_option maxRecDepth 20000 in
theorem ggX8_answer_X8_in : GoodIn wsX8_answer wsX8_in := goodIn_r _ [9] (by decide +kernel) (by decide +kernel)
set_option maxRecDepth 20000 in
theorem gX8_answer_X8_in : GoodIn wsX8_answer (va_wsS RX8 87 yX8_in wsX8_in) := goodIn_app (goodIn_of _ (by decide +kernel)) ggX8_answer_X8_in
set_option maxRecDepth 20000 in
theorem ggX8_answer_X8_isPlace : GoodIn wsX8_answer wsX8_isPlace := goodIn_r _ [12, 13, 6, 7, 8, 9] (by decide +kernel) (by decide +kernel)
set_option maxRecDepth 20000 in
theorem gX8_answer_X8_isPlace : GoodIn wsX8_answer (va_wsS RX8 95 yX8_isPlace wsX8_isPlace) := goodIn_app (goodIn_of _ (by decide +kernel)) ggX8_answer_X8_isPlace
set_option maxRecDepth 20000 in
theorem ggX8_answer_X8_isBeater : GoodIn wsX8_answer wsX8_isBeater := goodIn_ca (goodIn_r _ [17, 18, 19, 6, 7, 8, 9, 20, 21, 22, 23, 24, 25, 26, 27, 28, 29, 30, 31, 32, 33, 34, 35, 36, 37, 38, 39, 40, 41, 42, 43, 44, 45, 46, 47, 48] (by decide +kernel) (by decide +kernel)) (goodIn_sub (fun _ h => List.mem_cons_of_mem _ (List.mem_append_right _ h)) (by decide +kernel))
set_option maxRecDepth 20000 in
theorem gX8_answer_X8_isBeater : GoodIn wsX8_answer (wsV RX8 118 RX8 yX8_isBeater wsX8_isBeater) := goodIn_app (goodIn_of _ (by decide +kernel)) ggX8_answer_X8_isBeater
theorem dX8_answer_0 : decode cX8_answer 0 = .ok (.iload_n 2, 1) := by decide +kernel
theorem dX8_answer_1 : decode cX8_answer 1 = .ok (.i2l, 1) := by decide +kernel
theorem dX8_answer_2 : decode cX8_answer 2 = .ok (.lconst 0, 1) := by decide +kernel
theorem dX8_answer_3 : decode cX8_answer 3 = .ok (.ldc2_w 128, 3) := by decide +kernel
theorem dX8_answer_6 : decode cX8_answer 6 = .ok (.invokestatic 87, 3) := by decide +kernel
theorem dX8_answer_9 : decode cX8_answer 9 = .ok (.ifCond .eq 21, 3) := by decide +kernel
theorem dX8_answer_12 : decode cX8_answer 12 = .ok (.iload_n 3, 1) := by decide +kernel
theorem dX8_answer_13 : decode cX8_answer 13 = .ok (.i2l, 1) := by decide +kernel
theorem dX8_answer_14 : decode cX8_answer 14 = .ok (.ldc2_w 130, 3) := by decide +kernel
theorem dX8_answer_17 : decode cX8_answer 17 = .ok (.ldc2_w 132, 3) := by decide +kernel
theorem dX8_answer_20 : decode cX8_answer 20 = .ok (.invokestatic 87, 3) := by decide +kernel
theorem dX8_answer_23 : decode cX8_answer 23 = .ok (.ifCond .eq 7, 3) := by decide +kernel
theorem dX8_answer_26 : decode cX8_answer 26 = .ok (.iconst 1, 1) := by decide +kernel
theorem dX8_answer_27 : decode cX8_answer 27 = .ok (.goto 4, 3) := by decide +kernel
theorem dX8_answer_30 : decode cX8_answer 30 = .ok (.iconst 0, 1) := by decide +kernel
theorem dX8_answer_31 : decode cX8_answer 31 = .ok (.istore 4, 2) := by decide +kernel
theorem dX8_answer_33 : decode cX8_answer 33 = .ok (.aload_n 0, 1) := by decide +kernel
theorem dX8_answer_34 : decode cX8_answer 34 = .ok (.iload_n 1, 1) := by decide +kernel
theorem dX8_answer_35 : decode cX8_answer 35 = .ok (.invokestatic 95, 3) := by decide +kernel
theorem dX8_answer_38 : decode cX8_answer 38 = .ok (.ifCond .ne 7, 3) := by decide +kernel
theorem dX8_answer_41 : decode cX8_answer 41 = .ok (.iconst 1, 1) := by decide +kernel
theorem dX8_answer_42 : decode cX8_answer 42 = .ok (.goto 25, 3) := by decide +kernel
theorem dX8_answer_45 : decode cX8_answer 45 = .ok (.iload 4, 2) := by decide +kernel
theorem dX8_answer_47 : decode cX8_answer 47 = .ok (.ifCond .ne 7, 3) := by decide +kernel
theorem dX8_answer_50 : decode cX8_answer 50 = .ok (.iconst 2, 1) := by decide +kernel
theorem dX8_answer_51 : decode cX8_answer 51 = .ok (.goto 16, 3) := by decide +kernel
theorem dX8_answer_54 : decode cX8_answer 54 = .ok (.aload_n 0, 1) := by decide +kernel
theorem dX8_answer_55 : decode cX8_answer 55 = .ok (.iload_n 1, 1) := by decide +kernel
theorem dX8_answer_56 : decode cX8_answer 56 = .ok (.invokevirtual 118, 3) := by decide +kernel
theorem dX8_answer_59 : decode cX8_answer 59 = .ok (.ifCond .ne 7, 3) := by decide +kernel
theorem dX8_answer_62 : decode cX8_answer 62 = .ok (.iconst 3, 1) := by decide +kernel
theorem dX8_answer_63 : decode cX8_answer 63 = .ok (.goto 4, 3) := by decide +kernel
theorem dX8_answer_66 : decode cX8_answer 66 = .ok (.iconst 0, 1) := by decide +kernel
theorem dX8_answer_67 : decode cX8_answer 67 = .ok (.putfield 76, 3) := by decide +kernel
theorem dX8_answer_70 : decode cX8_answer 70 = .ok (.aload_n 0, 1) := by decide +kernel
theorem dX8_answer_71 : decode cX8_answer 71 = .ok (.getfield 76, 3) := by decide +kernel
theorem dX8_answer_74 : decode cX8_answer 74 = .ok (.ifCond .le 5, 3) := by decide +kernel
theorem dX8_answer_77 : decode cX8_answer 77 = .ok (.iconst 0, 1) := by decide +kernel
theorem dX8_answer_78 : decode cX8_answer 78 = .ok (.ireturn, 1) := by decide +kernel
theorem dX8_answer_79 : decode cX8_answer 79 = .ok (.aload_n 0, 1) := by decide +kernel
theorem dX8_answer_80 : decode cX8_answer 80 = .ok (.getfield 11, 3) := by decide +kernel
theorem dX8_answer_83 : decode cX8_answer 83 = .ok (.iload_n 1, 1) := by decide +kernel
theorem dX8_answer_84 : decode cX8_answer 84 = .ok (.aaload, 1) := by decide +kernel
theorem dX8_answer_85 : decode cX8_answer 85 = .ok (.iload_n 2, 1) := by decide +kernel
theorem dX8_answer_86 : decode cX8_answer 86 = .ok (.iaload, 1) := by decide +kernel
theorem dX8_answer_87 : decode cX8_answer 87 = .ok (.istore 5, 2) := by decide +kernel
theorem dX8_answer_89 : decode cX8_answer 89 = .ok (.aload_n 0, 1) := by decide +kernel
theorem dX8_answer_90 : decode cX8_answer 90 = .ok (.getfield 11, 3) := by decide +kernel
theorem dX8_answer_93 : decode cX8_answer 93 = .ok (.iload_n 1, 1) := by decide +kernel
theorem dX8_answer_94 : decode cX8_answer 94 = .ok (.aaload, 1) := by decide +kernel
theorem dX8_answer_95 : decode cX8_answer 95 = .ok (.iload_n 2, 1) := by decide +kernel
theorem dX8_answer_96 : decode cX8_answer 96 = .ok (.iload_n 3, 1) := by decide +kernel
theorem dX8_answer_97 : decode cX8_answer 97 = .ok (.iastore, 1) := by decide +kernel
theorem dX8_answer_98 : decode cX8_answer 98 = .ok (.iload 5, 2) := by decide +kernel
theorem dX8_answer_100 : decode cX8_answer 100 = .ok (.ireturn, 1) := by decide +kernel
set_option maxRecDepth 20000 in
theorem ggX8_isLink_X8_in : GoodIn wsX8_isLink wsX8_in := goodIn_r _ [6] (by decide +kernel) (by decide +kernel)
set_option maxRecDepth 20000 in
theorem gX8_isLink_X8_in : GoodIn wsX8_isLink (va_wsS RX8 87 yX8_in wsX8_in) := goodIn_app (goodIn_of _ (by decide +kernel)) ggX8_isLink_X8_in
theorem dX8_isLink_0 : decode cX8_isLink 0 = .ok (.iload_n 0, 1) := by decide +kernel
theorem dX8_isLink_1 : decode cX8_isLink 1 = .ok (.i2l, 1) := by decide +kernel
theorem dX8_isLink_2 : decode cX8_isLink 2 = .ok (.lconst 1, 1) := by decide +kernel
theorem dX8_isLink_3 : decode cX8_isLink 3 = .ok (.ldc2_w 134, 3) := by decide +kernel
theorem dX8_isLink_6 : decode cX8_isLink 6 = .ok (.invokestatic 87, 3) := by decide +kernel
theorem dX8_isLink_9 : decode cX8_isLink 9 = .ok (.ifCond .eq 19, 3) := by decide +kernel
theorem dX8_isLink_12 : decode cX8_isLink 12 = .ok (.iload_n 1, 1) := by decide +kernel
theorem dX8_isLink_13 : decode cX8_isLink 13 = .ok (.i2l, 1) := by decide +kernel
theorem dX8_isLink_14 : decode cX8_isLink 14 = .ok (.lconst 1, 1) := by decide +kernel
theorem dX8_isLink_15 : decode cX8_isLink 15 = .ok (.ldc2_w 132, 3) := by decide +kernel
theorem dX8_isLink_18 : decode cX8_isLink 18 = .ok (.invokestatic 87, 3) := by decide +kernel
theorem dX8_isLink_21 : decode cX8_isLink 21 = .ok (.ifCond .eq 7, 3) := by decide +kernel
theorem dX8_isLink_24 : decode cX8_isLink 24 = .ok (.iconst 1, 1) := by decide +kernel
theorem dX8_isLink_25 : decode cX8_isLink 25 = .ok (.goto 4, 3) := by decide +kernel
theorem dX8_isLink_28 : decode cX8_isLink 28 = .ok (.iconst 0, 1) := by decide +kernel
theorem dX8_isLink_29 : decode cX8_isLink 29 = .ok (.ireturn, 1) := by decide +kernel
set_option maxRecDepth 20000 in
theorem ggX8_link_X8_in : GoodIn wsX8_link wsX8_in := goodIn_r _ [10] (by decide +kernel) (by decide +kernel)
set_option maxRecDepth 20000 in
theorem gX8_link_X8_in : GoodIn wsX8_link (va_wsS RX8 87 yX8_in wsX8_in) := goodIn_app (goodIn_of _ (by decide +kernel)) ggX8_link_X8_in
set_option maxRecDepth 20000 in
theorem ggX8_link_X8_isLink : GoodIn wsX8_link wsX8_isLink := goodIn_r _ [13, 14, 15, 7, 8, 9, 10] (by decide +kernel) (by decide +kernel)
set_option maxRecDepth 20000 in
theorem gX8_link_X8_isLink : GoodIn wsX8_link (va_wsS RX8 136 yX8_isLink wsX8_isLink) := goodIn_app (goodIn_of _ (by decide +kernel)) ggX8_link_X8_isLink
set_option maxRecDepth 20000 in
theorem ggX8_link_Jx4a65c_size_8abf5 : GoodIn wsX8_link wsJx4a65c_size_8abf5 := goodIn_r _ [20, 21, 111, 112, 113] (by decide +kernel) (by decide +kernel)
set_option maxRecDepth 20000 in
theorem gX8_link_Jx4a65c_size_8abf5 : GoodIn wsX8_link (wsV RX8 140 RJx4a65c yJx4a65c_size_8abf5 wsJx4a65c_size_8abf5) := goodIn_app (goodIn_of _ (by decide +kernel)) ggX8_link_Jx4a65c_size_8abf5
set_option maxRecDepth 20000 in
theorem ggX8_link_X7_init : GoodIn wsX8_link wsX7_init := goodIn_r _ [24, 25, 26, 27, 28, 29, 30, 31, 107, 108, 109, 110] (by decide +kernel) (by decide +kernel)
set_option maxRecDepth 20000 in
theorem gX8_link_X7_init : GoodIn wsX8_link (wsX7_init) := ggX8_link_X7_init
set_option maxRecDepth 20000 in
theorem ggX8_link_Jx4a65c_add_9ea2d : GoodIn wsX8_link wsJx4a65c_add_9ea2d := goodIn_r _ [35, 36, 37, 38, 21, 39, 40, 41, 19, 42, 43, 44, 45, 46, 47, 48, 49, 50, 51, 52, 53, 54, 55, 56, 57, 58, 59, 60, 61, 62, 63, 64, 65, 66, 67, 68, 69, 70, 71, 72, 73, 74, 75, 76, 77, 78, 79, 80, 81, 82, 83, 84, 85, 111, 112, 113] (by decide +kernel) (by decide +kernel)
set_option maxRecDepth 20000 in
theorem gX8_link_Jx4a65c_add_9ea2d : GoodIn wsX8_link (wsV RX8 149 RJx4a65c yJx4a65c_add_9ea2d wsJx4a65c_add_9ea2d) := goodIn_app (goodIn_of _ (by decide +kernel)) ggX8_link_Jx4a65c_add_9ea2d
theorem dX8_link_0 : decode cX8_link 0 = .ok (.iload_n 1, 1) := by decide +kernel
theorem dX8_link_1 : decode cX8_link 1 = .ok (.i2l, 1) := by decide +kernel
theorem dX8_link_2 : decode cX8_link 2 = .ok (.lconst 0, 1) := by decide +kernel
theorem dX8_link_3 : decode cX8_link 3 = .ok (.ldc2_w 116, 3) := by decide +kernel
theorem dX8_link_6 : decode cX8_link 6 = .ok (.invokestatic 87, 3) := by decide +kernel
theorem dX8_link_9 : decode cX8_link 9 = .ok (.ifCond .eq 19, 3) := by decide +kernel
theorem dX8_link_12 : decode cX8_link 12 = .ok (.iload_n 2, 1) := by decide +kernel
theorem dX8_link_13 : decode cX8_link 13 = .ok (.i2l, 1) := by decide +kernel
theorem dX8_link_14 : decode cX8_link 14 = .ok (.lconst 0, 1) := by decide +kernel
theorem dX8_link_15 : decode cX8_link 15 = .ok (.ldc2_w 116, 3) := by decide +kernel
theorem dX8_link_18 : decode cX8_link 18 = .ok (.invokestatic 87, 3) := by decide +kernel
theorem dX8_link_21 : decode cX8_link 21 = .ok (.ifCond .eq 7, 3) := by decide +kernel
theorem dX8_link_24 : decode cX8_link 24 = .ok (.iconst 1, 1) := by decide +kernel
theorem dX8_link_25 : decode cX8_link 25 = .ok (.goto 4, 3) := by decide +kernel
theorem dX8_link_28 : decode cX8_link 28 = .ok (.iconst 0, 1) := by decide +kernel
theorem dX8_link_29 : decode cX8_link 29 = .ok (.istore 5, 2) := by decide +kernel
theorem dX8_link_31 : decode cX8_link 31 = .ok (.aload_n 0, 1) := by decide +kernel
theorem dX8_link_32 : decode cX8_link 32 = .ok (.iload 5, 2) := by decide +kernel
theorem dX8_link_34 : decode cX8_link 34 = .ok (.ifCond .ne 7, 3) := by decide +kernel
theorem dX8_link_37 : decode cX8_link 37 = .ok (.iconst 1, 1) := by decide +kernel
theorem dX8_link_38 : decode cX8_link 38 = .ok (.goto 38, 3) := by decide +kernel
theorem dX8_link_41 : decode cX8_link 41 = .ok (.iload_n 1, 1) := by decide +kernel
theorem dX8_link_42 : decode cX8_link 42 = .ok (.iload_n 2, 1) := by decide +kernel
theorem dX8_link_43 : decode cX8_link 43 = .ok (.if_icmp .eq 12, 3) := by decide +kernel
theorem dX8_link_46 : decode cX8_link 46 = .ok (.iload_n 3, 1) := by decide +kernel
theorem dX8_link_47 : decode cX8_link 47 = .ok (.iload 4, 2) := by decide +kernel
theorem dX8_link_49 : decode cX8_link 49 = .ok (.invokestatic 136, 3) := by decide +kernel
theorem dX8_link_52 : decode cX8_link 52 = .ok (.ifCond .ne 7, 3) := by decide +kernel
theorem dX8_link_55 : decode cX8_link 55 = .ok (.iconst 2, 1) := by decide +kernel
theorem dX8_link_56 : decode cX8_link 56 = .ok (.goto 20, 3) := by decide +kernel
theorem dX8_link_59 : decode cX8_link 59 = .ok (.aload_n 0, 1) := by decide +kernel
theorem dX8_link_60 : decode cX8_link 60 = .ok (.getfield 17, 3) := by decide +kernel
theorem dX8_link_63 : decode cX8_link 63 = .ok (.invokevirtual 140, 3) := by decide +kernel
theorem dX8_link_66 : decode cX8_link 66 = .ok (.bipush 60, 2) := by decide +kernel
theorem dX8_link_68 : decode cX8_link 68 = .ok (.if_icmp .ne 7, 3) := by decide +kernel
theorem dX8_link_71 : decode cX8_link 71 = .ok (.iconst 3, 1) := by decide +kernel
theorem dX8_link_72 : decode cX8_link 72 = .ok (.goto 4, 3) := by decide +kernel
theorem dX8_link_75 : decode cX8_link 75 = .ok (.iconst 0, 1) := by decide +kernel
theorem dX8_link_76 : decode cX8_link 76 = .ok (.putfield 76, 3) := by decide +kernel
theorem dX8_link_79 : decode cX8_link 79 = .ok (.aload_n 0, 1) := by decide +kernel
theorem dX8_link_80 : decode cX8_link 80 = .ok (.getfield 76, 3) := by decide +kernel
theorem dX8_link_83 : decode cX8_link 83 = .ok (.ifCond .le 5, 3) := by decide +kernel
theorem dX8_link_86 : decode cX8_link 86 = .ok (.iconst 0, 1) := by decide +kernel
theorem dX8_link_87 : decode cX8_link 87 = .ok (.ireturn, 1) := by decide +kernel
theorem dX8_link_88 : decode cX8_link 88 = .ok (.aload_n 0, 1) := by decide +kernel
theorem dX8_link_89 : decode cX8_link 89 = .ok (.getfield 17, 3) := by decide +kernel
theorem dX8_link_92 : decode cX8_link 92 = .ok (.new 144, 3) := by decide +kernel
theorem dX8_link_95 : decode cX8_link 95 = .ok (.dup, 1) := by decide +kernel
theorem dX8_link_96 : decode cX8_link 96 = .ok (.iload_n 1, 1) := by decide +kernel
theorem dX8_link_97 : decode cX8_link 97 = .ok (.iload_n 2, 1) := by decide +kernel
theorem dX8_link_98 : decode cX8_link 98 = .ok (.iload_n 3, 1) := by decide +kernel
theorem dX8_link_99 : decode cX8_link 99 = .ok (.iload 4, 2) := by decide +kernel
theorem dX8_link_101 : decode cX8_link 101 = .ok (.invokespecial 146, 3) := by decide +kernel
theorem dX8_link_104 : decode cX8_link 104 = .ok (.invokevirtual 149, 3) := by decide +kernel
theorem dX8_link_107 : decode cX8_link 107 = .ok (.pop, 1) := by decide +kernel
theorem dX8_link_108 : decode cX8_link 108 = .ok (.aload_n 0, 1) := by decide +kernel
theorem dX8_link_109 : decode cX8_link 109 = .ok (.getfield 17, 3) := by decide +kernel
theorem dX8_link_112 : decode cX8_link 112 = .ok (.invokevirtual 140, 3) := by decide +kernel
theorem dX8_link_115 : decode cX8_link 115 = .ok (.iconst 1, 1) := by decide +kernel
theorem dX8_link_116 : decode cX8_link 116 = .ok (.isub, 1) := by decide +kernel
theorem dX8_link_117 : decode cX8_link 117 = .ok (.ireturn, 1) := by decide +kernel
set_option maxRecDepth 20000 in
theorem ggX8_cut_Jx4a65c_size_8abf5 : GoodIn wsX8_cut wsJx4a65c_size_8abf5 := goodIn_r _ [8, 9, 58, 59, 60] (by decide +kernel) (by decide +kernel)
set_option maxRecDepth 20000 in
theorem gX8_cut_Jx4a65c_size_8abf5 : GoodIn wsX8_cut (wsV RX8 140 RJx4a65c yJx4a65c_size_8abf5 wsJx4a65c_size_8abf5) := goodIn_app (goodIn_of _ (by decide +kernel)) ggX8_cut_Jx4a65c_size_8abf5
set_option maxRecDepth 20000 in
theorem ggX8_cut_X8_in : GoodIn wsX8_cut wsX8_in := goodIn_r _ [13] (by decide +kernel) (by decide +kernel)
set_option maxRecDepth 20000 in
theorem gX8_cut_X8_in : GoodIn wsX8_cut (va_wsS RX8 87 yX8_in wsX8_in) := goodIn_app (goodIn_of _ (by decide +kernel)) ggX8_cut_X8_in
set_option maxRecDepth 20000 in
theorem ggX8_cut_Jx4a65c_remove_915e3 : GoodIn wsX8_cut wsJx4a65c_remove_915e3 := goodIn_r _ [17, 9, 18, 19, 20, 21, 22, 23, 24, 25, 26, 27, 28, 29, 7, 30, 31, 32, 33, 34, 35, 36, 58, 59, 60] (by decide +kernel) (by decide +kernel)
set_option maxRecDepth 20000 in
theorem gX8_cut_Jx4a65c_remove_915e3 : GoodIn wsX8_cut (wsV RX8 153 RJx4a65c yJx4a65c_remove_915e3 wsJx4a65c_remove_915e3) := goodIn_app (goodIn_of _ (by decide +kernel)) ggX8_cut_Jx4a65c_remove_915e3
theorem dX8_cut_0 : decode cX8_cut 0 = .ok (.aload_n 0, 1) := by decide +kernel
theorem dX8_cut_1 : decode cX8_cut 1 = .ok (.iload_n 1, 1) := by decide +kernel
theorem dX8_cut_2 : decode cX8_cut 2 = .ok (.i2l, 1) := by decide +kernel
theorem dX8_cut_3 : decode cX8_cut 3 = .ok (.lconst 0, 1) := by decide +kernel
theorem dX8_cut_4 : decode cX8_cut 4 = .ok (.aload_n 0, 1) := by decide +kernel
theorem dX8_cut_5 : decode cX8_cut 5 = .ok (.getfield 17, 3) := by decide +kernel
theorem dX8_cut_8 : decode cX8_cut 8 = .ok (.invokevirtual 140, 3) := by decide +kernel
theorem dX8_cut_11 : decode cX8_cut 11 = .ok (.iconst 1, 1) := by decide +kernel
theorem dX8_cut_12 : decode cX8_cut 12 = .ok (.isub, 1) := by decide +kernel
theorem dX8_cut_13 : decode cX8_cut 13 = .ok (.i2l, 1) := by decide +kernel
theorem dX8_cut_14 : decode cX8_cut 14 = .ok (.invokestatic 87, 3) := by decide +kernel
theorem dX8_cut_17 : decode cX8_cut 17 = .ok (.ifCond .eq 7, 3) := by decide +kernel
theorem dX8_cut_20 : decode cX8_cut 20 = .ok (.iconst 0, 1) := by decide +kernel
theorem dX8_cut_21 : decode cX8_cut 21 = .ok (.goto 4, 3) := by decide +kernel
theorem dX8_cut_24 : decode cX8_cut 24 = .ok (.iconst 1, 1) := by decide +kernel
theorem dX8_cut_25 : decode cX8_cut 25 = .ok (.putfield 76, 3) := by decide +kernel
theorem dX8_cut_28 : decode cX8_cut 28 = .ok (.aload_n 0, 1) := by decide +kernel
theorem dX8_cut_29 : decode cX8_cut 29 = .ok (.getfield 76, 3) := by decide +kernel
theorem dX8_cut_32 : decode cX8_cut 32 = .ok (.ifCond .le 5, 3) := by decide +kernel
theorem dX8_cut_35 : decode cX8_cut 35 = .ok (.iconst 0, 1) := by decide +kernel
theorem dX8_cut_36 : decode cX8_cut 36 = .ok (.ireturn, 1) := by decide +kernel
theorem dX8_cut_37 : decode cX8_cut 37 = .ok (.aload_n 0, 1) := by decide +kernel
theorem dX8_cut_38 : decode cX8_cut 38 = .ok (.getfield 17, 3) := by decide +kernel
theorem dX8_cut_41 : decode cX8_cut 41 = .ok (.iload_n 1, 1) := by decide +kernel
theorem dX8_cut_42 : decode cX8_cut 42 = .ok (.invokevirtual 153, 3) := by decide +kernel
theorem dX8_cut_45 : decode cX8_cut 45 = .ok (.checkcast 144, 3) := by decide +kernel
theorem dX8_cut_48 : decode cX8_cut 48 = .ok (.astore_n 2, 1) := by decide +kernel
theorem dX8_cut_49 : decode cX8_cut 49 = .ok (.aload_n 0, 1) := by decide +kernel
theorem dX8_cut_50 : decode cX8_cut 50 = .ok (.getfield 17, 3) := by decide +kernel
theorem dX8_cut_53 : decode cX8_cut 53 = .ok (.invokevirtual 140, 3) := by decide +kernel
theorem dX8_cut_56 : decode cX8_cut 56 = .ok (.ireturn, 1) := by decide +kernel
set_option maxRecDepth 20000 in
theorem ggX8_beaters_Jx4a65c_init_da8c8 : GoodIn wsX8_beaters wsJx4a65c_init_da8c8 := goodIn_r _ [7, 8, 9, 10, 11, 12, 13, 14, 15, 16, 17, 18, 19, 20, 21, 92, 93, 94] (by decide +kernel) (by decide +kernel)
set_option maxRecDepth 20000 in
theorem gX8_beaters_Jx4a65c_init_da8c8 : GoodIn wsX8_beaters (wsJx4a65c_init_da8c8) := ggX8_beaters_Jx4a65c_init_da8c8
set_option maxRecDepth 20000 in
theorem ggX8_beaters_J6_valueOf_2dffe : GoodIn wsX8_beaters wsJ6_valueOf_2dffe := goodIn_r _ [25, 26, 27, 28, 29, 24, 30, 31, 32, 33, 34, 35, 36, 37, 38, 20, 21, 124] (by decide +kernel) (by decide +kernel)
set_option maxRecDepth 20000 in
theorem gX8_beaters_J6_valueOf_2dffe : GoodIn wsX8_beaters (va_wsS RX8 157 yJ6_valueOf_2dffe wsJ6_valueOf_2dffe) := goodIn_app (goodIn_of _ (by decide +kernel)) ggX8_beaters_J6_valueOf_2dffe
set_option maxRecDepth 20000 in
theorem ggX8_beaters_Jx4a65c_add_9ea2d : GoodIn wsX8_beaters wsJx4a65c_add_9ea2d := goodIn_r _ [42, 43, 44, 9, 45, 46, 47, 48, 3, 49, 50, 51, 52, 53, 54, 55, 56, 57, 8, 58, 59, 60, 61, 62, 63, 64, 65, 66, 67, 68, 69, 70, 71, 72, 73, 74, 75, 76, 77, 78, 79, 80, 81, 82, 83, 84, 85, 86, 87, 88, 89, 90, 91, 92, 93, 94] (by decide +kernel) (by decide +kernel)
set_option maxRecDepth 20000 in
theorem gX8_beaters_Jx4a65c_add_9ea2d : GoodIn wsX8_beaters (wsV RX8 149 RJx4a65c yJx4a65c_add_9ea2d wsJx4a65c_add_9ea2d) := goodIn_app (goodIn_of _ (by decide +kernel)) ggX8_beaters_Jx4a65c_add_9ea2d
theorem dX8_beaters_0 : decode cX8_beaters 0 = .ok (.new 14, 3) := by decide +kernel
theorem dX8_beaters_3 : decode cX8_beaters 3 = .ok (.dup, 1) := by decide +kernel
theorem dX8_beaters_4 : decode cX8_beaters 4 = .ok (.invokespecial 16, 3) := by decide +kernel
theorem dX8_beaters_7 : decode cX8_beaters 7 = .ok (.astore_n 1, 1) := by decide +kernel
theorem dX8_beaters_8 : decode cX8_beaters 8 = .ok (.iconst 0, 1) := by decide +kernel
theorem dX8_beaters_9 : decode cX8_beaters 9 = .ok (.istore_n 2, 1) := by decide +kernel
theorem dX8_beaters_10 : decode cX8_beaters 10 = .ok (.iload_n 2, 1) := by decide +kernel
theorem dX8_beaters_11 : decode cX8_beaters 11 = .ok (.bipush 16, 2) := by decide +kernel
theorem dX8_beaters_13 : decode cX8_beaters 13 = .ok (.if_icmp .ge 30, 3) := by decide +kernel
theorem dX8_beaters_16 : decode cX8_beaters 16 = .ok (.aload_n 0, 1) := by decide +kernel
theorem dX8_beaters_17 : decode cX8_beaters 17 = .ok (.getfield 26, 3) := by decide +kernel
theorem dX8_beaters_20 : decode cX8_beaters 20 = .ok (.getfield 99, 3) := by decide +kernel
theorem dX8_beaters_23 : decode cX8_beaters 23 = .ok (.iload_n 2, 1) := by decide +kernel
theorem dX8_beaters_24 : decode cX8_beaters 24 = .ok (.baload, 1) := by decide +kernel
theorem dX8_beaters_25 : decode cX8_beaters 25 = .ok (.ifCond .eq 12, 3) := by decide +kernel
theorem dX8_beaters_28 : decode cX8_beaters 28 = .ok (.aload_n 1, 1) := by decide +kernel
theorem dX8_beaters_29 : decode cX8_beaters 29 = .ok (.iload_n 2, 1) := by decide +kernel
theorem dX8_beaters_30 : decode cX8_beaters 30 = .ok (.invokestatic 157, 3) := by decide +kernel
theorem dX8_beaters_33 : decode cX8_beaters 33 = .ok (.invokevirtual 149, 3) := by decide +kernel
theorem dX8_beaters_36 : decode cX8_beaters 36 = .ok (.pop, 1) := by decide +kernel
theorem dX8_beaters_37 : decode cX8_beaters 37 = .ok (.iinc 2 1, 3) := by decide +kernel
theorem dX8_beaters_40 : decode cX8_beaters 40 = .ok (.goto (-30), 3) := by decide +kernel
theorem dX8_beaters_43 : decode cX8_beaters 43 = .ok (.aload_n 1, 1) := by decide +kernel
theorem dX8_beaters_44 : decode cX8_beaters 44 = .ok (.areturn, 1) := by decide +kernel
set_option maxRecDepth 20000 in
theorem ggX8_net_X8_isLink : GoodIn wsX8_net wsX8_isLink := goodIn_r _ [10, 11, 12, 13, 14, 9, 15] (by decide +kernel) (by decide +kernel)
set_option maxRecDepth 20000 in
theorem gX8_net_X8_isLink : GoodIn wsX8_net (va_wsS RX8 136 yX8_isLink wsX8_isLink) := goodIn_app (goodIn_of _ (by decide +kernel)) ggX8_net_X8_isLink
set_option maxRecDepth 20000 in
theorem ggX8_net_X8_beaters : GoodIn wsX8_net wsX8_beaters := goodIn_ca (goodIn_r _ [19, 20, 21, 22, 23, 24, 25, 26, 27, 28, 29, 30, 31, 32, 33, 34, 35, 36, 37, 38, 39, 40, 41, 42, 43, 44, 45, 46, 47, 48, 49, 50, 51, 52, 53, 54, 55, 56, 57, 58, 59, 60, 61, 62, 63, 64, 65, 66, 67, 68, 69, 70, 71, 72, 73, 74, 75, 76, 77, 78, 79, 80, 81, 82, 83, 84, 85, 86, 87, 88, 89, 90, 91, 92, 93, 94, 95, 96, 97, 98, 99, 100, 101, 102, 103, 104, 105, 106, 107, 108, 109, 110, 172, 173, 174, 147, 148, 149, 150, 151, 152, 153, 154, 155, 156, 157, 158, 159, 160, 161, 162, 163, 164, 165, 166, 167, 175, 176, 177, 178, 179, 180, 181, 182, 183] (by decide +kernel) (by decide +kernel)) (goodIn_sub (fun _ h => List.mem_cons_of_mem _ (List.mem_append_right _ h)) (by decide +kernel))
set_option maxRecDepth 20000 in
theorem gX8_net_X8_beaters : GoodIn wsX8_net (wsV RX8 163 RX8 yX8_beaters wsX8_beaters) := goodIn_app (goodIn_of _ (by decide +kernel)) ggX8_net_X8_beaters
set_option maxRecDepth 20000 in
theorem ggX8_net_Jx4a65c_size_8abf5 : GoodIn wsX8_net wsJx4a65c_size_8abf5 := goodIn_r _ [114, 64, 172, 173, 174] (by decide +kernel) (by decide +kernel)
set_option maxRecDepth 20000 in
theorem gX8_net_Jx4a65c_size_8abf5 : GoodIn wsX8_net (wsV RX8 140 RJx4a65c yJx4a65c_size_8abf5 wsJx4a65c_size_8abf5) := goodIn_app (goodIn_of _ (by decide +kernel)) ggX8_net_Jx4a65c_size_8abf5
set_option maxRecDepth 20000 in
theorem ggX8_net_Jx4a65c_clear_da8c8 : GoodIn wsX8_net wsJx4a65c_clear_da8c8 := goodIn_r _ [118, 62, 63, 28, 64, 172, 173, 174] (by decide +kernel) (by decide +kernel)
set_option maxRecDepth 20000 in
theorem gX8_net_Jx4a65c_clear_da8c8 : GoodIn wsX8_net (wsV RX8 167 RJx4a65c yJx4a65c_clear_da8c8 wsJx4a65c_clear_da8c8) := goodIn_app (goodIn_of _ (by decide +kernel)) ggX8_net_Jx4a65c_clear_da8c8
set_option maxRecDepth 20000 in
theorem ggX8_net_Jx4a65c_get_915e3 : GoodIn wsX8_net wsJx4a65c_get_915e3 := goodIn_r _ [122, 64, 123, 124, 125, 126, 127, 128, 129, 130, 131, 132, 133, 22, 134, 28, 172, 173, 174] (by decide +kernel) (by decide +kernel)
set_option maxRecDepth 20000 in
theorem gX8_net_Jx4a65c_get_915e3 : GoodIn wsX8_net (wsV RX8 170 RJx4a65c yJx4a65c_get_915e3 wsJx4a65c_get_915e3) := goodIn_app (goodIn_of _ (by decide +kernel)) ggX8_net_Jx4a65c_get_915e3
set_option maxRecDepth 20000 in
theorem ggX8_net_J6_intValue_8abf5 : GoodIn wsX8_net wsJ6_intValue_8abf5 := goodIn_r _ [138, 52, 183] (by decide +kernel) (by decide +kernel)
set_option maxRecDepth 20000 in
theorem gX8_net_J6_intValue_8abf5 : GoodIn wsX8_net (wsV RX8 173 RJ6 yJ6_intValue_8abf5 wsJ6_intValue_8abf5) := goodIn_app (goodIn_of _ (by decide +kernel)) ggX8_net_J6_intValue_8abf5
set_option maxRecDepth 20000 in
theorem ggX8_net_X7_init : GoodIn wsX8_net wsX7_init := goodIn_r _ [141, 142, 39, 40, 143, 144, 145, 146, 168, 169, 170, 171] (by decide +kernel) (by decide +kernel)
set_option maxRecDepth 20000 in
theorem gX8_net_X7_init : GoodIn wsX8_net (wsX7_init) := ggX8_net_X7_init
set_option maxRecDepth 20000 in
theorem ggX8_net_Jx4a65c_add_9ea2d : GoodIn wsX8_net wsJx4a65c_add_9ea2d := goodIn_r _ [61, 62, 63, 28, 64, 65, 66, 67, 22, 68, 69, 70, 71, 72, 73, 74, 75, 76, 27, 77, 78, 79, 80, 81, 82, 83, 84, 85, 86, 87, 88, 89, 90, 91, 92, 93, 94, 95, 96, 97, 98, 99, 100, 101, 102, 103, 104, 105, 106, 107, 108, 109, 110, 172, 173, 174] (by decide +kernel) (by decide +kernel)
set_option maxRecDepth 20000 in
theorem gX8_net_Jx4a65c_add_9ea2d : GoodIn wsX8_net (wsV RX8 149 RJx4a65c yJx4a65c_add_9ea2d wsJx4a65c_add_9ea2d) := goodIn_app (goodIn_of _ (by decide +kernel)) ggX8_net_Jx4a65c_add_9ea2d
theorem dX8_net_0 : decode cX8_net 0 = .ok (.aload_n 0, 1) := by decide +kernel
theorem dX8_net_1 : decode cX8_net 1 = .ok (.iload_n 1, 1) := by decide +kernel
theorem dX8_net_2 : decode cX8_net 2 = .ok (.bipush 114, 2) := by decide +kernel
theorem dX8_net_4 : decode cX8_net 4 = .ok (.if_icmp .eq 21, 3) := by decide +kernel
theorem dX8_net_7 : decode cX8_net 7 = .ok (.iload_n 1, 1) := by decide +kernel
theorem dX8_net_8 : decode cX8_net 8 = .ok (.bipush 108, 2) := by decide +kernel
theorem dX8_net_10 : decode cX8_net 10 = .ok (.if_icmp .eq 15, 3) := by decide +kernel
theorem dX8_net_13 : decode cX8_net 13 = .ok (.iload_n 1, 1) := by decide +kernel
theorem dX8_net_14 : decode cX8_net 14 = .ok (.bipush 104, 2) := by decide +kernel
theorem dX8_net_16 : decode cX8_net 16 = .ok (.if_icmp .eq 9, 3) := by decide +kernel
theorem dX8_net_19 : decode cX8_net 19 = .ok (.iload_n 1, 1) := by decide +kernel
theorem dX8_net_20 : decode cX8_net 20 = .ok (.bipush 97, 2) := by decide +kernel
theorem dX8_net_22 : decode cX8_net 22 = .ok (.if_icmp .ne 15, 3) := by decide +kernel
theorem dX8_net_25 : decode cX8_net 25 = .ok (.iload_n 2, 1) := by decide +kernel
theorem dX8_net_26 : decode cX8_net 26 = .ok (.iload_n 3, 1) := by decide +kernel
theorem dX8_net_27 : decode cX8_net 27 = .ok (.invokestatic 136, 3) := by decide +kernel
theorem dX8_net_30 : decode cX8_net 30 = .ok (.ifCond .eq 7, 3) := by decide +kernel
theorem dX8_net_33 : decode cX8_net 33 = .ok (.iconst 0, 1) := by decide +kernel
theorem dX8_net_34 : decode cX8_net 34 = .ok (.goto 4, 3) := by decide +kernel
theorem dX8_net_37 : decode cX8_net 37 = .ok (.iconst 1, 1) := by decide +kernel
theorem dX8_net_38 : decode cX8_net 38 = .ok (.putfield 76, 3) := by decide +kernel
