theorem dX0_init_0 : decode cX0_init 0 = .ok (.aload_n 0, 1) := by decide +kernel
theorem dX0_init_1 : decode cX0_init 1 = .ok (.invokespecial 3, 3) := by decide +kernel
theorem dX0_init_4 : decode cX0_init 4 = .ok (.aload_n 0, 1) := by decide +kernel
theorem dX0_init_5 : decode cX0_init 5 = .ok (.iconst 0, 1) := by decide +kernel
theorem dX0_init_6 : decode cX0_init 6 = .ok (.putfield 9, 3) := by decide +kernel
theorem dX0_init_9 : decode cX0_init 9 = .ok (.aload_n 0, 1) := by decide +kernel
theorem dX0_init_10 : decode cX0_init 10 = .ok (.bipush 20, 2) := by decide +kernel
theorem dX0_init_12 : decode cX0_init 12 = .ok (.newarray .int, 2) := by decide +kernel
theorem dX0_init_14 : decode cX0_init 14 = .ok (.putfield 15, 3) := by decide +kernel
theorem dX0_init_17 : decode cX0_init 17 = .ok (.return_, 1) := by decide +kernel
theorem dX0_add_0 : decode cX0_add 0 = .ok (.aload_n 0, 1) := by decide +kernel
theorem dX0_add_1 : decode cX0_add 1 = .ok (.getfield 9, 3) := by decide +kernel
theorem dX0_add_4 : decode cX0_add 4 = .ok (.bipush 20, 2) := by decide +kernel
theorem dX0_add_6 : decode cX0_add 6 = .ok (.if_icmp .ge 23, 3) := by decide +kernel
theorem dX0_add_9 : decode cX0_add 9 = .ok (.aload_n 0, 1) := by decide +kernel
theorem dX0_add_10 : decode cX0_add 10 = .ok (.getfield 15, 3) := by decide +kernel
theorem dX0_add_13 : decode cX0_add 13 = .ok (.aload_n 0, 1) := by decide +kernel
theorem dX0_add_14 : decode cX0_add 14 = .ok (.getfield 9, 3) := by decide +kernel
theorem dX0_add_17 : decode cX0_add 17 = .ok (.iload_n 1, 1) := by decide +kernel
theorem dX0_add_18 : decode cX0_add 18 = .ok (.iastore, 1) := by decide +kernel
theorem dX0_add_19 : decode cX0_add 19 = .ok (.aload_n 0, 1) := by decide +kernel
theorem dX0_add_20 : decode cX0_add 20 = .ok (.dup, 1) := by decide +kernel
theorem dX0_add_21 : decode cX0_add 21 = .ok (.getfield 9, 3) := by decide +kernel
theorem dX0_add_24 : decode cX0_add 24 = .ok (.iconst 1, 1) := by decide +kernel
theorem dX0_add_25 : decode cX0_add 25 = .ok (.iadd, 1) := by decide +kernel
theorem dX0_add_26 : decode cX0_add 26 = .ok (.putfield 9, 3) := by decide +kernel
theorem dX0_add_29 : decode cX0_add 29 = .ok (.aload_n 0, 1) := by decide +kernel
theorem dX0_add_30 : decode cX0_add 30 = .ok (.getfield 9, 3) := by decide +kernel
theorem dX0_add_33 : decode cX0_add 33 = .ok (.ireturn, 1) := by decide +kernel
theorem dX0_agreeOn_0 : decode cX0_agreeOn 0 = .ok (.iconst 1, 1) := by decide +kernel
theorem dX0_agreeOn_1 : decode cX0_agreeOn 1 = .ok (.istore_n 2, 1) := by decide +kernel
theorem dX0_agreeOn_2 : decode cX0_agreeOn 2 = .ok (.iload_n 2, 1) := by decide +kernel
theorem dX0_agreeOn_3 : decode cX0_agreeOn 3 = .ok (.aload_n 0, 1) := by decide +kernel
theorem dX0_agreeOn_4 : decode cX0_agreeOn 4 = .ok (.getfield 9, 3) := by decide +kernel
theorem dX0_agreeOn_7 : decode cX0_agreeOn 7 = .ok (.if_icmp .ge 35, 3) := by decide +kernel
theorem dX0_agreeOn_10 : decode cX0_agreeOn 10 = .ok (.iload_n 1, 1) := by decide +kernel
theorem dX0_agreeOn_11 : decode cX0_agreeOn 11 = .ok (.iconst 1, 1) := by decide +kernel
theorem dX0_agreeOn_12 : decode cX0_agreeOn 12 = .ok (.if_icmp .lt 22, 3) := by decide +kernel
theorem dX0_agreeOn_15 : decode cX0_agreeOn 15 = .ok (.aload_n 0, 1) := by decide +kernel
theorem dX0_agreeOn_16 : decode cX0_agreeOn 16 = .ok (.getfield 15, 3) := by decide +kernel
theorem dX0_agreeOn_19 : decode cX0_agreeOn 19 = .ok (.iload_n 2, 1) := by decide +kernel
theorem dX0_agreeOn_20 : decode cX0_agreeOn 20 = .ok (.iaload, 1) := by decide +kernel
theorem dX0_agreeOn_21 : decode cX0_agreeOn 21 = .ok (.iload_n 1, 1) := by decide +kernel
theorem dX0_agreeOn_22 : decode cX0_agreeOn 22 = .ok (.irem, 1) := by decide +kernel
theorem dX0_agreeOn_23 : decode cX0_agreeOn 23 = .ok (.aload_n 0, 1) := by decide +kernel
theorem dX0_agreeOn_24 : decode cX0_agreeOn 24 = .ok (.getfield 15, 3) := by decide +kernel
theorem dX0_agreeOn_27 : decode cX0_agreeOn 27 = .ok (.iconst 0, 1) := by decide +kernel
theorem dX0_agreeOn_28 : decode cX0_agreeOn 28 = .ok (.iaload, 1) := by decide +kernel
theorem dX0_agreeOn_29 : decode cX0_agreeOn 29 = .ok (.iload_n 1, 1) := by decide +kernel
theorem dX0_agreeOn_30 : decode cX0_agreeOn 30 = .ok (.irem, 1) := by decide +kernel
theorem dX0_agreeOn_31 : decode cX0_agreeOn 31 = .ok (.if_icmp .eq 5, 3) := by decide +kernel
theorem dX0_agreeOn_34 : decode cX0_agreeOn 34 = .ok (.iconst 0, 1) := by decide +kernel
theorem dX0_agreeOn_35 : decode cX0_agreeOn 35 = .ok (.ireturn, 1) := by decide +kernel
theorem dX0_agreeOn_36 : decode cX0_agreeOn 36 = .ok (.iinc 2 1, 3) := by decide +kernel
theorem dX0_agreeOn_39 : decode cX0_agreeOn 39 = .ok (.goto (-37), 3) := by decide +kernel
theorem dX0_agreeOn_42 : decode cX0_agreeOn 42 = .ok (.iconst 1, 1) := by decide +kernel
theorem dX0_agreeOn_43 : decode cX0_agreeOn 43 = .ok (.ireturn, 1) := by decide +kernel
set_option maxRecDepth 20000 in
theorem ggX0_countPeriods_X0_agreeOn : GoodIn wsX0_countPeriods wsX0_agreeOn := goodIn_ca (goodIn_ca (goodIn_r _ [5, 6, 7, 8, 9] (by decide +kernel) (by decide +kernel)) (goodIn_sub (fun _ h => List.mem_cons_of_mem _ (List.mem_append_left _ (List.mem_append_right _ h))) (by decide +kernel))) (goodIn_sub (fun _ h => List.mem_cons_of_mem _ (List.mem_append_right _ h)) (by decide +kernel))
set_option maxRecDepth 20000 in
theorem gX0_countPeriods_X0_agreeOn : GoodIn wsX0_countPeriods (wsV RX0 19 RX0 yX0_agreeOn wsX0_agreeOn) := goodIn_app (goodIn_of _ (by decide +kernel)) ggX0_countPeriods_X0_agreeOn
theorem dX0_countPeriods_0 : decode cX0_countPeriods 0 = .ok (.iconst 0, 1) := by decide +kernel
theorem dX0_countPeriods_1 : decode cX0_countPeriods 1 = .ok (.istore_n 1, 1) := by decide +kernel
theorem dX0_countPeriods_2 : decode cX0_countPeriods 2 = .ok (.iconst 2, 1) := by decide +kernel
theorem dX0_countPeriods_3 : decode cX0_countPeriods 3 = .ok (.istore_n 2, 1) := by decide +kernel
theorem dX0_countPeriods_4 : decode cX0_countPeriods 4 = .ok (.iload_n 2, 1) := by decide +kernel
theorem dX0_countPeriods_5 : decode cX0_countPeriods 5 = .ok (.bipush 99, 2) := by decide +kernel
theorem dX0_countPeriods_7 : decode cX0_countPeriods 7 = .ok (.if_icmp .gt 20, 3) := by decide +kernel
theorem dX0_countPeriods_10 : decode cX0_countPeriods 10 = .ok (.aload_n 0, 1) := by decide +kernel
theorem dX0_countPeriods_11 : decode cX0_countPeriods 11 = .ok (.iload_n 2, 1) := by decide +kernel
theorem dX0_countPeriods_12 : decode cX0_countPeriods 12 = .ok (.invokevirtual 19, 3) := by decide +kernel
theorem dX0_countPeriods_15 : decode cX0_countPeriods 15 = .ok (.ifCond .eq 6, 3) := by decide +kernel
theorem dX0_countPeriods_18 : decode cX0_countPeriods 18 = .ok (.iinc 1 1, 3) := by decide +kernel
theorem dX0_countPeriods_21 : decode cX0_countPeriods 21 = .ok (.iinc 2 1, 3) := by decide +kernel
theorem dX0_countPeriods_24 : decode cX0_countPeriods 24 = .ok (.goto (-20), 3) := by decide +kernel
theorem dX0_countPeriods_27 : decode cX0_countPeriods 27 = .ok (.iload_n 1, 1) := by decide +kernel
theorem dX0_countPeriods_28 : decode cX0_countPeriods 28 = .ok (.ireturn, 1) := by decide +kernel
set_option maxRecDepth 20000 in
theorem ggX0_periodAt_X0_agreeOn : GoodIn wsX0_periodAt wsX0_agreeOn := goodIn_ca (goodIn_ca (goodIn_r _ [5, 6, 7, 8, 9] (by decide +kernel) (by decide +kernel)) (goodIn_sub (fun _ h => List.mem_cons_of_mem _ (List.mem_append_left _ (List.mem_append_right _ h))) (by decide +kernel))) (goodIn_sub (fun _ h => List.mem_cons_of_mem _ (List.mem_append_right _ h)) (by decide +kernel))
set_option maxRecDepth 20000 in
theorem gX0_periodAt_X0_agreeOn : GoodIn wsX0_periodAt (wsV RX0 19 RX0 yX0_agreeOn wsX0_agreeOn) := goodIn_app (goodIn_of _ (by decide +kernel)) ggX0_periodAt_X0_agreeOn
theorem dX0_periodAt_0 : decode cX0_periodAt 0 = .ok (.iload_n 1, 1) := by decide +kernel
theorem dX0_periodAt_1 : decode cX0_periodAt 1 = .ok (.istore_n 2, 1) := by decide +kernel
theorem dX0_periodAt_2 : decode cX0_periodAt 2 = .ok (.bipush 99, 2) := by decide +kernel
theorem dX0_periodAt_4 : decode cX0_periodAt 4 = .ok (.istore_n 3, 1) := by decide +kernel
theorem dX0_periodAt_5 : decode cX0_periodAt 5 = .ok (.iload_n 3, 1) := by decide +kernel
theorem dX0_periodAt_6 : decode cX0_periodAt 6 = .ok (.iconst 2, 1) := by decide +kernel
theorem dX0_periodAt_7 : decode cX0_periodAt 7 = .ok (.if_icmp .lt 26, 3) := by decide +kernel
theorem dX0_periodAt_10 : decode cX0_periodAt 10 = .ok (.aload_n 0, 1) := by decide +kernel
theorem dX0_periodAt_11 : decode cX0_periodAt 11 = .ok (.iload_n 3, 1) := by decide +kernel
theorem dX0_periodAt_12 : decode cX0_periodAt 12 = .ok (.invokevirtual 19, 3) := by decide +kernel
theorem dX0_periodAt_15 : decode cX0_periodAt 15 = .ok (.ifCond .eq 12, 3) := by decide +kernel
theorem dX0_periodAt_18 : decode cX0_periodAt 18 = .ok (.iload_n 2, 1) := by decide +kernel
theorem dX0_periodAt_19 : decode cX0_periodAt 19 = .ok (.ifCond .ne 5, 3) := by decide +kernel
theorem dX0_periodAt_22 : decode cX0_periodAt 22 = .ok (.iload_n 3, 1) := by decide +kernel
theorem dX0_periodAt_23 : decode cX0_periodAt 23 = .ok (.ireturn, 1) := by decide +kernel
theorem dX0_periodAt_24 : decode cX0_periodAt 24 = .ok (.iinc 2 (-1), 3) := by decide +kernel
theorem dX0_periodAt_27 : decode cX0_periodAt 27 = .ok (.iinc 3 (-1), 3) := by decide +kernel
theorem dX0_periodAt_30 : decode cX0_periodAt 30 = .ok (.goto (-25), 3) := by decide +kernel
theorem dX0_periodAt_33 : decode cX0_periodAt 33 = .ok (.iconst 0, 1) := by decide +kernel
theorem dX0_periodAt_34 : decode cX0_periodAt 34 = .ok (.ireturn, 1) := by decide +kernel
theorem dX1_init_0 : decode cX1_init 0 = .ok (.aload_n 0, 1) := by decide +kernel
theorem dX1_init_1 : decode cX1_init 1 = .ok (.invokespecial 3, 3) := by decide +kernel
theorem dX1_init_4 : decode cX1_init 4 = .ok (.aload_n 0, 1) := by decide +kernel
theorem dX1_init_5 : decode cX1_init 5 = .ok (.iconst 0, 1) := by decide +kernel
theorem dX1_init_6 : decode cX1_init 6 = .ok (.putfield 9, 3) := by decide +kernel
theorem dX1_init_9 : decode cX1_init 9 = .ok (.aload_n 0, 1) := by decide +kernel
theorem dX1_init_10 : decode cX1_init 10 = .ok (.iconst 0, 1) := by decide +kernel
theorem dX1_init_11 : decode cX1_init 11 = .ok (.putfield 15, 3) := by decide +kernel
theorem dX1_init_14 : decode cX1_init 14 = .ok (.aload_n 0, 1) := by decide +kernel
theorem dX1_init_15 : decode cX1_init 15 = .ok (.bipush 16, 2) := by decide +kernel
theorem dX1_init_17 : decode cX1_init 17 = .ok (.newarray .int, 2) := by decide +kernel
theorem dX1_init_19 : decode cX1_init 19 = .ok (.putfield 18, 3) := by decide +kernel
theorem dX1_init_22 : decode cX1_init 22 = .ok (.aload_n 0, 1) := by decide +kernel
theorem dX1_init_23 : decode cX1_init 23 = .ok (.bipush 16, 2) := by decide +kernel
theorem dX1_init_25 : decode cX1_init 25 = .ok (.newarray .int, 2) := by decide +kernel
theorem dX1_init_27 : decode cX1_init 27 = .ok (.putfield 22, 3) := by decide +kernel
theorem dX1_init_30 : decode cX1_init 30 = .ok (.aload_n 0, 1) := by decide +kernel
theorem dX1_init_31 : decode cX1_init 31 = .ok (.bipush 16, 2) := by decide +kernel
theorem dX1_init_33 : decode cX1_init 33 = .ok (.newarray .int, 2) := by decide +kernel
theorem dX1_init_35 : decode cX1_init 35 = .ok (.putfield 25, 3) := by decide +kernel
theorem dX1_init_38 : decode cX1_init 38 = .ok (.aload_n 0, 1) := by decide +kernel
theorem dX1_init_39 : decode cX1_init 39 = .ok (.bipush 64, 2) := by decide +kernel
theorem dX1_init_41 : decode cX1_init 41 = .ok (.newarray .int, 2) := by decide +kernel
theorem dX1_init_43 : decode cX1_init 43 = .ok (.putfield 28, 3) := by decide +kernel
theorem dX1_init_46 : decode cX1_init 46 = .ok (.aload_n 0, 1) := by decide +kernel
theorem dX1_init_47 : decode cX1_init 47 = .ok (.iconst 0, 1) := by decide +kernel
theorem dX1_init_48 : decode cX1_init 48 = .ok (.putfield 31, 3) := by decide +kernel
theorem dX1_init_51 : decode cX1_init 51 = .ok (.aload_n 0, 1) := by decide +kernel
theorem dX1_init_52 : decode cX1_init 52 = .ok (.bipush 60, 2) := by decide +kernel
theorem dX1_init_54 : decode cX1_init 54 = .ok (.newarray .int, 2) := by decide +kernel
theorem dX1_init_56 : decode cX1_init 56 = .ok (.putfield 34, 3) := by decide +kernel
theorem dX1_init_59 : decode cX1_init 59 = .ok (.aload_n 0, 1) := by decide +kernel
theorem dX1_init_60 : decode cX1_init 60 = .ok (.bipush 60, 2) := by decide +kernel
theorem dX1_init_62 : decode cX1_init 62 = .ok (.newarray .int, 2) := by decide +kernel
theorem dX1_init_64 : decode cX1_init 64 = .ok (.putfield 37, 3) := by decide +kernel
theorem dX1_init_67 : decode cX1_init 67 = .ok (.aload_n 0, 1) := by decide +kernel
theorem dX1_init_68 : decode cX1_init 68 = .ok (.bipush 60, 2) := by decide +kernel
theorem dX1_init_70 : decode cX1_init 70 = .ok (.newarray .int, 2) := by decide +kernel
theorem dX1_init_72 : decode cX1_init 72 = .ok (.putfield 40, 3) := by decide +kernel
theorem dX1_init_75 : decode cX1_init 75 = .ok (.aload_n 0, 1) := by decide +kernel
theorem dX1_init_76 : decode cX1_init 76 = .ok (.bipush 60, 2) := by decide +kernel
theorem dX1_init_78 : decode cX1_init 78 = .ok (.newarray .int, 2) := by decide +kernel
theorem dX1_init_80 : decode cX1_init 80 = .ok (.putfield 43, 3) := by decide +kernel
theorem dX1_init_83 : decode cX1_init 83 = .ok (.return_, 1) := by decide +kernel
theorem dX1_has_0 : decode cX1_has 0 = .ok (.iload_n 1, 1) := by decide +kernel
theorem dX1_has_1 : decode cX1_has 1 = .ok (.ifCond .lt 24, 3) := by decide +kernel
theorem dX1_has_4 : decode cX1_has 4 = .ok (.iload_n 1, 1) := by decide +kernel
theorem dX1_has_5 : decode cX1_has 5 = .ok (.bipush 16, 2) := by decide +kernel
theorem dX1_has_7 : decode cX1_has 7 = .ok (.if_icmp .ge 18, 3) := by decide +kernel
theorem dX1_has_10 : decode cX1_has 10 = .ok (.aload_n 0, 1) := by decide +kernel
theorem dX1_has_11 : decode cX1_has 11 = .ok (.getfield 15, 3) := by decide +kernel
theorem dX1_has_14 : decode cX1_has 14 = .ok (.iload_n 1, 1) := by decide +kernel
theorem dX1_has_15 : decode cX1_has 15 = .ok (.ishr, 1) := by decide +kernel
theorem dX1_has_16 : decode cX1_has 16 = .ok (.iconst 1, 1) := by decide +kernel
theorem dX1_has_17 : decode cX1_has 17 = .ok (.iand, 1) := by decide +kernel
theorem dX1_has_18 : decode cX1_has 18 = .ok (.ifCond .eq 7, 3) := by decide +kernel
theorem dX1_has_21 : decode cX1_has 21 = .ok (.iconst 1, 1) := by decide +kernel
theorem dX1_has_22 : decode cX1_has 22 = .ok (.goto 4, 3) := by decide +kernel
theorem dX1_has_25 : decode cX1_has 25 = .ok (.iconst 0, 1) := by decide +kernel
theorem dX1_has_26 : decode cX1_has 26 = .ok (.ireturn, 1) := by decide +kernel
set_option maxRecDepth 20000 in
theorem ggX1_put_X1_setPlaces : GoodIn wsX1_put wsX1_setPlaces := goodIn_ca (goodIn_r _ [9, 4, 10, 11, 12, 13, 14, 15, 16, 17, 18, 19, 20, 21, 22] (by decide +kernel) (by decide +kernel)) (goodIn_sub (fun _ h => List.mem_cons_of_mem _ (List.mem_append_right _ h)) (by decide +kernel))
set_option maxRecDepth 20000 in
theorem gX1_put_X1_setPlaces : GoodIn wsX1_put (wsV RX1 46 RX1 yX1_setPlaces wsX1_setPlaces) := goodIn_app (goodIn_of _ (by decide +kernel)) ggX1_put_X1_setPlaces
theorem dX1_put_0 : decode cX1_put 0 = .ok (.aload_n 0, 1) := by decide +kernel
theorem dX1_put_1 : decode cX1_put 1 = .ok (.getfield 22, 3) := by decide +kernel
theorem dX1_put_4 : decode cX1_put 4 = .ok (.iload_n 1, 1) := by decide +kernel
theorem dX1_put_5 : decode cX1_put 5 = .ok (.iload_n 2, 1) := by decide +kernel
theorem dX1_put_6 : decode cX1_put 6 = .ok (.iastore, 1) := by decide +kernel
theorem dX1_put_7 : decode cX1_put 7 = .ok (.aload_n 0, 1) := by decide +kernel
theorem dX1_put_8 : decode cX1_put 8 = .ok (.getfield 25, 3) := by decide +kernel
theorem dX1_put_11 : decode cX1_put 11 = .ok (.iload_n 1, 1) := by decide +kernel
theorem dX1_put_12 : decode cX1_put 12 = .ok (.iload_n 3, 1) := by decide +kernel
theorem dX1_put_13 : decode cX1_put 13 = .ok (.iastore, 1) := by decide +kernel
theorem dX1_put_14 : decode cX1_put 14 = .ok (.iconst 0, 1) := by decide +kernel
theorem dX1_put_15 : decode cX1_put 15 = .ok (.istore 4, 2) := by decide +kernel
theorem dX1_put_17 : decode cX1_put 17 = .ok (.iload 4, 2) := by decide +kernel
theorem dX1_put_19 : decode cX1_put 19 = .ok (.iconst 4, 1) := by decide +kernel
theorem dX1_put_20 : decode cX1_put 20 = .ok (.if_icmp .ge 21, 3) := by decide +kernel
theorem dX1_put_23 : decode cX1_put 23 = .ok (.aload_n 0, 1) := by decide +kernel
theorem dX1_put_24 : decode cX1_put 24 = .ok (.getfield 28, 3) := by decide +kernel
theorem dX1_put_27 : decode cX1_put 27 = .ok (.iload_n 1, 1) := by decide +kernel
theorem dX1_put_28 : decode cX1_put 28 = .ok (.iconst 4, 1) := by decide +kernel
theorem dX1_put_29 : decode cX1_put 29 = .ok (.imul, 1) := by decide +kernel
theorem dX1_put_30 : decode cX1_put 30 = .ok (.iload 4, 2) := by decide +kernel
theorem dX1_put_32 : decode cX1_put 32 = .ok (.iadd, 1) := by decide +kernel
theorem dX1_put_33 : decode cX1_put 33 = .ok (.iconst 1, 1) := by decide +kernel
theorem dX1_put_34 : decode cX1_put 34 = .ok (.iastore, 1) := by decide +kernel
theorem dX1_put_35 : decode cX1_put 35 = .ok (.iinc 4 1, 3) := by decide +kernel
theorem dX1_put_38 : decode cX1_put 38 = .ok (.goto (-21), 3) := by decide +kernel
theorem dX1_put_41 : decode cX1_put 41 = .ok (.aload_n 0, 1) := by decide +kernel
theorem dX1_put_42 : decode cX1_put 42 = .ok (.aload_n 0, 1) := by decide +kernel
theorem dX1_put_43 : decode cX1_put 43 = .ok (.getfield 15, 3) := by decide +kernel
theorem dX1_put_46 : decode cX1_put 46 = .ok (.iconst 1, 1) := by decide +kernel
theorem dX1_put_47 : decode cX1_put 47 = .ok (.iload_n 1, 1) := by decide +kernel
theorem dX1_put_48 : decode cX1_put 48 = .ok (.ishl, 1) := by decide +kernel
theorem dX1_put_49 : decode cX1_put 49 = .ok (.ior, 1) := by decide +kernel
theorem dX1_put_50 : decode cX1_put 50 = .ok (.invokevirtual 46, 3) := by decide +kernel
theorem dX1_put_53 : decode cX1_put 53 = .ok (.return_, 1) := by decide +kernel
theorem dX1_setPlaces_0 : decode cX1_setPlaces 0 = .ok (.aload_n 0, 1) := by decide +kernel
theorem dX1_setPlaces_1 : decode cX1_setPlaces 1 = .ok (.iload_n 1, 1) := by decide +kernel
theorem dX1_setPlaces_2 : decode cX1_setPlaces 2 = .ok (.putfield 15, 3) := by decide +kernel
theorem dX1_setPlaces_5 : decode cX1_setPlaces 5 = .ok (.aload_n 0, 1) := by decide +kernel
theorem dX1_setPlaces_6 : decode cX1_setPlaces 6 = .ok (.iconst 0, 1) := by decide +kernel
theorem dX1_setPlaces_7 : decode cX1_setPlaces 7 = .ok (.putfield 9, 3) := by decide +kernel
theorem dX1_setPlaces_10 : decode cX1_setPlaces 10 = .ok (.iconst 0, 1) := by decide +kernel
theorem dX1_setPlaces_11 : decode cX1_setPlaces 11 = .ok (.istore_n 2, 1) := by decide +kernel
theorem dX1_setPlaces_12 : decode cX1_setPlaces 12 = .ok (.iload_n 2, 1) := by decide +kernel
theorem dX1_setPlaces_13 : decode cX1_setPlaces 13 = .ok (.bipush 16, 2) := by decide +kernel
theorem dX1_setPlaces_15 : decode cX1_setPlaces 15 = .ok (.if_icmp .ge 37, 3) := by decide +kernel
theorem dX1_setPlaces_18 : decode cX1_setPlaces 18 = .ok (.iload_n 1, 1) := by decide +kernel
theorem dX1_setPlaces_19 : decode cX1_setPlaces 19 = .ok (.iload_n 2, 1) := by decide +kernel
theorem dX1_setPlaces_20 : decode cX1_setPlaces 20 = .ok (.ishr, 1) := by decide +kernel
theorem dX1_setPlaces_21 : decode cX1_setPlaces 21 = .ok (.iconst 1, 1) := by decide +kernel
theorem dX1_setPlaces_22 : decode cX1_setPlaces 22 = .ok (.iand, 1) := by decide +kernel
theorem dX1_setPlaces_23 : decode cX1_setPlaces 23 = .ok (.ifCond .eq 23, 3) := by decide +kernel
theorem dX1_setPlaces_26 : decode cX1_setPlaces 26 = .ok (.aload_n 0, 1) := by decide +kernel
theorem dX1_setPlaces_27 : decode cX1_setPlaces 27 = .ok (.getfield 18, 3) := by decide +kernel
theorem dX1_setPlaces_30 : decode cX1_setPlaces 30 = .ok (.aload_n 0, 1) := by decide +kernel
theorem dX1_setPlaces_31 : decode cX1_setPlaces 31 = .ok (.getfield 9, 3) := by decide +kernel
theorem dX1_setPlaces_34 : decode cX1_setPlaces 34 = .ok (.iload_n 2, 1) := by decide +kernel
theorem dX1_setPlaces_35 : decode cX1_setPlaces 35 = .ok (.iastore, 1) := by decide +kernel
theorem dX1_setPlaces_36 : decode cX1_setPlaces 36 = .ok (.aload_n 0, 1) := by decide +kernel
theorem dX1_setPlaces_37 : decode cX1_setPlaces 37 = .ok (.dup, 1) := by decide +kernel
theorem dX1_setPlaces_38 : decode cX1_setPlaces 38 = .ok (.getfield 9, 3) := by decide +kernel
theorem dX1_setPlaces_41 : decode cX1_setPlaces 41 = .ok (.iconst 1, 1) := by decide +kernel
theorem dX1_setPlaces_42 : decode cX1_setPlaces 42 = .ok (.iadd, 1) := by decide +kernel
theorem dX1_setPlaces_43 : decode cX1_setPlaces 43 = .ok (.putfield 9, 3) := by decide +kernel
theorem dX1_setPlaces_46 : decode cX1_setPlaces 46 = .ok (.iinc 2 1, 3) := by decide +kernel
theorem dX1_setPlaces_49 : decode cX1_setPlaces 49 = .ok (.goto (-37), 3) := by decide +kernel
theorem dX1_setPlaces_52 : decode cX1_setPlaces 52 = .ok (.return_, 1) := by decide +kernel
theorem dX1_addLink_0 : decode cX1_addLink 0 = .ok (.aload_n 0, 1) := by decide +kernel
theorem dX1_addLink_1 : decode cX1_addLink 1 = .ok (.getfield 31, 3) := by decide +kernel
theorem dX1_addLink_4 : decode cX1_addLink 4 = .ok (.bipush 60, 2) := by decide +kernel
theorem dX1_addLink_6 : decode cX1_addLink 6 = .ok (.if_icmp .ge 54, 3) := by decide +kernel
theorem dX1_addLink_9 : decode cX1_addLink 9 = .ok (.aload_n 0, 1) := by decide +kernel
theorem dX1_addLink_10 : decode cX1_addLink 10 = .ok (.getfield 34, 3) := by decide +kernel
theorem dX1_addLink_13 : decode cX1_addLink 13 = .ok (.aload_n 0, 1) := by decide +kernel
theorem dX1_addLink_14 : decode cX1_addLink 14 = .ok (.getfield 31, 3) := by decide +kernel
theorem dX1_addLink_17 : decode cX1_addLink 17 = .ok (.iload_n 1, 1) := by decide +kernel
theorem dX1_addLink_18 : decode cX1_addLink 18 = .ok (.iastore, 1) := by decide +kernel
theorem dX1_addLink_19 : decode cX1_addLink 19 = .ok (.aload_n 0, 1) := by decide +kernel
theorem dX1_addLink_20 : decode cX1_addLink 20 = .ok (.getfield 37, 3) := by decide +kernel
theorem dX1_addLink_23 : decode cX1_addLink 23 = .ok (.aload_n 0, 1) := by decide +kernel
theorem dX1_addLink_24 : decode cX1_addLink 24 = .ok (.getfield 31, 3) := by decide +kernel
theorem dX1_addLink_27 : decode cX1_addLink 27 = .ok (.iload_n 2, 1) := by decide +kernel
theorem dX1_addLink_28 : decode cX1_addLink 28 = .ok (.iastore, 1) := by decide +kernel
theorem dX1_addLink_29 : decode cX1_addLink 29 = .ok (.aload_n 0, 1) := by decide +kernel
theorem dX1_addLink_30 : decode cX1_addLink 30 = .ok (.getfield 40, 3) := by decide +kernel
theorem dX1_addLink_33 : decode cX1_addLink 33 = .ok (.aload_n 0, 1) := by decide +kernel
theorem dX1_addLink_34 : decode cX1_addLink 34 = .ok (.getfield 31, 3) := by decide +kernel
theorem dX1_addLink_37 : decode cX1_addLink 37 = .ok (.iload_n 3, 1) := by decide +kernel
theorem dX1_addLink_38 : decode cX1_addLink 38 = .ok (.iastore, 1) := by decide +kernel
theorem dX1_addLink_39 : decode cX1_addLink 39 = .ok (.aload_n 0, 1) := by decide +kernel
theorem dX1_addLink_40 : decode cX1_addLink 40 = .ok (.getfield 43, 3) := by decide +kernel
theorem dX1_addLink_43 : decode cX1_addLink 43 = .ok (.aload_n 0, 1) := by decide +kernel
theorem dX1_addLink_44 : decode cX1_addLink 44 = .ok (.getfield 31, 3) := by decide +kernel
theorem dX1_addLink_47 : decode cX1_addLink 47 = .ok (.iload 4, 2) := by decide +kernel
theorem dX1_addLink_49 : decode cX1_addLink 49 = .ok (.iastore, 1) := by decide +kernel
theorem dX1_addLink_50 : decode cX1_addLink 50 = .ok (.aload_n 0, 1) := by decide +kernel
theorem dX1_addLink_51 : decode cX1_addLink 51 = .ok (.dup, 1) := by decide +kernel
theorem dX1_addLink_52 : decode cX1_addLink 52 = .ok (.getfield 31, 3) := by decide +kernel
theorem dX1_addLink_55 : decode cX1_addLink 55 = .ok (.iconst 1, 1) := by decide +kernel
theorem dX1_addLink_56 : decode cX1_addLink 56 = .ok (.iadd, 1) := by decide +kernel
theorem dX1_addLink_57 : decode cX1_addLink 57 = .ok (.putfield 31, 3) := by decide +kernel
theorem dX1_addLink_60 : decode cX1_addLink 60 = .ok (.return_, 1) := by decide +kernel
theorem dX1_removeLink_0 : decode cX1_removeLink 0 = .ok (.iload_n 1, 1) := by decide +kernel
theorem dX1_removeLink_1 : decode cX1_removeLink 1 = .ok (.istore_n 2, 1) := by decide +kernel
theorem dX1_removeLink_2 : decode cX1_removeLink 2 = .ok (.iload_n 2, 1) := by decide +kernel
theorem dX1_removeLink_3 : decode cX1_removeLink 3 = .ok (.aload_n 0, 1) := by decide +kernel
theorem dX1_removeLink_4 : decode cX1_removeLink 4 = .ok (.getfield 31, 3) := by decide +kernel
theorem dX1_removeLink_7 : decode cX1_removeLink 7 = .ok (.iconst 1, 1) := by decide +kernel
theorem dX1_removeLink_8 : decode cX1_removeLink 8 = .ok (.isub, 1) := by decide +kernel
theorem dX1_removeLink_9 : decode cX1_removeLink 9 = .ok (.if_icmp .ge 65, 3) := by decide +kernel
theorem dX1_removeLink_12 : decode cX1_removeLink 12 = .ok (.aload_n 0, 1) := by decide +kernel
theorem dX1_removeLink_13 : decode cX1_removeLink 13 = .ok (.getfield 34, 3) := by decide +kernel
theorem dX1_removeLink_16 : decode cX1_removeLink 16 = .ok (.iload_n 2, 1) := by decide +kernel
theorem dX1_removeLink_17 : decode cX1_removeLink 17 = .ok (.aload_n 0, 1) := by decide +kernel
theorem dX1_removeLink_18 : decode cX1_removeLink 18 = .ok (.getfield 34, 3) := by decide +kernel
theorem dX1_removeLink_21 : decode cX1_removeLink 21 = .ok (.iload_n 2, 1) := by decide +kernel
theorem dX1_removeLink_22 : decode cX1_removeLink 22 = .ok (.iconst 1, 1) := by decide +kernel
theorem dX1_removeLink_23 : decode cX1_removeLink 23 = .ok (.iadd, 1) := by decide +kernel
theorem dX1_removeLink_24 : decode cX1_removeLink 24 = .ok (.iaload, 1) := by decide +kernel
theorem dX1_removeLink_25 : decode cX1_removeLink 25 = .ok (.iastore, 1) := by decide +kernel
theorem dX1_removeLink_26 : decode cX1_removeLink 26 = .ok (.aload_n 0, 1) := by decide +kernel
theorem dX1_removeLink_27 : decode cX1_removeLink 27 = .ok (.getfield 37, 3) := by decide +kernel
theorem dX1_removeLink_30 : decode cX1_removeLink 30 = .ok (.iload_n 2, 1) := by decide +kernel
theorem dX1_removeLink_31 : decode cX1_removeLink 31 = .ok (.aload_n 0, 1) := by decide +kernel
theorem dX1_removeLink_32 : decode cX1_removeLink 32 = .ok (.getfield 37, 3) := by decide +kernel
theorem dX1_removeLink_35 : decode cX1_removeLink 35 = .ok (.iload_n 2, 1) := by decide +kernel
theorem dX1_removeLink_36 : decode cX1_removeLink 36 = .ok (.iconst 1, 1) := by decide +kernel
theorem dX1_removeLink_37 : decode cX1_removeLink 37 = .ok (.iadd, 1) := by decide +kernel
theorem dX1_removeLink_38 : decode cX1_removeLink 38 = .ok (.iaload, 1) := by decide +kernel
theorem dX1_removeLink_39 : decode cX1_removeLink 39 = .ok (.iastore, 1) := by decide +kernel
theorem dX1_removeLink_40 : decode cX1_removeLink 40 = .ok (.aload_n 0, 1) := by decide +kernel
theorem dX1_removeLink_41 : decode cX1_removeLink 41 = .ok (.getfield 40, 3) := by decide +kernel
theorem dX1_removeLink_44 : decode cX1_removeLink 44 = .ok (.iload_n 2, 1) := by decide +kernel
theorem dX1_removeLink_45 : decode cX1_removeLink 45 = .ok (.aload_n 0, 1) := by decide +kernel
theorem dX1_removeLink_46 : decode cX1_removeLink 46 = .ok (.getfield 40, 3) := by decide +kernel
theorem dX1_removeLink_49 : decode cX1_removeLink 49 = .ok (.iload_n 2, 1) := by decide +kernel
theorem dX1_removeLink_50 : decode cX1_removeLink 50 = .ok (.iconst 1, 1) := by decide +kernel
theorem dX1_removeLink_51 : decode cX1_removeLink 51 = .ok (.iadd, 1) := by decide +kernel
theorem dX1_removeLink_52 : decode cX1_removeLink 52 = .ok (.iaload, 1) := by decide +kernel
theorem dX1_removeLink_53 : decode cX1_removeLink 53 = .ok (.iastore, 1) := by decide +kernel
theorem dX1_removeLink_54 : decode cX1_removeLink 54 = .ok (.aload_n 0, 1) := by decide +kernel
theorem dX1_removeLink_55 : decode cX1_removeLink 55 = .ok (.getfield 43, 3) := by decide +kernel
theorem dX1_removeLink_58 : decode cX1_removeLink 58 = .ok (.iload_n 2, 1) := by decide +kernel
theorem dX1_removeLink_59 : decode cX1_removeLink 59 = .ok (.aload_n 0, 1) := by decide +kernel
theorem dX1_removeLink_60 : decode cX1_removeLink 60 = .ok (.getfield 43, 3) := by decide +kernel
theorem dX1_removeLink_63 : decode cX1_removeLink 63 = .ok (.iload_n 2, 1) := by decide +kernel
theorem dX1_removeLink_64 : decode cX1_removeLink 64 = .ok (.iconst 1, 1) := by decide +kernel
theorem dX1_removeLink_65 : decode cX1_removeLink 65 = .ok (.iadd, 1) := by decide +kernel
theorem dX1_removeLink_66 : decode cX1_removeLink 66 = .ok (.iaload, 1) := by decide +kernel
theorem dX1_removeLink_67 : decode cX1_removeLink 67 = .ok (.iastore, 1) := by decide +kernel
theorem dX1_removeLink_68 : decode cX1_removeLink 68 = .ok (.iinc 2 1, 3) := by decide +kernel
theorem dX1_removeLink_71 : decode cX1_removeLink 71 = .ok (.goto (-69), 3) := by decide +kernel
theorem dX1_removeLink_74 : decode cX1_removeLink 74 = .ok (.aload_n 0, 1) := by decide +kernel
theorem dX1_removeLink_75 : decode cX1_removeLink 75 = .ok (.dup, 1) := by decide +kernel
theorem dX1_removeLink_76 : decode cX1_removeLink 76 = .ok (.getfield 31, 3) := by decide +kernel
theorem dX1_removeLink_79 : decode cX1_removeLink 79 = .ok (.iconst 1, 1) := by decide +kernel
theorem dX1_removeLink_80 : decode cX1_removeLink 80 = .ok (.isub, 1) := by decide +kernel
theorem dX1_removeLink_81 : decode cX1_removeLink 81 = .ok (.putfield 31, 3) := by decide +kernel
theorem dX1_removeLink_84 : decode cX1_removeLink 84 = .ok (.return_, 1) := by decide +kernel
set_option maxRecDepth 20000 in
theorem ggX1_linkNext_X1_addLink : GoodIn wsX1_linkNext wsX1_addLink := goodIn_ca (goodIn_r _ [7, 8, 9, 10, 11, 12, 13, 14, 15, 16, 17, 18, 19, 20, 21, 22, 23] (by decide +kernel) (by decide +kernel)) (goodIn_sub (fun _ h => List.mem_cons_of_mem _ (List.mem_append_right _ h)) (by decide +kernel))
set_option maxRecDepth 20000 in
theorem gX1_linkNext_X1_addLink : GoodIn wsX1_linkNext (wsV RX1 50 RX1 yX1_addLink wsX1_addLink) := goodIn_app (goodIn_of _ (by decide +kernel)) ggX1_linkNext_X1_addLink
theorem dX1_linkNext_0 : decode cX1_linkNext 0 = .ok (.iconst 0, 1) := by decide +kernel
theorem dX1_linkNext_1 : decode cX1_linkNext 1 = .ok (.istore 4, 2) := by decide +kernel
theorem dX1_linkNext_3 : decode cX1_linkNext 3 = .ok (.iload 4, 2) := by decide +kernel
theorem dX1_linkNext_5 : decode cX1_linkNext 5 = .ok (.aload_n 0, 1) := by decide +kernel
theorem dX1_linkNext_6 : decode cX1_linkNext 6 = .ok (.getfield 9, 3) := by decide +kernel
theorem dX1_linkNext_9 : decode cX1_linkNext 9 = .ok (.iconst 1, 1) := by decide +kernel
theorem dX1_linkNext_10 : decode cX1_linkNext 10 = .ok (.isub, 1) := by decide +kernel
theorem dX1_linkNext_11 : decode cX1_linkNext 11 = .ok (.if_icmp .ge 31, 3) := by decide +kernel
theorem dX1_linkNext_14 : decode cX1_linkNext 14 = .ok (.aload_n 0, 1) := by decide +kernel
theorem dX1_linkNext_15 : decode cX1_linkNext 15 = .ok (.aload_n 0, 1) := by decide +kernel
theorem dX1_linkNext_16 : decode cX1_linkNext 16 = .ok (.getfield 18, 3) := by decide +kernel
theorem dX1_linkNext_19 : decode cX1_linkNext 19 = .ok (.iload 4, 2) := by decide +kernel
theorem dX1_linkNext_21 : decode cX1_linkNext 21 = .ok (.iaload, 1) := by decide +kernel
theorem dX1_linkNext_22 : decode cX1_linkNext 22 = .ok (.aload_n 0, 1) := by decide +kernel
theorem dX1_linkNext_23 : decode cX1_linkNext 23 = .ok (.getfield 18, 3) := by decide +kernel
theorem dX1_linkNext_26 : decode cX1_linkNext 26 = .ok (.iload 4, 2) := by decide +kernel
theorem dX1_linkNext_28 : decode cX1_linkNext 28 = .ok (.iconst 1, 1) := by decide +kernel
theorem dX1_linkNext_29 : decode cX1_linkNext 29 = .ok (.iadd, 1) := by decide +kernel
theorem dX1_linkNext_30 : decode cX1_linkNext 30 = .ok (.iaload, 1) := by decide +kernel
theorem dX1_linkNext_31 : decode cX1_linkNext 31 = .ok (.iload_n 1, 1) := by decide +kernel
theorem dX1_linkNext_32 : decode cX1_linkNext 32 = .ok (.iload_n 2, 1) := by decide +kernel
theorem dX1_linkNext_33 : decode cX1_linkNext 33 = .ok (.invokevirtual 50, 3) := by decide +kernel
theorem dX1_linkNext_36 : decode cX1_linkNext 36 = .ok (.iinc 4 1, 3) := by decide +kernel
theorem dX1_linkNext_39 : decode cX1_linkNext 39 = .ok (.goto (-36), 3) := by decide +kernel
theorem dX1_linkNext_42 : decode cX1_linkNext 42 = .ok (.iload_n 3, 1) := by decide +kernel
theorem dX1_linkNext_43 : decode cX1_linkNext 43 = .ok (.ifCond .eq 33, 3) := by decide +kernel
theorem dX1_linkNext_46 : decode cX1_linkNext 46 = .ok (.aload_n 0, 1) := by decide +kernel
theorem dX1_linkNext_47 : decode cX1_linkNext 47 = .ok (.getfield 9, 3) := by decide +kernel
theorem dX1_linkNext_50 : decode cX1_linkNext 50 = .ok (.ifCond .le 26, 3) := by decide +kernel
theorem dX1_linkNext_53 : decode cX1_linkNext 53 = .ok (.aload_n 0, 1) := by decide +kernel
theorem dX1_linkNext_54 : decode cX1_linkNext 54 = .ok (.aload_n 0, 1) := by decide +kernel
theorem dX1_linkNext_55 : decode cX1_linkNext 55 = .ok (.getfield 18, 3) := by decide +kernel
theorem dX1_linkNext_58 : decode cX1_linkNext 58 = .ok (.aload_n 0, 1) := by decide +kernel
theorem dX1_linkNext_59 : decode cX1_linkNext 59 = .ok (.getfield 9, 3) := by decide +kernel
theorem dX1_linkNext_62 : decode cX1_linkNext 62 = .ok (.iconst 1, 1) := by decide +kernel
theorem dX1_linkNext_63 : decode cX1_linkNext 63 = .ok (.isub, 1) := by decide +kernel
theorem dX1_linkNext_64 : decode cX1_linkNext 64 = .ok (.iaload, 1) := by decide +kernel
theorem dX1_linkNext_65 : decode cX1_linkNext 65 = .ok (.aload_n 0, 1) := by decide +kernel
theorem dX1_linkNext_66 : decode cX1_linkNext 66 = .ok (.getfield 18, 3) := by decide +kernel
theorem dX1_linkNext_69 : decode cX1_linkNext 69 = .ok (.iconst 0, 1) := by decide +kernel
theorem dX1_linkNext_70 : decode cX1_linkNext 70 = .ok (.iaload, 1) := by decide +kernel
theorem dX1_linkNext_71 : decode cX1_linkNext 71 = .ok (.iload_n 1, 1) := by decide +kernel
theorem dX1_linkNext_72 : decode cX1_linkNext 72 = .ok (.iload_n 2, 1) := by decide +kernel
theorem dX1_linkNext_73 : decode cX1_linkNext 73 = .ok (.invokevirtual 50, 3) := by decide +kernel
theorem dX1_linkNext_76 : decode cX1_linkNext 76 = .ok (.return_, 1) := by decide +kernel
set_option maxRecDepth 20000 in
theorem ggX1_linkHub_X1_addLink : GoodIn wsX1_linkHub wsX1_addLink := goodIn_ca (goodIn_r _ [7, 8, 9, 10, 11, 12, 13, 14, 15, 16, 17, 18, 19, 20, 21, 22, 23] (by decide +kernel) (by decide +kernel)) (goodIn_sub (fun _ h => List.mem_cons_of_mem _ (List.mem_append_right _ h)) (by decide +kernel))
set_option maxRecDepth 20000 in
theorem gX1_linkHub_X1_addLink : GoodIn wsX1_linkHub (wsV RX1 50 RX1 yX1_addLink wsX1_addLink) := goodIn_app (goodIn_of _ (by decide +kernel)) ggX1_linkHub_X1_addLink
theorem dX1_linkHub_0 : decode cX1_linkHub 0 = .ok (.iconst 1, 1) := by decide +kernel
theorem dX1_linkHub_1 : decode cX1_linkHub 1 = .ok (.istore_n 3, 1) := by decide +kernel
theorem dX1_linkHub_2 : decode cX1_linkHub 2 = .ok (.iload_n 3, 1) := by decide +kernel
theorem dX1_linkHub_3 : decode cX1_linkHub 3 = .ok (.aload_n 0, 1) := by decide +kernel
theorem dX1_linkHub_4 : decode cX1_linkHub 4 = .ok (.getfield 9, 3) := by decide +kernel
theorem dX1_linkHub_7 : decode cX1_linkHub 7 = .ok (.if_icmp .ge 45, 3) := by decide +kernel
theorem dX1_linkHub_10 : decode cX1_linkHub 10 = .ok (.aload_n 0, 1) := by decide +kernel
theorem dX1_linkHub_11 : decode cX1_linkHub 11 = .ok (.aload_n 0, 1) := by decide +kernel
theorem dX1_linkHub_12 : decode cX1_linkHub 12 = .ok (.getfield 18, 3) := by decide +kernel
theorem dX1_linkHub_15 : decode cX1_linkHub 15 = .ok (.iconst 0, 1) := by decide +kernel
theorem dX1_linkHub_16 : decode cX1_linkHub 16 = .ok (.iaload, 1) := by decide +kernel
theorem dX1_linkHub_17 : decode cX1_linkHub 17 = .ok (.aload_n 0, 1) := by decide +kernel
theorem dX1_linkHub_18 : decode cX1_linkHub 18 = .ok (.getfield 18, 3) := by decide +kernel
theorem dX1_linkHub_21 : decode cX1_linkHub 21 = .ok (.iload_n 3, 1) := by decide +kernel
theorem dX1_linkHub_22 : decode cX1_linkHub 22 = .ok (.iaload, 1) := by decide +kernel
theorem dX1_linkHub_23 : decode cX1_linkHub 23 = .ok (.iload_n 1, 1) := by decide +kernel
theorem dX1_linkHub_24 : decode cX1_linkHub 24 = .ok (.iload_n 2, 1) := by decide +kernel
theorem dX1_linkHub_25 : decode cX1_linkHub 25 = .ok (.invokevirtual 50, 3) := by decide +kernel
theorem dX1_linkHub_28 : decode cX1_linkHub 28 = .ok (.aload_n 0, 1) := by decide +kernel
theorem dX1_linkHub_29 : decode cX1_linkHub 29 = .ok (.aload_n 0, 1) := by decide +kernel
theorem dX1_linkHub_30 : decode cX1_linkHub 30 = .ok (.getfield 18, 3) := by decide +kernel
theorem dX1_linkHub_33 : decode cX1_linkHub 33 = .ok (.iload_n 3, 1) := by decide +kernel
theorem dX1_linkHub_34 : decode cX1_linkHub 34 = .ok (.iaload, 1) := by decide +kernel
theorem dX1_linkHub_35 : decode cX1_linkHub 35 = .ok (.aload_n 0, 1) := by decide +kernel
theorem dX1_linkHub_36 : decode cX1_linkHub 36 = .ok (.getfield 18, 3) := by decide +kernel
theorem dX1_linkHub_39 : decode cX1_linkHub 39 = .ok (.iconst 0, 1) := by decide +kernel
theorem dX1_linkHub_40 : decode cX1_linkHub 40 = .ok (.iaload, 1) := by decide +kernel
theorem dX1_linkHub_41 : decode cX1_linkHub 41 = .ok (.iload_n 1, 1) := by decide +kernel
theorem dX1_linkHub_42 : decode cX1_linkHub 42 = .ok (.iload_n 2, 1) := by decide +kernel
theorem dX1_linkHub_43 : decode cX1_linkHub 43 = .ok (.invokevirtual 50, 3) := by decide +kernel
theorem dX1_linkHub_46 : decode cX1_linkHub 46 = .ok (.iinc 3 1, 3) := by decide +kernel
theorem dX1_linkHub_49 : decode cX1_linkHub 49 = .ok (.goto (-47), 3) := by decide +kernel
theorem dX1_linkHub_52 : decode cX1_linkHub 52 = .ok (.return_, 1) := by decide +kernel
set_option maxRecDepth 20000 in
theorem ggX1_linkAll_X1_addLink : GoodIn wsX1_linkAll wsX1_addLink := goodIn_ca (goodIn_r _ [7, 8, 9, 10, 11, 12, 13, 14, 15, 16, 17, 18, 19, 20, 21, 22, 23] (by decide +kernel) (by decide +kernel)) (goodIn_sub (fun _ h => List.mem_cons_of_mem _ (List.mem_append_right _ h)) (by decide +kernel))
set_option maxRecDepth 20000 in
theorem gX1_linkAll_X1_addLink : GoodIn wsX1_linkAll (wsV RX1 50 RX1 yX1_addLink wsX1_addLink) := goodIn_app (goodIn_of _ (by decide +kernel)) ggX1_linkAll_X1_addLink
theorem dX1_linkAll_0 : decode cX1_linkAll 0 = .ok (.iconst 0, 1) := by decide +kernel
theorem dX1_linkAll_1 : decode cX1_linkAll 1 = .ok (.istore_n 3, 1) := by decide +kernel
theorem dX1_linkAll_2 : decode cX1_linkAll 2 = .ok (.iload_n 3, 1) := by decide +kernel
theorem dX1_linkAll_3 : decode cX1_linkAll 3 = .ok (.aload_n 0, 1) := by decide +kernel
theorem dX1_linkAll_4 : decode cX1_linkAll 4 = .ok (.getfield 9, 3) := by decide +kernel
theorem dX1_linkAll_7 : decode cX1_linkAll 7 = .ok (.if_icmp .ge 52, 3) := by decide +kernel
theorem dX1_linkAll_10 : decode cX1_linkAll 10 = .ok (.iconst 0, 1) := by decide +kernel
theorem dX1_linkAll_11 : decode cX1_linkAll 11 = .ok (.istore 4, 2) := by decide +kernel
theorem dX1_linkAll_13 : decode cX1_linkAll 13 = .ok (.iload 4, 2) := by decide +kernel
theorem dX1_linkAll_15 : decode cX1_linkAll 15 = .ok (.aload_n 0, 1) := by decide +kernel
theorem dX1_linkAll_16 : decode cX1_linkAll 16 = .ok (.getfield 9, 3) := by decide +kernel
theorem dX1_linkAll_19 : decode cX1_linkAll 19 = .ok (.if_icmp .ge 34, 3) := by decide +kernel
theorem dX1_linkAll_22 : decode cX1_linkAll 22 = .ok (.iload_n 3, 1) := by decide +kernel
theorem dX1_linkAll_23 : decode cX1_linkAll 23 = .ok (.iload 4, 2) := by decide +kernel
theorem dX1_linkAll_25 : decode cX1_linkAll 25 = .ok (.if_icmp .eq 22, 3) := by decide +kernel
theorem dX1_linkAll_28 : decode cX1_linkAll 28 = .ok (.aload_n 0, 1) := by decide +kernel
theorem dX1_linkAll_29 : decode cX1_linkAll 29 = .ok (.aload_n 0, 1) := by decide +kernel
theorem dX1_linkAll_30 : decode cX1_linkAll 30 = .ok (.getfield 18, 3) := by decide +kernel
theorem dX1_linkAll_33 : decode cX1_linkAll 33 = .ok (.iload_n 3, 1) := by decide +kernel
theorem dX1_linkAll_34 : decode cX1_linkAll 34 = .ok (.iaload, 1) := by decide +kernel
theorem dX1_linkAll_35 : decode cX1_linkAll 35 = .ok (.aload_n 0, 1) := by decide +kernel
theorem dX1_linkAll_36 : decode cX1_linkAll 36 = .ok (.getfield 18, 3) := by decide +kernel
theorem dX1_linkAll_39 : decode cX1_linkAll 39 = .ok (.iload 4, 2) := by decide +kernel
theorem dX1_linkAll_41 : decode cX1_linkAll 41 = .ok (.iaload, 1) := by decide +kernel
theorem dX1_linkAll_42 : decode cX1_linkAll 42 = .ok (.iload_n 1, 1) := by decide +kernel
theorem dX1_linkAll_43 : decode cX1_linkAll 43 = .ok (.iload_n 2, 1) := by decide +kernel
theorem dX1_linkAll_44 : decode cX1_linkAll 44 = .ok (.invokevirtual 50, 3) := by decide +kernel
theorem dX1_linkAll_47 : decode cX1_linkAll 47 = .ok (.iinc 4 1, 3) := by decide +kernel
theorem dX1_linkAll_50 : decode cX1_linkAll 50 = .ok (.goto (-37), 3) := by decide +kernel
theorem dX1_linkAll_53 : decode cX1_linkAll 53 = .ok (.iinc 3 1, 3) := by decide +kernel
theorem dX1_linkAll_56 : decode cX1_linkAll 56 = .ok (.goto (-54), 3) := by decide +kernel
theorem dX1_linkAll_59 : decode cX1_linkAll 59 = .ok (.return_, 1) := by decide +kernel
set_option maxRecDepth 20000 in
theorem ggX1_takeTwo_X1_setPlaces : GoodIn wsX1_takeTwo wsX1_setPlaces := goodIn_ca (goodIn_r _ [17, 18, 19, 20, 29, 30, 31, 32, 33, 34, 35, 36, 37, 38, 39] (by decide +kernel) (by decide +kernel)) (goodIn_sub (fun _ h => List.mem_cons_of_mem _ (List.mem_append_right _ h)) (by decide +kernel))
set_option maxRecDepth 20000 in
theorem gX1_takeTwo_X1_setPlaces : GoodIn wsX1_takeTwo (wsV RX1 46 RX1 yX1_setPlaces wsX1_setPlaces) := goodIn_app (goodIn_of _ (by decide +kernel)) ggX1_takeTwo_X1_setPlaces
set_option maxRecDepth 20000 in
theorem ggX1_takeTwo_X1_has : GoodIn wsX1_takeTwo wsX1_has := goodIn_r _ [24, 18, 29, 30, 31, 32, 33, 34, 35, 36, 37, 38, 39] (by decide +kernel) (by decide +kernel)
set_option maxRecDepth 20000 in
theorem gX1_takeTwo_X1_has : GoodIn wsX1_takeTwo (wsV RX1 60 RX1 yX1_has wsX1_has) := goodIn_app (goodIn_of _ (by decide +kernel)) ggX1_takeTwo_X1_has
set_option maxRecDepth 20000 in
theorem ggX1_takeTwo_X1_addLink : GoodIn wsX1_takeTwo wsX1_addLink := goodIn_ca (goodIn_r _ [28, 8, 9, 10, 11, 12, 29, 30, 31, 32, 33, 34, 35, 36, 37, 38, 39] (by decide +kernel) (by decide +kernel)) (goodIn_sub (fun _ h => List.mem_cons_of_mem _ (List.mem_append_right _ h)) (by decide +kernel))
set_option maxRecDepth 20000 in
theorem gX1_takeTwo_X1_addLink : GoodIn wsX1_takeTwo (wsV RX1 50 RX1 yX1_addLink wsX1_addLink) := goodIn_app (goodIn_of _ (by decide +kernel)) ggX1_takeTwo_X1_addLink
theorem dX1_takeTwo_0 : decode cX1_takeTwo 0 = .ok (.aload_n 0, 1) := by decide +kernel
theorem dX1_takeTwo_1 : decode cX1_takeTwo 1 = .ok (.iconst 1, 1) := by decide +kernel
theorem dX1_takeTwo_2 : decode cX1_takeTwo 2 = .ok (.iload_n 2, 1) := by decide +kernel
theorem dX1_takeTwo_3 : decode cX1_takeTwo 3 = .ok (.ishl, 1) := by decide +kernel
theorem dX1_takeTwo_4 : decode cX1_takeTwo 4 = .ok (.iconst 1, 1) := by decide +kernel
theorem dX1_takeTwo_5 : decode cX1_takeTwo 5 = .ok (.iload_n 3, 1) := by decide +kernel
theorem dX1_takeTwo_6 : decode cX1_takeTwo 6 = .ok (.ishl, 1) := by decide +kernel
theorem dX1_takeTwo_7 : decode cX1_takeTwo 7 = .ok (.ior, 1) := by decide +kernel
theorem dX1_takeTwo_8 : decode cX1_takeTwo 8 = .ok (.invokevirtual 46, 3) := by decide +kernel
theorem dX1_takeTwo_11 : decode cX1_takeTwo 11 = .ok (.aload_n 1, 1) := by decide +kernel
theorem dX1_takeTwo_12 : decode cX1_takeTwo 12 = .ok (.getfield 22, 3) := by decide +kernel
theorem dX1_takeTwo_15 : decode cX1_takeTwo 15 = .ok (.iconst 0, 1) := by decide +kernel
theorem dX1_takeTwo_16 : decode cX1_takeTwo 16 = .ok (.aload_n 0, 1) := by decide +kernel
theorem dX1_takeTwo_17 : decode cX1_takeTwo 17 = .ok (.getfield 22, 3) := by decide +kernel
theorem dX1_takeTwo_20 : decode cX1_takeTwo 20 = .ok (.iconst 0, 1) := by decide +kernel
theorem dX1_takeTwo_21 : decode cX1_takeTwo 21 = .ok (.bipush 16, 2) := by decide +kernel
theorem dX1_takeTwo_23 : decode cX1_takeTwo 23 = .ok (.invokestatic 54, 3) := by decide +kernel
theorem dX1_takeTwo_26 : decode cX1_takeTwo 26 = .ok (.aload_n 1, 1) := by decide +kernel
theorem dX1_takeTwo_27 : decode cX1_takeTwo 27 = .ok (.getfield 25, 3) := by decide +kernel
theorem dX1_takeTwo_30 : decode cX1_takeTwo 30 = .ok (.iconst 0, 1) := by decide +kernel
theorem dX1_takeTwo_31 : decode cX1_takeTwo 31 = .ok (.aload_n 0, 1) := by decide +kernel
theorem dX1_takeTwo_32 : decode cX1_takeTwo 32 = .ok (.getfield 25, 3) := by decide +kernel
theorem dX1_takeTwo_35 : decode cX1_takeTwo 35 = .ok (.iconst 0, 1) := by decide +kernel
theorem dX1_takeTwo_36 : decode cX1_takeTwo 36 = .ok (.bipush 16, 2) := by decide +kernel
theorem dX1_takeTwo_38 : decode cX1_takeTwo 38 = .ok (.invokestatic 54, 3) := by decide +kernel
theorem dX1_takeTwo_41 : decode cX1_takeTwo 41 = .ok (.aload_n 1, 1) := by decide +kernel
theorem dX1_takeTwo_42 : decode cX1_takeTwo 42 = .ok (.getfield 28, 3) := by decide +kernel
theorem dX1_takeTwo_45 : decode cX1_takeTwo 45 = .ok (.iconst 0, 1) := by decide +kernel
theorem dX1_takeTwo_46 : decode cX1_takeTwo 46 = .ok (.aload_n 0, 1) := by decide +kernel
theorem dX1_takeTwo_47 : decode cX1_takeTwo 47 = .ok (.getfield 28, 3) := by decide +kernel
theorem dX1_takeTwo_50 : decode cX1_takeTwo 50 = .ok (.iconst 0, 1) := by decide +kernel
theorem dX1_takeTwo_51 : decode cX1_takeTwo 51 = .ok (.bipush 64, 2) := by decide +kernel
theorem dX1_takeTwo_53 : decode cX1_takeTwo 53 = .ok (.invokestatic 54, 3) := by decide +kernel
theorem dX1_takeTwo_56 : decode cX1_takeTwo 56 = .ok (.aload_n 0, 1) := by decide +kernel
theorem dX1_takeTwo_57 : decode cX1_takeTwo 57 = .ok (.iconst 0, 1) := by decide +kernel
theorem dX1_takeTwo_58 : decode cX1_takeTwo 58 = .ok (.putfield 31, 3) := by decide +kernel
theorem dX1_takeTwo_61 : decode cX1_takeTwo 61 = .ok (.iconst 0, 1) := by decide +kernel
theorem dX1_takeTwo_62 : decode cX1_takeTwo 62 = .ok (.istore 4, 2) := by decide +kernel
theorem dX1_takeTwo_64 : decode cX1_takeTwo 64 = .ok (.iload 4, 2) := by decide +kernel
theorem dX1_takeTwo_66 : decode cX1_takeTwo 66 = .ok (.aload_n 1, 1) := by decide +kernel
theorem dX1_takeTwo_67 : decode cX1_takeTwo 67 = .ok (.getfield 31, 3) := by decide +kernel
theorem dX1_takeTwo_70 : decode cX1_takeTwo 70 = .ok (.if_icmp .ge 69, 3) := by decide +kernel
theorem dX1_takeTwo_73 : decode cX1_takeTwo 73 = .ok (.aload_n 0, 1) := by decide +kernel
theorem dX1_takeTwo_74 : decode cX1_takeTwo 74 = .ok (.aload_n 1, 1) := by decide +kernel
theorem dX1_takeTwo_75 : decode cX1_takeTwo 75 = .ok (.getfield 34, 3) := by decide +kernel
theorem dX1_takeTwo_78 : decode cX1_takeTwo 78 = .ok (.iload 4, 2) := by decide +kernel
theorem dX1_takeTwo_80 : decode cX1_takeTwo 80 = .ok (.iaload, 1) := by decide +kernel
theorem dX1_takeTwo_81 : decode cX1_takeTwo 81 = .ok (.invokevirtual 60, 3) := by decide +kernel
theorem dX1_takeTwo_84 : decode cX1_takeTwo 84 = .ok (.ifCond .eq 49, 3) := by decide +kernel
theorem dX1_takeTwo_87 : decode cX1_takeTwo 87 = .ok (.aload_n 0, 1) := by decide +kernel
theorem dX1_takeTwo_88 : decode cX1_takeTwo 88 = .ok (.aload_n 1, 1) := by decide +kernel
theorem dX1_takeTwo_89 : decode cX1_takeTwo 89 = .ok (.getfield 37, 3) := by decide +kernel
theorem dX1_takeTwo_92 : decode cX1_takeTwo 92 = .ok (.iload 4, 2) := by decide +kernel
theorem dX1_takeTwo_94 : decode cX1_takeTwo 94 = .ok (.iaload, 1) := by decide +kernel
theorem dX1_takeTwo_95 : decode cX1_takeTwo 95 = .ok (.invokevirtual 60, 3) := by decide +kernel
theorem dX1_takeTwo_98 : decode cX1_takeTwo 98 = .ok (.ifCond .eq 35, 3) := by decide +kernel
theorem dX1_takeTwo_101 : decode cX1_takeTwo 101 = .ok (.aload_n 0, 1) := by decide +kernel
theorem dX1_takeTwo_102 : decode cX1_takeTwo 102 = .ok (.aload_n 1, 1) := by decide +kernel
theorem dX1_takeTwo_103 : decode cX1_takeTwo 103 = .ok (.getfield 34, 3) := by decide +kernel
theorem dX1_takeTwo_106 : decode cX1_takeTwo 106 = .ok (.iload 4, 2) := by decide +kernel
theorem dX1_takeTwo_108 : decode cX1_takeTwo 108 = .ok (.iaload, 1) := by decide +kernel
theorem dX1_takeTwo_109 : decode cX1_takeTwo 109 = .ok (.aload_n 1, 1) := by decide +kernel
theorem dX1_takeTwo_110 : decode cX1_takeTwo 110 = .ok (.getfield 37, 3) := by decide +kernel
theorem dX1_takeTwo_113 : decode cX1_takeTwo 113 = .ok (.iload 4, 2) := by decide +kernel
theorem dX1_takeTwo_115 : decode cX1_takeTwo 115 = .ok (.iaload, 1) := by decide +kernel
theorem dX1_takeTwo_116 : decode cX1_takeTwo 116 = .ok (.aload_n 1, 1) := by decide +kernel
theorem dX1_takeTwo_117 : decode cX1_takeTwo 117 = .ok (.getfield 40, 3) := by decide +kernel
theorem dX1_takeTwo_120 : decode cX1_takeTwo 120 = .ok (.iload 4, 2) := by decide +kernel
theorem dX1_takeTwo_122 : decode cX1_takeTwo 122 = .ok (.iaload, 1) := by decide +kernel
theorem dX1_takeTwo_123 : decode cX1_takeTwo 123 = .ok (.aload_n 1, 1) := by decide +kernel
theorem dX1_takeTwo_124 : decode cX1_takeTwo 124 = .ok (.getfield 43, 3) := by decide +kernel
theorem dX1_takeTwo_127 : decode cX1_takeTwo 127 = .ok (.iload 4, 2) := by decide +kernel
theorem dX1_takeTwo_129 : decode cX1_takeTwo 129 = .ok (.iaload, 1) := by decide +kernel
theorem dX1_takeTwo_130 : decode cX1_takeTwo 130 = .ok (.invokevirtual 50, 3) := by decide +kernel
theorem dX1_takeTwo_133 : decode cX1_takeTwo 133 = .ok (.iinc 4 1, 3) := by decide +kernel
theorem dX1_takeTwo_136 : decode cX1_takeTwo 136 = .ok (.goto (-72), 3) := by decide +kernel
theorem dX1_takeTwo_139 : decode cX1_takeTwo 139 = .ok (.return_, 1) := by decide +kernel
theorem dX1_pulled_0 : decode cX1_pulled 0 = .ok (.aload_n 0, 1) := by decide +kernel
theorem dX1_pulled_1 : decode cX1_pulled 1 = .ok (.getfield 22, 3) := by decide +kernel
theorem dX1_pulled_4 : decode cX1_pulled 4 = .ok (.iload_n 1, 1) := by decide +kernel
theorem dX1_pulled_5 : decode cX1_pulled 5 = .ok (.iaload, 1) := by decide +kernel
theorem dX1_pulled_6 : decode cX1_pulled 6 = .ok (.istore 4, 2) := by decide +kernel
theorem dX1_pulled_8 : decode cX1_pulled 8 = .ok (.iload_n 3, 1) := by decide +kernel
theorem dX1_pulled_9 : decode cX1_pulled 9 = .ok (.ifCond .eq 23, 3) := by decide +kernel
theorem dX1_pulled_12 : decode cX1_pulled 12 = .ok (.iload_n 2, 1) := by decide +kernel
theorem dX1_pulled_13 : decode cX1_pulled 13 = .ok (.aload_n 0, 1) := by decide +kernel
theorem dX1_pulled_14 : decode cX1_pulled 14 = .ok (.getfield 25, 3) := by decide +kernel
theorem dX1_pulled_17 : decode cX1_pulled 17 = .ok (.iload_n 1, 1) := by decide +kernel
theorem dX1_pulled_18 : decode cX1_pulled 18 = .ok (.iaload, 1) := by decide +kernel
theorem dX1_pulled_19 : decode cX1_pulled 19 = .ok (.if_icmp .lt 13, 3) := by decide +kernel
theorem dX1_pulled_22 : decode cX1_pulled 22 = .ok (.iload_n 2, 1) := by decide +kernel
theorem dX1_pulled_23 : decode cX1_pulled 23 = .ok (.ifCond .lt 9, 3) := by decide +kernel
theorem dX1_pulled_26 : decode cX1_pulled 26 = .ok (.iload_n 2, 1) := by decide +kernel
theorem dX1_pulled_27 : decode cX1_pulled 27 = .ok (.iload 4, 2) := by decide +kernel
theorem dX1_pulled_29 : decode cX1_pulled 29 = .ok (.if_icmp .lt 5, 3) := by decide +kernel
theorem dX1_pulled_32 : decode cX1_pulled 32 = .ok (.iload_n 2, 1) := by decide +kernel
theorem dX1_pulled_33 : decode cX1_pulled 33 = .ok (.ireturn, 1) := by decide +kernel
theorem dX1_pulled_34 : decode cX1_pulled 34 = .ok (.iconst 4, 1) := by decide +kernel
theorem dX1_pulled_35 : decode cX1_pulled 35 = .ok (.iload_n 2, 1) := by decide +kernel
theorem dX1_pulled_36 : decode cX1_pulled 36 = .ok (.imul, 1) := by decide +kernel
theorem dX1_pulled_37 : decode cX1_pulled 37 = .ok (.iload 4, 2) := by decide +kernel
theorem dX1_pulled_39 : decode cX1_pulled 39 = .ok (.idiv, 1) := by decide +kernel
theorem dX1_pulled_40 : decode cX1_pulled 40 = .ok (.istore 5, 2) := by decide +kernel
theorem dX1_pulled_42 : decode cX1_pulled 42 = .ok (.iconst 0, 1) := by decide +kernel
theorem dX1_pulled_43 : decode cX1_pulled 43 = .ok (.iload_n 2, 1) := by decide +kernel
theorem dX1_pulled_44 : decode cX1_pulled 44 = .ok (.aload_n 0, 1) := by decide +kernel
theorem dX1_pulled_45 : decode cX1_pulled 45 = .ok (.getfield 28, 3) := by decide +kernel
theorem dX1_pulled_48 : decode cX1_pulled 48 = .ok (.iload_n 1, 1) := by decide +kernel
theorem dX1_pulled_49 : decode cX1_pulled 49 = .ok (.iconst 4, 1) := by decide +kernel
theorem dX1_pulled_50 : decode cX1_pulled 50 = .ok (.imul, 1) := by decide +kernel
theorem dX1_pulled_51 : decode cX1_pulled 51 = .ok (.iload 5, 2) := by decide +kernel
theorem dX1_pulled_53 : decode cX1_pulled 53 = .ok (.iadd, 1) := by decide +kernel
theorem dX1_pulled_54 : decode cX1_pulled 54 = .ok (.iaload, 1) := by decide +kernel
theorem dX1_pulled_55 : decode cX1_pulled 55 = .ok (.iload_n 3, 1) := by decide +kernel
theorem dX1_pulled_56 : decode cX1_pulled 56 = .ok (.imul, 1) := by decide +kernel
theorem dX1_pulled_57 : decode cX1_pulled 57 = .ok (.iadd, 1) := by decide +kernel
theorem dX1_pulled_58 : decode cX1_pulled 58 = .ok (.invokestatic 64, 3) := by decide +kernel
theorem dX1_pulled_61 : decode cX1_pulled 61 = .ok (.ireturn, 1) := by decide +kernel
theorem dX2_init_0 : decode cX2_init 0 = .ok (.aload_n 0, 1) := by decide +kernel
theorem dX2_init_1 : decode cX2_init 1 = .ok (.invokespecial 3, 3) := by decide +kernel
theorem dX2_init_4 : decode cX2_init 4 = .ok (.aload_n 0, 1) := by decide +kernel
theorem dX2_init_5 : decode cX2_init 5 = .ok (.bipush 16, 2) := by decide +kernel
theorem dX2_init_7 : decode cX2_init 7 = .ok (.newarray .int, 2) := by decide +kernel
theorem dX2_init_9 : decode cX2_init 9 = .ok (.putfield 9, 3) := by decide +kernel
theorem dX2_init_12 : decode cX2_init 12 = .ok (.aload_n 0, 1) := by decide +kernel
theorem dX2_init_13 : decode cX2_init 13 = .ok (.sipush 512, 3) := by decide +kernel
theorem dX2_init_16 : decode cX2_init 16 = .ok (.newarray .int, 2) := by decide +kernel
theorem dX2_init_18 : decode cX2_init 18 = .ok (.putfield 15, 3) := by decide +kernel
theorem dX2_init_21 : decode cX2_init 21 = .ok (.aload_n 0, 1) := by decide +kernel
theorem dX2_init_22 : decode cX2_init 22 = .ok (.iconst 0, 1) := by decide +kernel
theorem dX2_init_23 : decode cX2_init 23 = .ok (.putfield 18, 3) := by decide +kernel
theorem dX2_init_26 : decode cX2_init 26 = .ok (.return_, 1) := by decide +kernel
theorem dX2_clear_0 : decode cX2_clear 0 = .ok (.iconst 0, 1) := by decide +kernel
theorem dX2_clear_1 : decode cX2_clear 1 = .ok (.istore_n 1, 1) := by decide +kernel
theorem dX2_clear_2 : decode cX2_clear 2 = .ok (.iload_n 1, 1) := by decide +kernel
theorem dX2_clear_3 : decode cX2_clear 3 = .ok (.bipush 16, 2) := by decide +kernel
theorem dX2_clear_5 : decode cX2_clear 5 = .ok (.if_icmp .ge 16, 3) := by decide +kernel
theorem dX2_clear_8 : decode cX2_clear 8 = .ok (.aload_n 0, 1) := by decide +kernel
theorem dX2_clear_9 : decode cX2_clear 9 = .ok (.getfield 9, 3) := by decide +kernel
theorem dX2_clear_12 : decode cX2_clear 12 = .ok (.iload_n 1, 1) := by decide +kernel
theorem dX2_clear_13 : decode cX2_clear 13 = .ok (.iconst 0, 1) := by decide +kernel
theorem dX2_clear_14 : decode cX2_clear 14 = .ok (.iastore, 1) := by decide +kernel
theorem dX2_clear_15 : decode cX2_clear 15 = .ok (.iinc 1 1, 3) := by decide +kernel
theorem dX2_clear_18 : decode cX2_clear 18 = .ok (.goto (-16), 3) := by decide +kernel
theorem dX2_clear_21 : decode cX2_clear 21 = .ok (.iconst 0, 1) := by decide +kernel
theorem dX2_clear_22 : decode cX2_clear 22 = .ok (.istore_n 1, 1) := by decide +kernel
theorem dX2_clear_23 : decode cX2_clear 23 = .ok (.iload_n 1, 1) := by decide +kernel
theorem dX2_clear_24 : decode cX2_clear 24 = .ok (.sipush 512, 3) := by decide +kernel
theorem dX2_clear_27 : decode cX2_clear 27 = .ok (.if_icmp .ge 16, 3) := by decide +kernel
theorem dX2_clear_30 : decode cX2_clear 30 = .ok (.aload_n 0, 1) := by decide +kernel
theorem dX2_clear_31 : decode cX2_clear 31 = .ok (.getfield 15, 3) := by decide +kernel
theorem dX2_clear_34 : decode cX2_clear 34 = .ok (.iload_n 1, 1) := by decide +kernel
theorem dX2_clear_35 : decode cX2_clear 35 = .ok (.iconst 0, 1) := by decide +kernel
theorem dX2_clear_36 : decode cX2_clear 36 = .ok (.iastore, 1) := by decide +kernel
theorem dX2_clear_37 : decode cX2_clear 37 = .ok (.iinc 1 1, 3) := by decide +kernel
theorem dX2_clear_40 : decode cX2_clear 40 = .ok (.goto (-17), 3) := by decide +kernel
theorem dX2_clear_43 : decode cX2_clear 43 = .ok (.return_, 1) := by decide +kernel
theorem dX2_copy_0 : decode cX2_copy 0 = .ok (.aload_n 1, 1) := by decide +kernel
theorem dX2_copy_1 : decode cX2_copy 1 = .ok (.getfield 9, 3) := by decide +kernel
theorem dX2_copy_4 : decode cX2_copy 4 = .ok (.iconst 0, 1) := by decide +kernel
theorem dX2_copy_5 : decode cX2_copy 5 = .ok (.aload_n 0, 1) := by decide +kernel
theorem dX2_copy_6 : decode cX2_copy 6 = .ok (.getfield 9, 3) := by decide +kernel
theorem dX2_copy_9 : decode cX2_copy 9 = .ok (.iconst 0, 1) := by decide +kernel
theorem dX2_copy_10 : decode cX2_copy 10 = .ok (.bipush 16, 2) := by decide +kernel
theorem dX2_copy_12 : decode cX2_copy 12 = .ok (.invokestatic 22, 3) := by decide +kernel
theorem dX2_copy_15 : decode cX2_copy 15 = .ok (.aload_n 1, 1) := by decide +kernel
theorem dX2_copy_16 : decode cX2_copy 16 = .ok (.getfield 15, 3) := by decide +kernel
theorem dX2_copy_19 : decode cX2_copy 19 = .ok (.iconst 0, 1) := by decide +kernel
theorem dX2_copy_20 : decode cX2_copy 20 = .ok (.aload_n 0, 1) := by decide +kernel
theorem dX2_copy_21 : decode cX2_copy 21 = .ok (.getfield 15, 3) := by decide +kernel
theorem dX2_copy_24 : decode cX2_copy 24 = .ok (.iconst 0, 1) := by decide +kernel
theorem dX2_copy_25 : decode cX2_copy 25 = .ok (.sipush 512, 3) := by decide +kernel
theorem dX2_copy_28 : decode cX2_copy 28 = .ok (.invokestatic 22, 3) := by decide +kernel
theorem dX2_copy_31 : decode cX2_copy 31 = .ok (.aload_n 0, 1) := by decide +kernel
theorem dX2_copy_32 : decode cX2_copy 32 = .ok (.aload_n 1, 1) := by decide +kernel
theorem dX2_copy_33 : decode cX2_copy 33 = .ok (.getfield 18, 3) := by decide +kernel
theorem dX2_copy_36 : decode cX2_copy 36 = .ok (.putfield 18, 3) := by decide +kernel
theorem dX2_copy_39 : decode cX2_copy 39 = .ok (.return_, 1) := by decide +kernel
theorem dX2_startOfRow_0 : decode cX2_startOfRow 0 = .ok (.aload_n 0, 1) := by decide +kernel
theorem dX2_startOfRow_1 : decode cX2_startOfRow 1 = .ok (.getfield 18, 3) := by decide +kernel
theorem dX2_startOfRow_4 : decode cX2_startOfRow 4 = .ok (.iload_n 1, 1) := by decide +kernel
theorem dX2_startOfRow_5 : decode cX2_startOfRow 5 = .ok (.iadd, 1) := by decide +kernel
theorem dX2_startOfRow_6 : decode cX2_startOfRow 6 = .ok (.bipush 31, 2) := by decide +kernel
theorem dX2_startOfRow_8 : decode cX2_startOfRow 8 = .ok (.iand, 1) := by decide +kernel
theorem dX2_startOfRow_9 : decode cX2_startOfRow 9 = .ok (.bipush 16, 2) := by decide +kernel
theorem dX2_startOfRow_11 : decode cX2_startOfRow 11 = .ok (.imul, 1) := by decide +kernel
theorem dX2_startOfRow_12 : decode cX2_startOfRow 12 = .ok (.ireturn, 1) := by decide +kernel
set_option maxRecDepth 20000 in
theorem ggX2_underWayTo_X2_startOfRow : GoodIn wsX2_underWayTo wsX2_startOfRow := goodIn_r _ [6, 7, 8, 9, 10] (by decide +kernel) (by decide +kernel)
set_option maxRecDepth 20000 in
theorem gX2_underWayTo_X2_startOfRow : GoodIn wsX2_underWayTo (wsV RX2 28 RX2 yX2_startOfRow wsX2_startOfRow) := goodIn_app (goodIn_of _ (by decide +kernel)) ggX2_underWayTo_X2_startOfRow
theorem dX2_underWayTo_0 : decode cX2_underWayTo 0 = .ok (.iconst 0, 1) := by decide +kernel
theorem dX2_underWayTo_1 : decode cX2_underWayTo 1 = .ok (.istore_n 2, 1) := by decide +kernel
theorem dX2_underWayTo_2 : decode cX2_underWayTo 2 = .ok (.iconst 1, 1) := by decide +kernel
theorem dX2_underWayTo_3 : decode cX2_underWayTo 3 = .ok (.istore_n 3, 1) := by decide +kernel
theorem dX2_underWayTo_4 : decode cX2_underWayTo 4 = .ok (.iload_n 3, 1) := by decide +kernel
theorem dX2_underWayTo_5 : decode cX2_underWayTo 5 = .ok (.bipush 30, 2) := by decide +kernel
theorem dX2_underWayTo_7 : decode cX2_underWayTo 7 = .ok (.if_icmp .gt 24, 3) := by decide +kernel
theorem dX2_underWayTo_10 : decode cX2_underWayTo 10 = .ok (.iload_n 2, 1) := by decide +kernel
theorem dX2_underWayTo_11 : decode cX2_underWayTo 11 = .ok (.aload_n 0, 1) := by decide +kernel
theorem dX2_underWayTo_12 : decode cX2_underWayTo 12 = .ok (.getfield 15, 3) := by decide +kernel
theorem dX2_underWayTo_15 : decode cX2_underWayTo 15 = .ok (.aload_n 0, 1) := by decide +kernel
theorem dX2_underWayTo_16 : decode cX2_underWayTo 16 = .ok (.iload_n 3, 1) := by decide +kernel
theorem dX2_underWayTo_17 : decode cX2_underWayTo 17 = .ok (.invokevirtual 28, 3) := by decide +kernel
theorem dX2_underWayTo_20 : decode cX2_underWayTo 20 = .ok (.iload_n 1, 1) := by decide +kernel
theorem dX2_underWayTo_21 : decode cX2_underWayTo 21 = .ok (.iadd, 1) := by decide +kernel
theorem dX2_underWayTo_22 : decode cX2_underWayTo 22 = .ok (.iaload, 1) := by decide +kernel
theorem dX2_underWayTo_23 : decode cX2_underWayTo 23 = .ok (.iadd, 1) := by decide +kernel
theorem dX2_underWayTo_24 : decode cX2_underWayTo 24 = .ok (.istore_n 2, 1) := by decide +kernel
theorem dX2_underWayTo_25 : decode cX2_underWayTo 25 = .ok (.iinc 3 1, 3) := by decide +kernel
theorem dX2_underWayTo_28 : decode cX2_underWayTo 28 = .ok (.goto (-24), 3) := by decide +kernel
theorem dX2_underWayTo_31 : decode cX2_underWayTo 31 = .ok (.iload_n 2, 1) := by decide +kernel
theorem dX2_underWayTo_32 : decode cX2_underWayTo 32 = .ok (.ireturn, 1) := by decide +kernel
set_option maxRecDepth 20000 in
theorem ggX2_advance_X2_startOfRow : GoodIn wsX2_advance wsX2_startOfRow := goodIn_r _ [8, 1, 24, 25, 26] (by decide +kernel) (by decide +kernel)
set_option maxRecDepth 20000 in
theorem gX2_advance_X2_startOfRow : GoodIn wsX2_advance (wsV RX2 28 RX2 yX2_startOfRow wsX2_startOfRow) := goodIn_app (goodIn_of _ (by decide +kernel)) ggX2_advance_X2_startOfRow
set_option maxRecDepth 20000 in
theorem ggX2_advance_X1_pulled : GoodIn wsX2_advance wsX1_pulled := goodIn_ca (goodIn_ca (goodIn_r _ [12, 13, 14, 15, 16, 17, 18, 19, 27, 28, 29, 30, 31, 32, 33, 34, 35, 36, 37] (by decide +kernel) (by decide +kernel)) (goodIn_sub (fun _ h => List.mem_cons_of_mem _ (List.mem_append_left _ (List.mem_append_right _ h))) (by decide +kernel))) (goodIn_sub (fun _ h => List.mem_cons_of_mem _ (List.mem_append_right _ h)) (by decide +kernel))
set_option maxRecDepth 20000 in
theorem gX2_advance_X1_pulled_n40 : GoodIn wsX2_advance (wsX1_pulled) := ggX2_advance_X1_pulled
set_option maxRecDepth 20000 in
theorem ggX2_advance_X2_sendSignals : GoodIn wsX2_advance wsX2_sendSignals := goodIn_ca (goodIn_r _ [23, 3, 4, 5, 6, 7, 8, 1, 27, 28, 29, 30, 31, 32, 33, 34, 35, 36, 37, 24, 25, 26] (by decide +kernel) (by decide +kernel)) (goodIn_sub (fun _ h => List.mem_cons_of_mem _ (List.mem_append_left _ (List.mem_append_right _ h))) (by decide +kernel))
set_option maxRecDepth 20000 in
theorem gX2_advance_X2_sendSignals : GoodIn wsX2_advance (wsV RX2 47 RX2 yX2_sendSignals wsX2_sendSignals) := goodIn_app (goodIn_of _ (by decide +kernel)) ggX2_advance_X2_sendSignals
theorem dX2_advance_0 : decode cX2_advance 0 = .ok (.aload_n 0, 1) := by decide +kernel
theorem dX2_advance_1 : decode cX2_advance 1 = .ok (.aload_n 0, 1) := by decide +kernel
theorem dX2_advance_2 : decode cX2_advance 2 = .ok (.getfield 18, 3) := by decide +kernel
theorem dX2_advance_5 : decode cX2_advance 5 = .ok (.iconst 1, 1) := by decide +kernel
theorem dX2_advance_6 : decode cX2_advance 6 = .ok (.iadd, 1) := by decide +kernel
theorem dX2_advance_7 : decode cX2_advance 7 = .ok (.bipush 31, 2) := by decide +kernel
theorem dX2_advance_9 : decode cX2_advance 9 = .ok (.iand, 1) := by decide +kernel
theorem dX2_advance_10 : decode cX2_advance 10 = .ok (.putfield 18, 3) := by decide +kernel
theorem dX2_advance_13 : decode cX2_advance 13 = .ok (.aload_n 0, 1) := by decide +kernel
theorem dX2_advance_14 : decode cX2_advance 14 = .ok (.iconst 0, 1) := by decide +kernel
theorem dX2_advance_15 : decode cX2_advance 15 = .ok (.invokevirtual 28, 3) := by decide +kernel
theorem dX2_advance_18 : decode cX2_advance 18 = .ok (.istore_n 3, 1) := by decide +kernel
theorem dX2_advance_19 : decode cX2_advance 19 = .ok (.iconst 0, 1) := by decide +kernel
theorem dX2_advance_20 : decode cX2_advance 20 = .ok (.istore 4, 2) := by decide +kernel
theorem dX2_advance_22 : decode cX2_advance 22 = .ok (.iconst 0, 1) := by decide +kernel
theorem dX2_advance_23 : decode cX2_advance 23 = .ok (.istore 5, 2) := by decide +kernel
theorem dX2_advance_25 : decode cX2_advance 25 = .ok (.iload 5, 2) := by decide +kernel
theorem dX2_advance_27 : decode cX2_advance 27 = .ok (.aload_n 1, 1) := by decide +kernel
theorem dX2_advance_28 : decode cX2_advance 28 = .ok (.getfield 32, 3) := by decide +kernel
theorem dX2_advance_31 : decode cX2_advance 31 = .ok (.if_icmp .ge 84, 3) := by decide +kernel
theorem dX2_advance_34 : decode cX2_advance 34 = .ok (.aload_n 1, 1) := by decide +kernel
theorem dX2_advance_35 : decode cX2_advance 35 = .ok (.getfield 37, 3) := by decide +kernel
theorem dX2_advance_38 : decode cX2_advance 38 = .ok (.iload 5, 2) := by decide +kernel
theorem dX2_advance_40 : decode cX2_advance 40 = .ok (.iaload, 1) := by decide +kernel
theorem dX2_advance_41 : decode cX2_advance 41 = .ok (.istore 6, 2) := by decide +kernel
theorem dX2_advance_43 : decode cX2_advance 43 = .ok (.aload_n 1, 1) := by decide +kernel
theorem dX2_advance_44 : decode cX2_advance 44 = .ok (.iload 6, 2) := by decide +kernel
theorem dX2_advance_46 : decode cX2_advance 46 = .ok (.aload_n 0, 1) := by decide +kernel
theorem dX2_advance_47 : decode cX2_advance 47 = .ok (.getfield 9, 3) := by decide +kernel
theorem dX2_advance_50 : decode cX2_advance 50 = .ok (.iload 6, 2) := by decide +kernel
theorem dX2_advance_52 : decode cX2_advance 52 = .ok (.iaload, 1) := by decide +kernel
theorem dX2_advance_53 : decode cX2_advance 53 = .ok (.aload_n 0, 1) := by decide +kernel
theorem dX2_advance_54 : decode cX2_advance 54 = .ok (.getfield 15, 3) := by decide +kernel
theorem dX2_advance_57 : decode cX2_advance 57 = .ok (.iload_n 3, 1) := by decide +kernel
theorem dX2_advance_58 : decode cX2_advance 58 = .ok (.iload 6, 2) := by decide +kernel
theorem dX2_advance_60 : decode cX2_advance 60 = .ok (.iadd, 1) := by decide +kernel
theorem dX2_advance_61 : decode cX2_advance 61 = .ok (.iaload, 1) := by decide +kernel
theorem dX2_advance_62 : decode cX2_advance 62 = .ok (.invokevirtual 40, 3) := by decide +kernel
theorem dX2_advance_65 : decode cX2_advance 65 = .ok (.iconst 1, 1) := by decide +kernel
theorem dX2_advance_66 : decode cX2_advance 66 = .ok (.iadd, 1) := by decide +kernel
theorem dX2_advance_67 : decode cX2_advance 67 = .ok (.iload_n 2, 1) := by decide +kernel
theorem dX2_advance_68 : decode cX2_advance 68 = .ok (.iload 6, 2) := by decide +kernel
theorem dX2_advance_70 : decode cX2_advance 70 = .ok (.ishr, 1) := by decide +kernel
theorem dX2_advance_71 : decode cX2_advance 71 = .ok (.iconst 1, 1) := by decide +kernel
theorem dX2_advance_72 : decode cX2_advance 72 = .ok (.iand, 1) := by decide +kernel
theorem dX2_advance_73 : decode cX2_advance 73 = .ok (.iadd, 1) := by decide +kernel
theorem dX2_advance_74 : decode cX2_advance 74 = .ok (.istore 7, 2) := by decide +kernel
theorem dX2_advance_76 : decode cX2_advance 76 = .ok (.iload 7, 2) := by decide +kernel
theorem dX2_advance_78 : decode cX2_advance 78 = .ok (.aload_n 1, 1) := by decide +kernel
theorem dX2_advance_79 : decode cX2_advance 79 = .ok (.getfield 44, 3) := by decide +kernel
theorem dX2_advance_82 : decode cX2_advance 82 = .ok (.iload 6, 2) := by decide +kernel
theorem dX2_advance_84 : decode cX2_advance 84 = .ok (.iaload, 1) := by decide +kernel
theorem dX2_advance_85 : decode cX2_advance 85 = .ok (.if_icmp .lt 15, 3) := by decide +kernel
theorem dX2_advance_88 : decode cX2_advance 88 = .ok (.iconst 0, 1) := by decide +kernel
theorem dX2_advance_89 : decode cX2_advance 89 = .ok (.istore 7, 2) := by decide +kernel
theorem dX2_advance_91 : decode cX2_advance 91 = .ok (.iload 4, 2) := by decide +kernel
theorem dX2_advance_93 : decode cX2_advance 93 = .ok (.iconst 1, 1) := by decide +kernel
theorem dX2_advance_94 : decode cX2_advance 94 = .ok (.iload 6, 2) := by decide +kernel
theorem dX2_advance_96 : decode cX2_advance 96 = .ok (.ishl, 1) := by decide +kernel
theorem dX2_advance_97 : decode cX2_advance 97 = .ok (.ior, 1) := by decide +kernel
theorem dX2_advance_98 : decode cX2_advance 98 = .ok (.istore 4, 2) := by decide +kernel
theorem dX2_advance_100 : decode cX2_advance 100 = .ok (.aload_n 0, 1) := by decide +kernel
theorem dX2_advance_101 : decode cX2_advance 101 = .ok (.getfield 9, 3) := by decide +kernel
theorem dX2_advance_104 : decode cX2_advance 104 = .ok (.iload 6, 2) := by decide +kernel
theorem dX2_advance_106 : decode cX2_advance 106 = .ok (.iload 7, 2) := by decide +kernel
theorem dX2_advance_108 : decode cX2_advance 108 = .ok (.iastore, 1) := by decide +kernel
theorem dX2_advance_109 : decode cX2_advance 109 = .ok (.iinc 5 1, 3) := by decide +kernel
theorem dX2_advance_112 : decode cX2_advance 112 = .ok (.goto (-87), 3) := by decide +kernel
theorem dX2_advance_115 : decode cX2_advance 115 = .ok (.iconst 0, 1) := by decide +kernel
theorem dX2_advance_116 : decode cX2_advance 116 = .ok (.istore 5, 2) := by decide +kernel
theorem dX2_advance_118 : decode cX2_advance 118 = .ok (.iload 5, 2) := by decide +kernel
theorem dX2_advance_120 : decode cX2_advance 120 = .ok (.bipush 16, 2) := by decide +kernel
theorem dX2_advance_122 : decode cX2_advance 122 = .ok (.if_icmp .ge 19, 3) := by decide +kernel
theorem dX2_advance_125 : decode cX2_advance 125 = .ok (.aload_n 0, 1) := by decide +kernel
theorem dX2_advance_126 : decode cX2_advance 126 = .ok (.getfield 15, 3) := by decide +kernel
theorem dX2_advance_129 : decode cX2_advance 129 = .ok (.iload_n 3, 1) := by decide +kernel
theorem dX2_advance_130 : decode cX2_advance 130 = .ok (.iload 5, 2) := by decide +kernel
theorem dX2_advance_132 : decode cX2_advance 132 = .ok (.iadd, 1) := by decide +kernel
theorem dX2_advance_133 : decode cX2_advance 133 = .ok (.iconst 0, 1) := by decide +kernel
theorem dX2_advance_134 : decode cX2_advance 134 = .ok (.iastore, 1) := by decide +kernel
theorem dX2_advance_135 : decode cX2_advance 135 = .ok (.iinc 5 1, 3) := by decide +kernel
theorem dX2_advance_138 : decode cX2_advance 138 = .ok (.goto (-20), 3) := by decide +kernel
theorem dX2_advance_141 : decode cX2_advance 141 = .ok (.iload 4, 2) := by decide +kernel
theorem dX2_advance_143 : decode cX2_advance 143 = .ok (.ifCond .eq 10, 3) := by decide +kernel
theorem dX2_advance_146 : decode cX2_advance 146 = .ok (.aload_n 0, 1) := by decide +kernel
theorem dX2_advance_147 : decode cX2_advance 147 = .ok (.aload_n 1, 1) := by decide +kernel
theorem dX2_advance_148 : decode cX2_advance 148 = .ok (.iload 4, 2) := by decide +kernel
theorem dX2_advance_150 : decode cX2_advance 150 = .ok (.invokevirtual 47, 3) := by decide +kernel
theorem dX2_advance_153 : decode cX2_advance 153 = .ok (.iload 4, 2) := by decide +kernel
theorem dX2_advance_155 : decode cX2_advance 155 = .ok (.ireturn, 1) := by decide +kernel
set_option maxRecDepth 20000 in
theorem ggX2_sendSignals_X2_startOfRow : GoodIn wsX2_sendSignals wsX2_startOfRow := goodIn_r _ [6, 7, 19, 20, 21] (by decide +kernel) (by decide +kernel)
set_option maxRecDepth 20000 in
theorem gX2_sendSignals_X2_startOfRow : GoodIn wsX2_sendSignals (wsV RX2 28 RX2 yX2_startOfRow wsX2_startOfRow) := goodIn_app (goodIn_of _ (by decide +kernel)) ggX2_sendSignals_X2_startOfRow
theorem dX2_sendSignals_0 : decode cX2_sendSignals 0 = .ok (.iconst 0, 1) := by decide +kernel
theorem dX2_sendSignals_1 : decode cX2_sendSignals 1 = .ok (.istore_n 3, 1) := by decide +kernel
theorem dX2_sendSignals_2 : decode cX2_sendSignals 2 = .ok (.iload_n 3, 1) := by decide +kernel
theorem dX2_sendSignals_3 : decode cX2_sendSignals 3 = .ok (.aload_n 1, 1) := by decide +kernel
theorem dX2_sendSignals_4 : decode cX2_sendSignals 4 = .ok (.getfield 51, 3) := by decide +kernel
theorem dX2_sendSignals_7 : decode cX2_sendSignals 7 = .ok (.if_icmp .ge 53, 3) := by decide +kernel
theorem dX2_sendSignals_10 : decode cX2_sendSignals 10 = .ok (.iload_n 2, 1) := by decide +kernel
theorem dX2_sendSignals_11 : decode cX2_sendSignals 11 = .ok (.aload_n 1, 1) := by decide +kernel
theorem dX2_sendSignals_12 : decode cX2_sendSignals 12 = .ok (.getfield 54, 3) := by decide +kernel
theorem dX2_sendSignals_15 : decode cX2_sendSignals 15 = .ok (.iload_n 3, 1) := by decide +kernel
theorem dX2_sendSignals_16 : decode cX2_sendSignals 16 = .ok (.iaload, 1) := by decide +kernel
theorem dX2_sendSignals_17 : decode cX2_sendSignals 17 = .ok (.ishr, 1) := by decide +kernel
theorem dX2_sendSignals_18 : decode cX2_sendSignals 18 = .ok (.iconst 1, 1) := by decide +kernel
theorem dX2_sendSignals_19 : decode cX2_sendSignals 19 = .ok (.iand, 1) := by decide +kernel
theorem dX2_sendSignals_20 : decode cX2_sendSignals 20 = .ok (.ifCond .eq 34, 3) := by decide +kernel
theorem dX2_sendSignals_23 : decode cX2_sendSignals 23 = .ok (.aload_n 0, 1) := by decide +kernel
theorem dX2_sendSignals_24 : decode cX2_sendSignals 24 = .ok (.getfield 15, 3) := by decide +kernel
theorem dX2_sendSignals_27 : decode cX2_sendSignals 27 = .ok (.aload_n 0, 1) := by decide +kernel
theorem dX2_sendSignals_28 : decode cX2_sendSignals 28 = .ok (.aload_n 1, 1) := by decide +kernel
theorem dX2_sendSignals_29 : decode cX2_sendSignals 29 = .ok (.getfield 57, 3) := by decide +kernel
theorem dX2_sendSignals_32 : decode cX2_sendSignals 32 = .ok (.iload_n 3, 1) := by decide +kernel
theorem dX2_sendSignals_33 : decode cX2_sendSignals 33 = .ok (.iaload, 1) := by decide +kernel
theorem dX2_sendSignals_34 : decode cX2_sendSignals 34 = .ok (.invokevirtual 28, 3) := by decide +kernel
theorem dX2_sendSignals_37 : decode cX2_sendSignals 37 = .ok (.aload_n 1, 1) := by decide +kernel
theorem dX2_sendSignals_38 : decode cX2_sendSignals 38 = .ok (.getfield 60, 3) := by decide +kernel
theorem dX2_sendSignals_41 : decode cX2_sendSignals 41 = .ok (.iload_n 3, 1) := by decide +kernel
theorem dX2_sendSignals_42 : decode cX2_sendSignals 42 = .ok (.iaload, 1) := by decide +kernel
theorem dX2_sendSignals_43 : decode cX2_sendSignals 43 = .ok (.iadd, 1) := by decide +kernel
theorem dX2_sendSignals_44 : decode cX2_sendSignals 44 = .ok (.dup2, 1) := by decide +kernel
theorem dX2_sendSignals_45 : decode cX2_sendSignals 45 = .ok (.iaload, 1) := by decide +kernel
theorem dX2_sendSignals_46 : decode cX2_sendSignals 46 = .ok (.aload_n 1, 1) := by decide +kernel
theorem dX2_sendSignals_47 : decode cX2_sendSignals 47 = .ok (.getfield 63, 3) := by decide +kernel
theorem dX2_sendSignals_50 : decode cX2_sendSignals 50 = .ok (.iload_n 3, 1) := by decide +kernel
theorem dX2_sendSignals_51 : decode cX2_sendSignals 51 = .ok (.iaload, 1) := by decide +kernel
theorem dX2_sendSignals_52 : decode cX2_sendSignals 52 = .ok (.iadd, 1) := by decide +kernel
theorem dX2_sendSignals_53 : decode cX2_sendSignals 53 = .ok (.iastore, 1) := by decide +kernel
theorem dX2_sendSignals_54 : decode cX2_sendSignals 54 = .ok (.iinc 3 1, 3) := by decide +kernel
theorem dX2_sendSignals_57 : decode cX2_sendSignals 57 = .ok (.goto (-55), 3) := by decide +kernel
theorem dX2_sendSignals_60 : decode cX2_sendSignals 60 = .ok (.return_, 1) := by decide +kernel
set_option maxRecDepth 20000 in
theorem ggX2_isLike_X2_startOfRow : GoodIn wsX2_isLike wsX2_startOfRow := goodIn_r _ [7, 8, 20, 21, 22] (by decide +kernel) (by decide +kernel)
set_option maxRecDepth 20000 in
theorem gX2_isLike_X2_startOfRow : GoodIn wsX2_isLike (wsV RX2 28 RX2 yX2_startOfRow wsX2_startOfRow) := goodIn_app (goodIn_of _ (by decide +kernel)) ggX2_isLike_X2_startOfRow
theorem dX2_isLike_0 : decode cX2_isLike 0 = .ok (.iconst 0, 1) := by decide +kernel
theorem dX2_isLike_1 : decode cX2_isLike 1 = .ok (.istore_n 3, 1) := by decide +kernel
theorem dX2_isLike_2 : decode cX2_isLike 2 = .ok (.iload_n 3, 1) := by decide +kernel
theorem dX2_isLike_3 : decode cX2_isLike 3 = .ok (.aload_n 2, 1) := by decide +kernel
theorem dX2_isLike_4 : decode cX2_isLike 4 = .ok (.getfield 32, 3) := by decide +kernel
theorem dX2_isLike_7 : decode cX2_isLike 7 = .ok (.if_icmp .ge 36, 3) := by decide +kernel
theorem dX2_isLike_10 : decode cX2_isLike 10 = .ok (.aload_n 2, 1) := by decide +kernel
theorem dX2_isLike_11 : decode cX2_isLike 11 = .ok (.getfield 37, 3) := by decide +kernel
theorem dX2_isLike_14 : decode cX2_isLike 14 = .ok (.iload_n 3, 1) := by decide +kernel
theorem dX2_isLike_15 : decode cX2_isLike 15 = .ok (.iaload, 1) := by decide +kernel
theorem dX2_isLike_16 : decode cX2_isLike 16 = .ok (.istore 4, 2) := by decide +kernel
theorem dX2_isLike_18 : decode cX2_isLike 18 = .ok (.aload_n 0, 1) := by decide +kernel
theorem dX2_isLike_19 : decode cX2_isLike 19 = .ok (.getfield 9, 3) := by decide +kernel
theorem dX2_isLike_22 : decode cX2_isLike 22 = .ok (.iload 4, 2) := by decide +kernel
theorem dX2_isLike_24 : decode cX2_isLike 24 = .ok (.iaload, 1) := by decide +kernel
theorem dX2_isLike_25 : decode cX2_isLike 25 = .ok (.aload_n 1, 1) := by decide +kernel
theorem dX2_isLike_26 : decode cX2_isLike 26 = .ok (.getfield 9, 3) := by decide +kernel
theorem dX2_isLike_29 : decode cX2_isLike 29 = .ok (.iload 4, 2) := by decide +kernel
theorem dX2_isLike_31 : decode cX2_isLike 31 = .ok (.iaload, 1) := by decide +kernel
theorem dX2_isLike_32 : decode cX2_isLike 32 = .ok (.if_icmp .eq 5, 3) := by decide +kernel
theorem dX2_isLike_35 : decode cX2_isLike 35 = .ok (.iconst 0, 1) := by decide +kernel
theorem dX2_isLike_36 : decode cX2_isLike 36 = .ok (.ireturn, 1) := by decide +kernel
theorem dX2_isLike_37 : decode cX2_isLike 37 = .ok (.iinc 3 1, 3) := by decide +kernel
theorem dX2_isLike_40 : decode cX2_isLike 40 = .ok (.goto (-38), 3) := by decide +kernel
theorem dX2_isLike_43 : decode cX2_isLike 43 = .ok (.iconst 1, 1) := by decide +kernel
theorem dX2_isLike_44 : decode cX2_isLike 44 = .ok (.istore_n 3, 1) := by decide +kernel
theorem dX2_isLike_45 : decode cX2_isLike 45 = .ok (.iload_n 3, 1) := by decide +kernel
theorem dX2_isLike_46 : decode cX2_isLike 46 = .ok (.bipush 30, 2) := by decide +kernel
theorem dX2_isLike_48 : decode cX2_isLike 48 = .ok (.if_icmp .gt 75, 3) := by decide +kernel
theorem dX2_isLike_51 : decode cX2_isLike 51 = .ok (.aload_n 0, 1) := by decide +kernel
theorem dX2_isLike_52 : decode cX2_isLike 52 = .ok (.iload_n 3, 1) := by decide +kernel
theorem dX2_isLike_53 : decode cX2_isLike 53 = .ok (.invokevirtual 28, 3) := by decide +kernel
theorem dX2_isLike_56 : decode cX2_isLike 56 = .ok (.istore 4, 2) := by decide +kernel
theorem dX2_isLike_58 : decode cX2_isLike 58 = .ok (.aload_n 1, 1) := by decide +kernel
theorem dX2_isLike_59 : decode cX2_isLike 59 = .ok (.iload_n 3, 1) := by decide +kernel
theorem dX2_isLike_60 : decode cX2_isLike 60 = .ok (.invokevirtual 28, 3) := by decide +kernel
theorem dX2_isLike_63 : decode cX2_isLike 63 = .ok (.istore 5, 2) := by decide +kernel
theorem dX2_isLike_65 : decode cX2_isLike 65 = .ok (.iconst 0, 1) := by decide +kernel
theorem dX2_isLike_66 : decode cX2_isLike 66 = .ok (.istore 6, 2) := by decide +kernel
theorem dX2_isLike_68 : decode cX2_isLike 68 = .ok (.iload 6, 2) := by decide +kernel
theorem dX2_isLike_70 : decode cX2_isLike 70 = .ok (.aload_n 2, 1) := by decide +kernel
theorem dX2_isLike_71 : decode cX2_isLike 71 = .ok (.getfield 32, 3) := by decide +kernel
theorem dX2_isLike_74 : decode cX2_isLike 74 = .ok (.if_icmp .ge 43, 3) := by decide +kernel
theorem dX2_isLike_77 : decode cX2_isLike 77 = .ok (.aload_n 2, 1) := by decide +kernel
theorem dX2_isLike_78 : decode cX2_isLike 78 = .ok (.getfield 37, 3) := by decide +kernel
theorem dX2_isLike_81 : decode cX2_isLike 81 = .ok (.iload 6, 2) := by decide +kernel
theorem dX2_isLike_83 : decode cX2_isLike 83 = .ok (.iaload, 1) := by decide +kernel
theorem dX2_isLike_84 : decode cX2_isLike 84 = .ok (.istore 7, 2) := by decide +kernel
theorem dX2_isLike_86 : decode cX2_isLike 86 = .ok (.aload_n 0, 1) := by decide +kernel
theorem dX2_isLike_87 : decode cX2_isLike 87 = .ok (.getfield 15, 3) := by decide +kernel
theorem dX2_isLike_90 : decode cX2_isLike 90 = .ok (.iload 4, 2) := by decide +kernel
theorem dX2_isLike_92 : decode cX2_isLike 92 = .ok (.iload 7, 2) := by decide +kernel
theorem dX2_isLike_94 : decode cX2_isLike 94 = .ok (.iadd, 1) := by decide +kernel
theorem dX2_isLike_95 : decode cX2_isLike 95 = .ok (.iaload, 1) := by decide +kernel
theorem dX2_isLike_96 : decode cX2_isLike 96 = .ok (.aload_n 1, 1) := by decide +kernel
theorem dX2_isLike_97 : decode cX2_isLike 97 = .ok (.getfield 15, 3) := by decide +kernel
theorem dX2_isLike_100 : decode cX2_isLike 100 = .ok (.iload 5, 2) := by decide +kernel
theorem dX2_isLike_102 : decode cX2_isLike 102 = .ok (.iload 7, 2) := by decide +kernel
theorem dX2_isLike_104 : decode cX2_isLike 104 = .ok (.iadd, 1) := by decide +kernel
theorem dX2_isLike_105 : decode cX2_isLike 105 = .ok (.iaload, 1) := by decide +kernel
theorem dX2_isLike_106 : decode cX2_isLike 106 = .ok (.if_icmp .eq 5, 3) := by decide +kernel
theorem dX2_isLike_109 : decode cX2_isLike 109 = .ok (.iconst 0, 1) := by decide +kernel
theorem dX2_isLike_110 : decode cX2_isLike 110 = .ok (.ireturn, 1) := by decide +kernel
theorem dX2_isLike_111 : decode cX2_isLike 111 = .ok (.iinc 6 1, 3) := by decide +kernel
theorem dX2_isLike_114 : decode cX2_isLike 114 = .ok (.goto (-46), 3) := by decide +kernel
theorem dX2_isLike_117 : decode cX2_isLike 117 = .ok (.iinc 3 1, 3) := by decide +kernel
theorem dX2_isLike_120 : decode cX2_isLike 120 = .ok (.goto (-75), 3) := by decide +kernel
theorem dX2_isLike_123 : decode cX2_isLike 123 = .ok (.iconst 1, 1) := by decide +kernel
theorem dX2_isLike_124 : decode cX2_isLike 124 = .ok (.ireturn, 1) := by decide +kernel
