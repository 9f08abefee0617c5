set_option maxRecDepth 20000 in
theorem ggL_beater_X5_beater : GoodIn wsL_beater wsX5_beater := goodIn_ca (goodIn_ca (goodIn_ca (goodIn_ca (goodIn_r _ [8, 9, 10, 11, 12, 13, 14, 15, 16, 17, 7, 18, 19, 20, 21, 22, 23, 24, 25, 26, 27, 28, 29, 30, 31, 32, 33, 34, 35, 36, 37, 38, 39, 40, 41, 42, 43, 44, 45, 46, 47, 48, 49, 50, 51, 52, 53, 54, 55, 56, 57, 58, 59, 60, 61, 62, 63, 64, 65, 66, 67, 68, 69, 70, 71] (by decide +kernel) (by decide +kernel)) (goodIn_sub (fun _ h => List.mem_cons_of_mem _ (List.mem_append_left _ (List.mem_append_left _ (List.mem_append_right _ h)))) (by decide +kernel))) (goodIn_sub (fun _ h => List.mem_cons_of_mem _ (List.mem_append_left _ (List.mem_append_left _ (List.mem_append_left _ (List.mem_append_right _ h))))) (by decide +kernel))) (goodIn_sub (fun _ h => List.mem_cons_of_mem _ (List.mem_append_left _ (List.mem_append_right _ h))) (by decide +kernel))) (goodIn_sub (fun _ h => List.mem_cons_of_mem _ (List.mem_append_right _ h)) (by decide +kernel))
set_option maxRecDepth 20000 in
theorem gL_beater_X5_beater : GoodIn wsL_beater (wsV RL 7 RX5 yX5_beater wsX5_beater) := goodIn_app (goodIn_of _ (by decide +kernel)) ggL_beater_X5_beater
theorem dL_beater_0 : decode cL_beater 0 = .ok (.aload 5, 2) := by decide +kernel
theorem dL_beater_2 : decode cL_beater 2 = .ok (.iconst 0, 1) := by decide +kernel
theorem dL_beater_3 : decode cL_beater 3 = .ok (.aload_n 0, 1) := by decide +kernel
theorem dL_beater_4 : decode cL_beater 4 = .ok (.iload_n 1, 1) := by decide +kernel
theorem dL_beater_5 : decode cL_beater 5 = .ok (.iload_n 2, 1) := by decide +kernel
theorem dL_beater_6 : decode cL_beater 6 = .ok (.iload_n 3, 1) := by decide +kernel
theorem dL_beater_7 : decode cL_beater 7 = .ok (.iload 4, 2) := by decide +kernel
theorem dL_beater_9 : decode cL_beater 9 = .ok (.invokevirtual 7, 3) := by decide +kernel
theorem dL_beater_12 : decode cL_beater 12 = .ok (.ifCond .eq 7, 3) := by decide +kernel
theorem dL_beater_15 : decode cL_beater 15 = .ok (.lconst 1, 1) := by decide +kernel
theorem dL_beater_16 : decode cL_beater 16 = .ok (.goto 4, 3) := by decide +kernel
theorem dL_beater_19 : decode cL_beater 19 = .ok (.lconst 0, 1) := by decide +kernel
theorem dL_beater_20 : decode cL_beater 20 = .ok (.lastore, 1) := by decide +kernel
theorem dL_beater_21 : decode cL_beater 21 = .ok (.goto 15, 3) := by decide +kernel
theorem dL_beater_24 : decode cL_beater 24 = .ok (.astore 6, 2) := by decide +kernel
theorem dL_beater_26 : decode cL_beater 26 = .ok (.iconst 1, 1) := by decide +kernel
theorem dL_beater_27 : decode cL_beater 27 = .ok (.ireturn, 1) := by decide +kernel
theorem dL_beater_28 : decode cL_beater 28 = .ok (.astore 6, 2) := by decide +kernel
theorem dL_beater_30 : decode cL_beater 30 = .ok (.iconst 2, 1) := by decide +kernel
theorem dL_beater_31 : decode cL_beater 31 = .ok (.ireturn, 1) := by decide +kernel
theorem dL_beater_32 : decode cL_beater 32 = .ok (.astore 6, 2) := by decide +kernel
theorem dL_beater_34 : decode cL_beater 34 = .ok (.iconst 3, 1) := by decide +kernel
theorem dL_beater_35 : decode cL_beater 35 = .ok (.ireturn, 1) := by decide +kernel
theorem dL_beater_36 : decode cL_beater 36 = .ok (.iconst 0, 1) := by decide +kernel
theorem dL_beater_37 : decode cL_beater 37 = .ok (.ireturn, 1) := by decide +kernel
set_option maxRecDepth 20000 in
theorem ggL_swing_X5_swing : GoodIn wsL_swing wsX5_swing := goodIn_ca (goodIn_ca (goodIn_ca (goodIn_ca (goodIn_r _ [8, 9, 10, 11, 12, 13, 14, 7, 15, 16, 17, 18, 19, 20, 21, 22, 23, 24, 25, 26, 27, 28, 29, 30, 31, 32, 33, 34, 35, 36, 37, 38, 39, 40, 41, 42, 43, 44, 45, 46, 47, 48, 49] (by decide +kernel) (by decide +kernel)) (goodIn_sub (fun _ h => List.mem_cons_of_mem _ (List.mem_append_left _ (List.mem_append_left _ (List.mem_append_right _ h)))) (by decide +kernel))) (goodIn_sub (fun _ h => List.mem_cons_of_mem _ (List.mem_append_left _ (List.mem_append_right _ h))) (by decide +kernel))) (goodIn_sub (fun _ h => List.mem_cons_of_mem _ (List.mem_append_right _ h)) (by decide +kernel))) (goodIn_sub (fun _ h => List.mem_cons_of_mem _ (List.mem_append_left _ (List.mem_append_left _ (List.mem_append_left _ (List.mem_append_right _ h))))) (by decide +kernel))
set_option maxRecDepth 20000 in
theorem gL_swing_X5_swing : GoodIn wsL_swing (wsV RL 19 RX5 yX5_swing wsX5_swing) := goodIn_app (goodIn_of _ (by decide +kernel)) ggL_swing_X5_swing
theorem dL_swing_0 : decode cL_swing 0 = .ok (.aload_n 3, 1) := by decide +kernel
theorem dL_swing_1 : decode cL_swing 1 = .ok (.iconst 0, 1) := by decide +kernel
theorem dL_swing_2 : decode cL_swing 2 = .ok (.aload_n 0, 1) := by decide +kernel
theorem dL_swing_3 : decode cL_swing 3 = .ok (.iload_n 1, 1) := by decide +kernel
theorem dL_swing_4 : decode cL_swing 4 = .ok (.iload_n 2, 1) := by decide +kernel
theorem dL_swing_5 : decode cL_swing 5 = .ok (.invokevirtual 19, 3) := by decide +kernel
theorem dL_swing_8 : decode cL_swing 8 = .ok (.ifCond .eq 7, 3) := by decide +kernel
theorem dL_swing_11 : decode cL_swing 11 = .ok (.lconst 1, 1) := by decide +kernel
theorem dL_swing_12 : decode cL_swing 12 = .ok (.goto 4, 3) := by decide +kernel
theorem dL_swing_15 : decode cL_swing 15 = .ok (.lconst 0, 1) := by decide +kernel
theorem dL_swing_16 : decode cL_swing 16 = .ok (.lastore, 1) := by decide +kernel
theorem dL_swing_17 : decode cL_swing 17 = .ok (.goto 15, 3) := by decide +kernel
theorem dL_swing_20 : decode cL_swing 20 = .ok (.astore 4, 2) := by decide +kernel
theorem dL_swing_22 : decode cL_swing 22 = .ok (.iconst 1, 1) := by decide +kernel
theorem dL_swing_23 : decode cL_swing 23 = .ok (.ireturn, 1) := by decide +kernel
theorem dL_swing_24 : decode cL_swing 24 = .ok (.astore 4, 2) := by decide +kernel
theorem dL_swing_26 : decode cL_swing 26 = .ok (.iconst 2, 1) := by decide +kernel
theorem dL_swing_27 : decode cL_swing 27 = .ok (.ireturn, 1) := by decide +kernel
theorem dL_swing_28 : decode cL_swing 28 = .ok (.astore 4, 2) := by decide +kernel
theorem dL_swing_30 : decode cL_swing 30 = .ok (.iconst 3, 1) := by decide +kernel
theorem dL_swing_31 : decode cL_swing 31 = .ok (.ireturn, 1) := by decide +kernel
theorem dL_swing_32 : decode cL_swing 32 = .ok (.iconst 0, 1) := by decide +kernel
theorem dL_swing_33 : decode cL_swing 33 = .ok (.ireturn, 1) := by decide +kernel
set_option maxRecDepth 20000 in
theorem ggL_phase_X5_phase : GoodIn wsL_phase wsX5_phase := goodIn_ca (goodIn_ca (goodIn_ca (goodIn_r _ [7, 8, 9, 10, 11, 6, 12, 13, 14, 15, 16, 17, 18, 19, 20, 21, 22, 23, 24, 25, 26, 27, 28, 29, 30, 31, 32, 33, 34, 35, 36, 37, 38, 39, 40, 41, 42, 43, 44, 45, 46, 47, 48, 49, 50, 51, 52, 53, 54] (by decide +kernel) (by decide +kernel)) (goodIn_sub (fun _ h => List.mem_cons_of_mem _ (List.mem_append_left _ (List.mem_append_left _ (List.mem_append_right _ h)))) (by decide +kernel))) (goodIn_sub (fun _ h => List.mem_cons_of_mem _ (List.mem_append_left _ (List.mem_append_right _ h))) (by decide +kernel))) (goodIn_sub (fun _ h => List.mem_cons_of_mem _ (List.mem_append_right _ h)) (by decide +kernel))
set_option maxRecDepth 20000 in
theorem gL_phase_X5_phase : GoodIn wsL_phase (wsV RL 23 RX5 yX5_phase wsX5_phase) := goodIn_app (goodIn_of _ (by decide +kernel)) ggL_phase_X5_phase
theorem dL_phase_0 : decode cL_phase 0 = .ok (.aload_n 2, 1) := by decide +kernel
theorem dL_phase_1 : decode cL_phase 1 = .ok (.iconst 0, 1) := by decide +kernel
theorem dL_phase_2 : decode cL_phase 2 = .ok (.aload_n 0, 1) := by decide +kernel
theorem dL_phase_3 : decode cL_phase 3 = .ok (.iload_n 1, 1) := by decide +kernel
theorem dL_phase_4 : decode cL_phase 4 = .ok (.invokevirtual 23, 3) := by decide +kernel
theorem dL_phase_7 : decode cL_phase 7 = .ok (.i2l, 1) := by decide +kernel
theorem dL_phase_8 : decode cL_phase 8 = .ok (.lastore, 1) := by decide +kernel
theorem dL_phase_9 : decode cL_phase 9 = .ok (.goto 9, 3) := by decide +kernel
theorem dL_phase_12 : decode cL_phase 12 = .ok (.astore_n 3, 1) := by decide +kernel
theorem dL_phase_13 : decode cL_phase 13 = .ok (.iconst 1, 1) := by decide +kernel
theorem dL_phase_14 : decode cL_phase 14 = .ok (.ireturn, 1) := by decide +kernel
theorem dL_phase_15 : decode cL_phase 15 = .ok (.astore_n 3, 1) := by decide +kernel
theorem dL_phase_16 : decode cL_phase 16 = .ok (.iconst 2, 1) := by decide +kernel
theorem dL_phase_17 : decode cL_phase 17 = .ok (.ireturn, 1) := by decide +kernel
theorem dL_phase_18 : decode cL_phase 18 = .ok (.iconst 0, 1) := by decide +kernel
theorem dL_phase_19 : decode cL_phase 19 = .ok (.ireturn, 1) := by decide +kernel
set_option maxRecDepth 20000 in
theorem ggL_period_X5_period : GoodIn wsL_period wsX5_period := goodIn_ca (goodIn_ca (goodIn_ca (goodIn_ca (goodIn_r _ [8, 9, 10, 11, 12, 13, 14, 15, 16, 17, 7, 18, 19, 20, 21, 22, 23, 24, 25, 26, 27, 28, 29, 30, 31, 32, 33, 34, 35, 36, 37, 38, 39, 40, 41, 42, 43, 44, 45, 46, 47, 48, 49, 50, 51, 52, 53, 54, 55, 56, 57, 58, 59, 60, 61, 62, 63, 64, 65] (by decide +kernel) (by decide +kernel)) (goodIn_sub (fun _ h => List.mem_cons_of_mem _ (List.mem_append_left _ (List.mem_append_left _ (List.mem_append_left _ (List.mem_append_right _ h))))) (by decide +kernel))) (goodIn_sub (fun _ h => List.mem_cons_of_mem _ (List.mem_append_left _ (List.mem_append_left _ (List.mem_append_right _ h)))) (by decide +kernel))) (goodIn_sub (fun _ h => List.mem_cons_of_mem _ (List.mem_append_left _ (List.mem_append_right _ h))) (by decide +kernel))) (goodIn_sub (fun _ h => List.mem_cons_of_mem _ (List.mem_append_right _ h)) (by decide +kernel))
set_option maxRecDepth 20000 in
theorem gL_period_X5_period : GoodIn wsL_period (wsV RL 29 RX5 yX5_period wsX5_period) := goodIn_app (goodIn_of _ (by decide +kernel)) ggL_period_X5_period
theorem dL_period_0 : decode cL_period 0 = .ok (.aload_n 3, 1) := by decide +kernel
theorem dL_period_1 : decode cL_period 1 = .ok (.iconst 0, 1) := by decide +kernel
theorem dL_period_2 : decode cL_period 2 = .ok (.aload_n 0, 1) := by decide +kernel
theorem dL_period_3 : decode cL_period 3 = .ok (.iload_n 1, 1) := by decide +kernel
theorem dL_period_4 : decode cL_period 4 = .ok (.iload_n 2, 1) := by decide +kernel
theorem dL_period_5 : decode cL_period 5 = .ok (.invokevirtual 29, 3) := by decide +kernel
theorem dL_period_8 : decode cL_period 8 = .ok (.i2l, 1) := by decide +kernel
theorem dL_period_9 : decode cL_period 9 = .ok (.lastore, 1) := by decide +kernel
theorem dL_period_10 : decode cL_period 10 = .ok (.goto 15, 3) := by decide +kernel
theorem dL_period_13 : decode cL_period 13 = .ok (.astore 4, 2) := by decide +kernel
theorem dL_period_15 : decode cL_period 15 = .ok (.iconst 1, 1) := by decide +kernel
theorem dL_period_16 : decode cL_period 16 = .ok (.ireturn, 1) := by decide +kernel
theorem dL_period_17 : decode cL_period 17 = .ok (.astore 4, 2) := by decide +kernel
theorem dL_period_19 : decode cL_period 19 = .ok (.iconst 2, 1) := by decide +kernel
theorem dL_period_20 : decode cL_period 20 = .ok (.ireturn, 1) := by decide +kernel
theorem dL_period_21 : decode cL_period 21 = .ok (.astore 4, 2) := by decide +kernel
theorem dL_period_23 : decode cL_period 23 = .ok (.iconst 3, 1) := by decide +kernel
theorem dL_period_24 : decode cL_period 24 = .ok (.ireturn, 1) := by decide +kernel
theorem dL_period_25 : decode cL_period 25 = .ok (.iconst 0, 1) := by decide +kernel
theorem dL_period_26 : decode cL_period 26 = .ok (.ireturn, 1) := by decide +kernel
set_option maxRecDepth 20000 in
theorem ggL_answer_X5_answer : GoodIn wsL_answer wsX5_answer := goodIn_ca (goodIn_ca (goodIn_ca (goodIn_ca (goodIn_r _ [8, 9, 10, 11, 12, 7, 13, 14, 15, 16, 17, 18, 19, 20, 21, 22, 23, 24, 25, 26, 27, 28, 29, 30, 31, 32, 33, 34, 35, 36, 37, 38, 39, 40, 41, 42, 43, 44, 45, 46, 47, 48, 49, 50, 51, 52, 53, 54, 55, 56, 57] (by decide +kernel) (by decide +kernel)) (goodIn_sub (fun _ h => List.mem_cons_of_mem _ (List.mem_append_left _ (List.mem_append_left _ (List.mem_append_left _ (List.mem_append_right _ h))))) (by decide +kernel))) (goodIn_sub (fun _ h => List.mem_cons_of_mem _ (List.mem_append_left _ (List.mem_append_left _ (List.mem_append_right _ h)))) (by decide +kernel))) (goodIn_sub (fun _ h => List.mem_cons_of_mem _ (List.mem_append_left _ (List.mem_append_right _ h))) (by decide +kernel))) (goodIn_sub (fun _ h => List.mem_cons_of_mem _ (List.mem_append_right _ h)) (by decide +kernel))
set_option maxRecDepth 20000 in
theorem gL_answer_X5_answer : GoodIn wsL_answer (wsV RL 33 RX5 yX5_answer wsX5_answer) := goodIn_app (goodIn_of _ (by decide +kernel)) ggL_answer_X5_answer
theorem dL_answer_0 : decode cL_answer 0 = .ok (.aload 4, 2) := by decide +kernel
theorem dL_answer_2 : decode cL_answer 2 = .ok (.iconst 0, 1) := by decide +kernel
theorem dL_answer_3 : decode cL_answer 3 = .ok (.aload_n 0, 1) := by decide +kernel
theorem dL_answer_4 : decode cL_answer 4 = .ok (.iload_n 1, 1) := by decide +kernel
theorem dL_answer_5 : decode cL_answer 5 = .ok (.iload_n 2, 1) := by decide +kernel
theorem dL_answer_6 : decode cL_answer 6 = .ok (.iload_n 3, 1) := by decide +kernel
theorem dL_answer_7 : decode cL_answer 7 = .ok (.invokevirtual 33, 3) := by decide +kernel
theorem dL_answer_10 : decode cL_answer 10 = .ok (.i2l, 1) := by decide +kernel
theorem dL_answer_11 : decode cL_answer 11 = .ok (.lastore, 1) := by decide +kernel
theorem dL_answer_12 : decode cL_answer 12 = .ok (.goto 15, 3) := by decide +kernel
theorem dL_answer_15 : decode cL_answer 15 = .ok (.astore 5, 2) := by decide +kernel
theorem dL_answer_17 : decode cL_answer 17 = .ok (.iconst 1, 1) := by decide +kernel
theorem dL_answer_18 : decode cL_answer 18 = .ok (.ireturn, 1) := by decide +kernel
theorem dL_answer_19 : decode cL_answer 19 = .ok (.astore 5, 2) := by decide +kernel
theorem dL_answer_21 : decode cL_answer 21 = .ok (.iconst 2, 1) := by decide +kernel
theorem dL_answer_22 : decode cL_answer 22 = .ok (.ireturn, 1) := by decide +kernel
theorem dL_answer_23 : decode cL_answer 23 = .ok (.astore 5, 2) := by decide +kernel
theorem dL_answer_25 : decode cL_answer 25 = .ok (.iconst 3, 1) := by decide +kernel
theorem dL_answer_26 : decode cL_answer 26 = .ok (.ireturn, 1) := by decide +kernel
theorem dL_answer_27 : decode cL_answer 27 = .ok (.iconst 0, 1) := by decide +kernel
theorem dL_answer_28 : decode cL_answer 28 = .ok (.ireturn, 1) := by decide +kernel
set_option maxRecDepth 20000 in
theorem ggL_link_X5_link : GoodIn wsL_link wsX5_link := goodIn_ca (goodIn_ca (goodIn_ca (goodIn_ca (goodIn_r _ [8, 9, 10, 11, 12, 13, 14, 15, 16, 7, 17, 18, 19, 20, 21, 22, 23, 24, 25, 26, 27, 28, 29, 30, 31, 32, 33, 34, 35, 36, 37, 38, 39, 40, 41, 42, 43, 44, 45, 46, 47, 48, 49, 50, 51, 52, 53, 54, 55, 56, 57] (by decide +kernel) (by decide +kernel)) (goodIn_sub (fun _ h => List.mem_cons_of_mem _ (List.mem_append_left _ (List.mem_append_left _ (List.mem_append_right _ h)))) (by decide +kernel))) (goodIn_sub (fun _ h => List.mem_cons_of_mem _ (List.mem_append_left _ (List.mem_append_right _ h))) (by decide +kernel))) (goodIn_sub (fun _ h => List.mem_cons_of_mem _ (List.mem_append_right _ h)) (by decide +kernel))) (goodIn_sub (fun _ h => List.mem_cons_of_mem _ (List.mem_append_left _ (List.mem_append_left _ (List.mem_append_left _ (List.mem_append_right _ h))))) (by decide +kernel))
set_option maxRecDepth 20000 in
theorem gL_link_X5_link : GoodIn wsL_link (wsV RL 37 RX5 yX5_link wsX5_link) := goodIn_app (goodIn_of _ (by decide +kernel)) ggL_link_X5_link
theorem dL_link_0 : decode cL_link 0 = .ok (.aload 5, 2) := by decide +kernel
theorem dL_link_2 : decode cL_link 2 = .ok (.iconst 0, 1) := by decide +kernel
theorem dL_link_3 : decode cL_link 3 = .ok (.aload_n 0, 1) := by decide +kernel
theorem dL_link_4 : decode cL_link 4 = .ok (.iload_n 1, 1) := by decide +kernel
theorem dL_link_5 : decode cL_link 5 = .ok (.iload_n 2, 1) := by decide +kernel
theorem dL_link_6 : decode cL_link 6 = .ok (.iload_n 3, 1) := by decide +kernel
theorem dL_link_7 : decode cL_link 7 = .ok (.iload 4, 2) := by decide +kernel
theorem dL_link_9 : decode cL_link 9 = .ok (.invokevirtual 37, 3) := by decide +kernel
theorem dL_link_12 : decode cL_link 12 = .ok (.i2l, 1) := by decide +kernel
theorem dL_link_13 : decode cL_link 13 = .ok (.lastore, 1) := by decide +kernel
theorem dL_link_14 : decode cL_link 14 = .ok (.goto 15, 3) := by decide +kernel
theorem dL_link_17 : decode cL_link 17 = .ok (.astore 6, 2) := by decide +kernel
theorem dL_link_19 : decode cL_link 19 = .ok (.iconst 1, 1) := by decide +kernel
theorem dL_link_20 : decode cL_link 20 = .ok (.ireturn, 1) := by decide +kernel
theorem dL_link_21 : decode cL_link 21 = .ok (.astore 6, 2) := by decide +kernel
theorem dL_link_23 : decode cL_link 23 = .ok (.iconst 2, 1) := by decide +kernel
theorem dL_link_24 : decode cL_link 24 = .ok (.ireturn, 1) := by decide +kernel
theorem dL_link_25 : decode cL_link 25 = .ok (.astore 6, 2) := by decide +kernel
theorem dL_link_27 : decode cL_link 27 = .ok (.iconst 3, 1) := by decide +kernel
theorem dL_link_28 : decode cL_link 28 = .ok (.ireturn, 1) := by decide +kernel
theorem dL_link_29 : decode cL_link 29 = .ok (.iconst 0, 1) := by decide +kernel
theorem dL_link_30 : decode cL_link 30 = .ok (.ireturn, 1) := by decide +kernel
set_option maxRecDepth 20000 in
theorem ggL_cut_X5_cut : GoodIn wsL_cut wsX5_cut := goodIn_ca (goodIn_ca (goodIn_r _ [6, 7, 8, 9, 10, 11, 12, 13, 14, 15, 16, 17, 18, 19, 20, 21, 22, 23, 24, 25, 26, 27, 28, 29, 30, 31, 32, 33, 34, 35, 36, 37, 38, 39, 40, 41, 42, 43, 44, 45] (by decide +kernel) (by decide +kernel)) (goodIn_sub (fun _ h => List.mem_cons_of_mem _ (List.mem_append_right _ h)) (by decide +kernel))) (goodIn_sub (fun _ h => List.mem_cons_of_mem _ (List.mem_append_left _ (List.mem_append_right _ h))) (by decide +kernel))
set_option maxRecDepth 20000 in
theorem gL_cut_X5_cut : GoodIn wsL_cut (wsV RL 43 RX5 yX5_cut wsX5_cut) := goodIn_app (goodIn_of _ (by decide +kernel)) ggL_cut_X5_cut
theorem dL_cut_0 : decode cL_cut 0 = .ok (.aload_n 2, 1) := by decide +kernel
theorem dL_cut_1 : decode cL_cut 1 = .ok (.iconst 0, 1) := by decide +kernel
theorem dL_cut_2 : decode cL_cut 2 = .ok (.aload_n 0, 1) := by decide +kernel
theorem dL_cut_3 : decode cL_cut 3 = .ok (.iload_n 1, 1) := by decide +kernel
theorem dL_cut_4 : decode cL_cut 4 = .ok (.invokevirtual 43, 3) := by decide +kernel
theorem dL_cut_7 : decode cL_cut 7 = .ok (.i2l, 1) := by decide +kernel
theorem dL_cut_8 : decode cL_cut 8 = .ok (.lastore, 1) := by decide +kernel
theorem dL_cut_9 : decode cL_cut 9 = .ok (.goto 6, 3) := by decide +kernel
theorem dL_cut_12 : decode cL_cut 12 = .ok (.astore_n 3, 1) := by decide +kernel
theorem dL_cut_13 : decode cL_cut 13 = .ok (.iconst 1, 1) := by decide +kernel
theorem dL_cut_14 : decode cL_cut 14 = .ok (.ireturn, 1) := by decide +kernel
theorem dL_cut_15 : decode cL_cut 15 = .ok (.iconst 0, 1) := by decide +kernel
theorem dL_cut_16 : decode cL_cut 16 = .ok (.ireturn, 1) := by decide +kernel
set_option maxRecDepth 20000 in
theorem ggL_net_X5_net : GoodIn wsL_net wsX5_net := goodIn_ca (goodIn_ca (goodIn_ca (goodIn_r _ [7, 8, 9, 10, 11, 12, 13, 14, 15, 6, 16, 17, 18, 19, 20, 21, 22, 23, 24, 25, 26, 27, 28, 29, 30, 31, 32, 33, 34, 35, 36, 37, 38, 39, 40, 41, 42, 43, 44, 45, 46, 47, 48, 49, 50, 51, 52, 53, 54, 55, 56, 57, 58, 59, 60, 61, 62, 63, 64, 65, 66] (by decide +kernel) (by decide +kernel)) (goodIn_sub (fun _ h => List.mem_cons_of_mem _ (List.mem_append_left _ (List.mem_append_right _ h))) (by decide +kernel))) (goodIn_sub (fun _ h => List.mem_cons_of_mem _ (List.mem_append_right _ h)) (by decide +kernel))) (goodIn_sub (fun _ h => List.mem_cons_of_mem _ (List.mem_append_left _ (List.mem_append_left _ (List.mem_append_right _ h)))) (by decide +kernel))
set_option maxRecDepth 20000 in
theorem gL_net_X5_net : GoodIn wsL_net (wsV RL 46 RX5 yX5_net wsX5_net) := goodIn_app (goodIn_of _ (by decide +kernel)) ggL_net_X5_net
theorem dL_net_0 : decode cL_net 0 = .ok (.aload 4, 2) := by decide +kernel
theorem dL_net_2 : decode cL_net 2 = .ok (.iconst 0, 1) := by decide +kernel
theorem dL_net_3 : decode cL_net 3 = .ok (.aload_n 0, 1) := by decide +kernel
theorem dL_net_4 : decode cL_net 4 = .ok (.iload_n 1, 1) := by decide +kernel
theorem dL_net_5 : decode cL_net 5 = .ok (.iload_n 2, 1) := by decide +kernel
theorem dL_net_6 : decode cL_net 6 = .ok (.iload_n 3, 1) := by decide +kernel
theorem dL_net_7 : decode cL_net 7 = .ok (.invokevirtual 46, 3) := by decide +kernel
theorem dL_net_10 : decode cL_net 10 = .ok (.i2l, 1) := by decide +kernel
theorem dL_net_11 : decode cL_net 11 = .ok (.lastore, 1) := by decide +kernel
theorem dL_net_12 : decode cL_net 12 = .ok (.goto 11, 3) := by decide +kernel
theorem dL_net_15 : decode cL_net 15 = .ok (.astore 5, 2) := by decide +kernel
theorem dL_net_17 : decode cL_net 17 = .ok (.iconst 1, 1) := by decide +kernel
theorem dL_net_18 : decode cL_net 18 = .ok (.ireturn, 1) := by decide +kernel
theorem dL_net_19 : decode cL_net 19 = .ok (.astore 5, 2) := by decide +kernel
theorem dL_net_21 : decode cL_net 21 = .ok (.iconst 2, 1) := by decide +kernel
theorem dL_net_22 : decode cL_net 22 = .ok (.ireturn, 1) := by decide +kernel
theorem dL_net_23 : decode cL_net 23 = .ok (.iconst 0, 1) := by decide +kernel
theorem dL_net_24 : decode cL_net 24 = .ok (.ireturn, 1) := by decide +kernel
set_option maxRecDepth 20000 in
theorem ggL_run_X5_run : GoodIn wsL_run wsX5_run := goodIn_ca (goodIn_ca (goodIn_ca (goodIn_r _ [6, 7, 8, 9, 10, 11, 12, 5, 13, 14, 15, 16, 17, 18, 19, 20, 21, 22, 23, 24, 25, 26, 27, 28, 29, 30, 31, 32, 33, 34, 35, 36, 37, 38, 39, 40, 41, 42, 43, 44, 45, 46, 47, 48, 49, 50, 51, 52, 53, 54, 55, 56, 57, 58, 59, 60, 61, 62, 63, 64, 65, 66, 67, 68, 69, 70, 71, 72, 73, 74, 75, 76, 77, 78, 79, 80, 81, 82, 83, 84, 85, 86, 87, 88, 89, 90, 91] (by decide +kernel) (by decide +kernel)) (goodIn_sub (fun _ h => List.mem_cons_of_mem _ (List.mem_append_left _ (List.mem_append_right _ h))) (by decide +kernel))) (goodIn_sub (fun _ h => List.mem_cons_of_mem _ (List.mem_append_left _ (List.mem_append_left _ (List.mem_append_right _ h)))) (by decide +kernel))) (goodIn_sub (fun _ h => List.mem_cons_of_mem _ (List.mem_append_right _ h)) (by decide +kernel))
set_option maxRecDepth 20000 in
theorem gL_run_X5_run : GoodIn wsL_run (wsV RL 50 RX5 yX5_run wsX5_run) := goodIn_app (goodIn_of _ (by decide +kernel)) ggL_run_X5_run
theorem dL_run_0 : decode cL_run 0 = .ok (.aload_n 2, 1) := by decide +kernel
theorem dL_run_1 : decode cL_run 1 = .ok (.iconst 0, 1) := by decide +kernel
theorem dL_run_2 : decode cL_run 2 = .ok (.aload_n 0, 1) := by decide +kernel
theorem dL_run_3 : decode cL_run 3 = .ok (.iload_n 1, 1) := by decide +kernel
theorem dL_run_4 : decode cL_run 4 = .ok (.invokevirtual 50, 3) := by decide +kernel
theorem dL_run_7 : decode cL_run 7 = .ok (.i2l, 1) := by decide +kernel
theorem dL_run_8 : decode cL_run 8 = .ok (.lastore, 1) := by decide +kernel
theorem dL_run_9 : decode cL_run 9 = .ok (.goto 6, 3) := by decide +kernel
theorem dL_run_12 : decode cL_run 12 = .ok (.astore_n 3, 1) := by decide +kernel
theorem dL_run_13 : decode cL_run 13 = .ok (.iconst 1, 1) := by decide +kernel
theorem dL_run_14 : decode cL_run 14 = .ok (.ireturn, 1) := by decide +kernel
theorem dL_run_15 : decode cL_run 15 = .ok (.iconst 0, 1) := by decide +kernel
theorem dL_run_16 : decode cL_run 16 = .ok (.ireturn, 1) := by decide +kernel
set_option maxRecDepth 20000 in
theorem ggL_flashes_X5_flashes : GoodIn wsL_flashes wsX5_flashes := goodIn_ca (goodIn_ca (goodIn_ca (goodIn_r _ [7, 8, 9, 10, 11, 6, 12, 13, 14, 15, 16, 17, 18, 19, 20, 21, 22, 23, 24, 25, 26, 27, 28, 29, 30, 31, 32, 33, 34, 35, 36, 37, 38, 39, 40, 41, 42, 43, 44, 45, 46, 47, 48, 49, 50, 51] (by decide +kernel) (by decide +kernel)) (goodIn_sub (fun _ h => List.mem_cons_of_mem _ (List.mem_append_left _ (List.mem_append_left _ (List.mem_append_right _ h)))) (by decide +kernel))) (goodIn_sub (fun _ h => List.mem_cons_of_mem _ (List.mem_append_left _ (List.mem_append_right _ h))) (by decide +kernel))) (goodIn_sub (fun _ h => List.mem_cons_of_mem _ (List.mem_append_right _ h)) (by decide +kernel))
set_option maxRecDepth 20000 in
theorem gL_flashes_X5_flashes : GoodIn wsL_flashes (wsV RL 53 RX5 yX5_flashes wsX5_flashes) := goodIn_app (goodIn_of _ (by decide +kernel)) ggL_flashes_X5_flashes
theorem dL_flashes_0 : decode cL_flashes 0 = .ok (.aload_n 2, 1) := by decide +kernel
theorem dL_flashes_1 : decode cL_flashes 1 = .ok (.iconst 0, 1) := by decide +kernel
theorem dL_flashes_2 : decode cL_flashes 2 = .ok (.aload_n 0, 1) := by decide +kernel
theorem dL_flashes_3 : decode cL_flashes 3 = .ok (.iload_n 1, 1) := by decide +kernel
theorem dL_flashes_4 : decode cL_flashes 4 = .ok (.invokevirtual 53, 3) := by decide +kernel
theorem dL_flashes_7 : decode cL_flashes 7 = .ok (.i2l, 1) := by decide +kernel
theorem dL_flashes_8 : decode cL_flashes 8 = .ok (.lastore, 1) := by decide +kernel
theorem dL_flashes_9 : decode cL_flashes 9 = .ok (.goto 9, 3) := by decide +kernel
theorem dL_flashes_12 : decode cL_flashes 12 = .ok (.astore_n 3, 1) := by decide +kernel
theorem dL_flashes_13 : decode cL_flashes 13 = .ok (.iconst 1, 1) := by decide +kernel
theorem dL_flashes_14 : decode cL_flashes 14 = .ok (.ireturn, 1) := by decide +kernel
theorem dL_flashes_15 : decode cL_flashes 15 = .ok (.astore_n 3, 1) := by decide +kernel
theorem dL_flashes_16 : decode cL_flashes 16 = .ok (.iconst 2, 1) := by decide +kernel
theorem dL_flashes_17 : decode cL_flashes 17 = .ok (.ireturn, 1) := by decide +kernel
theorem dL_flashes_18 : decode cL_flashes 18 = .ok (.iconst 0, 1) := by decide +kernel
theorem dL_flashes_19 : decode cL_flashes 19 = .ok (.ireturn, 1) := by decide +kernel
set_option maxRecDepth 20000 in
theorem ggL_last_X5_last : GoodIn wsL_last wsX5_last := goodIn_ca (goodIn_ca (goodIn_ca (goodIn_r _ [7, 8, 9, 10, 11, 6, 12, 13, 14, 15, 16, 17, 18, 19, 20, 21, 22, 23, 24, 25, 26, 27, 28, 29, 30, 31, 32, 33, 34, 35, 36, 37, 38, 39, 40, 41, 42, 43, 44, 45, 46, 47, 48, 49, 50, 51] (by decide +kernel) (by decide +kernel)) (goodIn_sub (fun _ h => List.mem_cons_of_mem _ (List.mem_append_left _ (List.mem_append_left _ (List.mem_append_right _ h)))) (by decide +kernel))) (goodIn_sub (fun _ h => List.mem_cons_of_mem _ (List.mem_append_left _ (List.mem_append_right _ h))) (by decide +kernel))) (goodIn_sub (fun _ h => List.mem_cons_of_mem _ (List.mem_append_right _ h)) (by decide +kernel))
set_option maxRecDepth 20000 in
theorem gL_last_X5_last : GoodIn wsL_last (wsV RL 56 RX5 yX5_last wsX5_last) := goodIn_app (goodIn_of _ (by decide +kernel)) ggL_last_X5_last
theorem dL_last_0 : decode cL_last 0 = .ok (.aload_n 2, 1) := by decide +kernel
theorem dL_last_1 : decode cL_last 1 = .ok (.iconst 0, 1) := by decide +kernel
theorem dL_last_2 : decode cL_last 2 = .ok (.aload_n 0, 1) := by decide +kernel
theorem dL_last_3 : decode cL_last 3 = .ok (.iload_n 1, 1) := by decide +kernel
theorem dL_last_4 : decode cL_last 4 = .ok (.invokevirtual 56, 3) := by decide +kernel
theorem dL_last_7 : decode cL_last 7 = .ok (.i2l, 1) := by decide +kernel
theorem dL_last_8 : decode cL_last 8 = .ok (.lastore, 1) := by decide +kernel
theorem dL_last_9 : decode cL_last 9 = .ok (.goto 9, 3) := by decide +kernel
theorem dL_last_12 : decode cL_last 12 = .ok (.astore_n 3, 1) := by decide +kernel
theorem dL_last_13 : decode cL_last 13 = .ok (.iconst 1, 1) := by decide +kernel
theorem dL_last_14 : decode cL_last 14 = .ok (.ireturn, 1) := by decide +kernel
theorem dL_last_15 : decode cL_last 15 = .ok (.astore_n 3, 1) := by decide +kernel
theorem dL_last_16 : decode cL_last 16 = .ok (.iconst 2, 1) := by decide +kernel
theorem dL_last_17 : decode cL_last 17 = .ok (.ireturn, 1) := by decide +kernel
theorem dL_last_18 : decode cL_last 18 = .ok (.iconst 0, 1) := by decide +kernel
theorem dL_last_19 : decode cL_last 19 = .ok (.ireturn, 1) := by decide +kernel
set_option maxRecDepth 20000 in
theorem ggL_waiting_X5_waiting : GoodIn wsL_waiting wsX5_waiting := goodIn_ca (goodIn_ca (goodIn_ca (goodIn_r _ [7, 8, 9, 10, 11, 6, 12, 13, 14, 15, 16, 17, 18, 19, 20, 21, 22, 23, 24, 25, 26, 27, 28, 29, 30, 31, 32, 33, 34, 35, 36, 37, 38, 39, 40, 41, 42, 43, 44, 45, 46, 47, 48, 49, 50, 51, 52, 53, 54, 55, 56, 57, 58, 59, 60, 61, 62, 63, 64] (by decide +kernel) (by decide +kernel)) (goodIn_sub (fun _ h => List.mem_cons_of_mem _ (List.mem_append_left _ (List.mem_append_right _ h))) (by decide +kernel))) (goodIn_sub (fun _ h => List.mem_cons_of_mem _ (List.mem_append_right _ h)) (by decide +kernel))) (goodIn_sub (fun _ h => List.mem_cons_of_mem _ (List.mem_append_left _ (List.mem_append_left _ (List.mem_append_right _ h)))) (by decide +kernel))
set_option maxRecDepth 20000 in
theorem gL_waiting_X5_waiting : GoodIn wsL_waiting (wsV RL 59 RX5 yX5_waiting wsX5_waiting) := goodIn_app (goodIn_of _ (by decide +kernel)) ggL_waiting_X5_waiting
theorem dL_waiting_0 : decode cL_waiting 0 = .ok (.aload_n 2, 1) := by decide +kernel
theorem dL_waiting_1 : decode cL_waiting 1 = .ok (.iconst 0, 1) := by decide +kernel
theorem dL_waiting_2 : decode cL_waiting 2 = .ok (.aload_n 0, 1) := by decide +kernel
theorem dL_waiting_3 : decode cL_waiting 3 = .ok (.iload_n 1, 1) := by decide +kernel
theorem dL_waiting_4 : decode cL_waiting 4 = .ok (.invokevirtual 59, 3) := by decide +kernel
theorem dL_waiting_7 : decode cL_waiting 7 = .ok (.i2l, 1) := by decide +kernel
theorem dL_waiting_8 : decode cL_waiting 8 = .ok (.lastore, 1) := by decide +kernel
theorem dL_waiting_9 : decode cL_waiting 9 = .ok (.goto 9, 3) := by decide +kernel
theorem dL_waiting_12 : decode cL_waiting 12 = .ok (.astore_n 3, 1) := by decide +kernel
theorem dL_waiting_13 : decode cL_waiting 13 = .ok (.iconst 1, 1) := by decide +kernel
theorem dL_waiting_14 : decode cL_waiting 14 = .ok (.ireturn, 1) := by decide +kernel
theorem dL_waiting_15 : decode cL_waiting 15 = .ok (.astore_n 3, 1) := by decide +kernel
theorem dL_waiting_16 : decode cL_waiting 16 = .ok (.iconst 2, 1) := by decide +kernel
theorem dL_waiting_17 : decode cL_waiting 17 = .ok (.ireturn, 1) := by decide +kernel
theorem dL_waiting_18 : decode cL_waiting 18 = .ok (.iconst 0, 1) := by decide +kernel
theorem dL_waiting_19 : decode cL_waiting 19 = .ok (.ireturn, 1) := by decide +kernel
set_option maxRecDepth 20000 in
theorem ggL_strip_X5_strip : GoodIn wsL_strip wsX5_strip := goodIn_ca (goodIn_ca (goodIn_ca (goodIn_ca (goodIn_ca (goodIn_r _ [8, 9, 10, 11, 12, 13, 14, 7, 15, 16, 17, 18, 19, 20, 21, 22, 23, 24, 25, 26, 27, 28, 29, 30, 31, 32, 33, 34, 35, 36, 37, 38, 39, 40, 41, 42, 43, 44, 45, 46, 47, 48, 49, 50, 51, 52, 53, 54, 55, 56, 57, 58, 59, 60, 61, 62, 63, 64, 65, 66, 67, 68, 69, 70, 71, 72, 73, 74, 75, 76, 77, 78, 79, 80, 81, 82, 83, 84, 85, 86, 87, 88, 89, 90, 91, 92, 93, 94, 95] (by decide +kernel) (by decide +kernel)) (goodIn_sub (fun _ h => List.mem_cons_of_mem _ (List.mem_append_left _ (List.mem_append_left _ (List.mem_append_left _ (List.mem_append_right _ h))))) (by decide +kernel))) (goodIn_sub (fun _ h => List.mem_cons_of_mem _ (List.mem_append_left _ (List.mem_append_left _ (List.mem_append_right _ h)))) (by decide +kernel))) (goodIn_sub (fun _ h => List.mem_cons_of_mem _ (List.mem_append_left _ (List.mem_append_right _ h))) (by decide +kernel))) (goodIn_sub (fun _ h => List.mem_cons_of_mem _ (List.mem_append_left _ (List.mem_append_left _ (List.mem_append_left _ (List.mem_append_left _ (List.mem_append_right _ h)))))) (by decide +kernel))) (goodIn_sub (fun _ h => List.mem_cons_of_mem _ (List.mem_append_right _ h)) (by decide +kernel))
set_option maxRecDepth 20000 in
theorem gL_strip_X5_strip : GoodIn wsL_strip (wsV RL 62 RX5 yX5_strip wsX5_strip) := goodIn_app (goodIn_of _ (by decide +kernel)) ggL_strip_X5_strip
theorem dL_strip_0 : decode cL_strip 0 = .ok (.aload_n 2, 1) := by decide +kernel
theorem dL_strip_1 : decode cL_strip 1 = .ok (.iconst 0, 1) := by decide +kernel
theorem dL_strip_2 : decode cL_strip 2 = .ok (.aload_n 0, 1) := by decide +kernel
theorem dL_strip_3 : decode cL_strip 3 = .ok (.iload_n 1, 1) := by decide +kernel
theorem dL_strip_4 : decode cL_strip 4 = .ok (.invokevirtual 62, 3) := by decide +kernel
theorem dL_strip_7 : decode cL_strip 7 = .ok (.i2l, 1) := by decide +kernel
theorem dL_strip_8 : decode cL_strip 8 = .ok (.lastore, 1) := by decide +kernel
theorem dL_strip_9 : decode cL_strip 9 = .ok (.goto 12, 3) := by decide +kernel
theorem dL_strip_12 : decode cL_strip 12 = .ok (.astore_n 3, 1) := by decide +kernel
theorem dL_strip_13 : decode cL_strip 13 = .ok (.iconst 1, 1) := by decide +kernel
theorem dL_strip_14 : decode cL_strip 14 = .ok (.ireturn, 1) := by decide +kernel
theorem dL_strip_15 : decode cL_strip 15 = .ok (.astore_n 3, 1) := by decide +kernel
theorem dL_strip_16 : decode cL_strip 16 = .ok (.iconst 2, 1) := by decide +kernel
theorem dL_strip_17 : decode cL_strip 17 = .ok (.ireturn, 1) := by decide +kernel
theorem dL_strip_18 : decode cL_strip 18 = .ok (.astore_n 3, 1) := by decide +kernel
theorem dL_strip_19 : decode cL_strip 19 = .ok (.iconst 3, 1) := by decide +kernel
theorem dL_strip_20 : decode cL_strip 20 = .ok (.ireturn, 1) := by decide +kernel
theorem dL_strip_21 : decode cL_strip 21 = .ok (.iconst 0, 1) := by decide +kernel
theorem dL_strip_22 : decode cL_strip 22 = .ok (.ireturn, 1) := by decide +kernel
set_option maxRecDepth 20000 in
theorem ggL_cycle_X5_cycle : GoodIn wsL_cycle wsX5_cycle := goodIn_ca (goodIn_ca (goodIn_ca (goodIn_ca (goodIn_r _ [7, 8, 9, 10, 6, 11, 12, 13, 14, 15, 16, 17, 18, 19, 20, 21, 22, 23, 24, 25, 26, 27, 28, 29, 30, 31, 32, 33, 34, 35, 36, 37, 38, 39, 40, 41, 42, 43, 44, 45, 46, 47, 48, 49, 50, 51, 52, 53, 54, 55, 56, 57, 58, 59, 60, 61, 62, 63, 64, 65, 66, 67, 68, 69, 70, 71, 72, 73, 74, 75, 76, 77, 78, 79, 80, 81, 82, 83, 84, 85, 86, 87, 88, 89, 90, 91, 92, 93, 94, 95, 96, 97, 98, 99, 100, 101, 102, 103, 104, 105, 106, 107, 108, 109] (by decide +kernel) (by decide +kernel)) (goodIn_sub (fun _ h => List.mem_cons_of_mem _ (List.mem_append_left _ (List.mem_append_left _ (List.mem_append_right _ h)))) (by decide +kernel))) (goodIn_sub (fun _ h => List.mem_cons_of_mem _ (List.mem_append_left _ (List.mem_append_right _ h))) (by decide +kernel))) (goodIn_sub (fun _ h => List.mem_cons_of_mem _ (List.mem_append_left _ (List.mem_append_left _ (List.mem_append_left _ (List.mem_append_right _ h))))) (by decide +kernel))) (goodIn_sub (fun _ h => List.mem_cons_of_mem _ (List.mem_append_right _ h)) (by decide +kernel))
set_option maxRecDepth 20000 in
theorem gL_cycle_X5_cycle : GoodIn wsL_cycle (wsV RL 65 RX5 yX5_cycle wsX5_cycle) := goodIn_app (goodIn_of _ (by decide +kernel)) ggL_cycle_X5_cycle
theorem dL_cycle_0 : decode cL_cycle 0 = .ok (.aload_n 1, 1) := by decide +kernel
theorem dL_cycle_1 : decode cL_cycle 1 = .ok (.iconst 0, 1) := by decide +kernel
theorem dL_cycle_2 : decode cL_cycle 2 = .ok (.aload_n 0, 1) := by decide +kernel
theorem dL_cycle_3 : decode cL_cycle 3 = .ok (.invokevirtual 65, 3) := by decide +kernel
theorem dL_cycle_6 : decode cL_cycle 6 = .ok (.i2l, 1) := by decide +kernel
theorem dL_cycle_7 : decode cL_cycle 7 = .ok (.lastore, 1) := by decide +kernel
theorem dL_cycle_8 : decode cL_cycle 8 = .ok (.goto 9, 3) := by decide +kernel
theorem dL_cycle_11 : decode cL_cycle 11 = .ok (.astore_n 2, 1) := by decide +kernel
theorem dL_cycle_12 : decode cL_cycle 12 = .ok (.iconst 1, 1) := by decide +kernel
theorem dL_cycle_13 : decode cL_cycle 13 = .ok (.ireturn, 1) := by decide +kernel
theorem dL_cycle_14 : decode cL_cycle 14 = .ok (.astore_n 2, 1) := by decide +kernel
theorem dL_cycle_15 : decode cL_cycle 15 = .ok (.iconst 2, 1) := by decide +kernel
theorem dL_cycle_16 : decode cL_cycle 16 = .ok (.ireturn, 1) := by decide +kernel
theorem dL_cycle_17 : decode cL_cycle 17 = .ok (.iconst 0, 1) := by decide +kernel
theorem dL_cycle_18 : decode cL_cycle 18 = .ok (.ireturn, 1) := by decide +kernel
set_option maxRecDepth 20000 in
theorem ggL_lead_X5_lead : GoodIn wsL_lead wsX5_lead := goodIn_ca (goodIn_ca (goodIn_ca (goodIn_ca (goodIn_r _ [7, 8, 9, 10, 6, 11, 12, 13, 14, 15, 16, 17, 18, 19, 20, 21, 22, 23, 24, 25, 26, 27, 28, 29, 30, 31, 32, 33, 34, 35, 36, 37, 38, 39, 40, 41, 42, 43, 44, 45, 46, 47, 48, 49, 50, 51, 52, 53, 54, 55, 56, 57, 58, 59, 60, 61, 62, 63, 64, 65, 66, 67, 68, 69, 70, 71, 72, 73, 74, 75, 76, 77, 78, 79, 80, 81, 82, 83, 84, 85, 86, 87, 88, 89, 90, 91, 92, 93, 94, 95, 96, 97, 98, 99, 100, 101, 102, 103, 104, 105, 106, 107, 108, 109] (by decide +kernel) (by decide +kernel)) (goodIn_sub (fun _ h => List.mem_cons_of_mem _ (List.mem_append_left _ (List.mem_append_left _ (List.mem_append_right _ h)))) (by decide +kernel))) (goodIn_sub (fun _ h => List.mem_cons_of_mem _ (List.mem_append_left _ (List.mem_append_right _ h))) (by decide +kernel))) (goodIn_sub (fun _ h => List.mem_cons_of_mem _ (List.mem_append_left _ (List.mem_append_left _ (List.mem_append_left _ (List.mem_append_right _ h))))) (by decide +kernel))) (goodIn_sub (fun _ h => List.mem_cons_of_mem _ (List.mem_append_right _ h)) (by decide +kernel))
set_option maxRecDepth 20000 in
theorem gL_lead_X5_lead : GoodIn wsL_lead (wsV RL 71 RX5 yX5_lead wsX5_lead) := goodIn_app (goodIn_of _ (by decide +kernel)) ggL_lead_X5_lead
theorem dL_lead_0 : decode cL_lead 0 = .ok (.aload_n 1, 1) := by decide +kernel
theorem dL_lead_1 : decode cL_lead 1 = .ok (.iconst 0, 1) := by decide +kernel
theorem dL_lead_2 : decode cL_lead 2 = .ok (.aload_n 0, 1) := by decide +kernel
theorem dL_lead_3 : decode cL_lead 3 = .ok (.invokevirtual 71, 3) := by decide +kernel
theorem dL_lead_6 : decode cL_lead 6 = .ok (.i2l, 1) := by decide +kernel
theorem dL_lead_7 : decode cL_lead 7 = .ok (.lastore, 1) := by decide +kernel
theorem dL_lead_8 : decode cL_lead 8 = .ok (.goto 9, 3) := by decide +kernel
theorem dL_lead_11 : decode cL_lead 11 = .ok (.astore_n 2, 1) := by decide +kernel
theorem dL_lead_12 : decode cL_lead 12 = .ok (.iconst 1, 1) := by decide +kernel
theorem dL_lead_13 : decode cL_lead 13 = .ok (.ireturn, 1) := by decide +kernel
theorem dL_lead_14 : decode cL_lead 14 = .ok (.astore_n 2, 1) := by decide +kernel
theorem dL_lead_15 : decode cL_lead 15 = .ok (.iconst 2, 1) := by decide +kernel
theorem dL_lead_16 : decode cL_lead 16 = .ok (.ireturn, 1) := by decide +kernel
theorem dL_lead_17 : decode cL_lead 17 = .ok (.iconst 0, 1) := by decide +kernel
theorem dL_lead_18 : decode cL_lead 18 = .ok (.ireturn, 1) := by decide +kernel
set_option maxRecDepth 20000 in
theorem ggL_beats_X5_beats : GoodIn wsL_beats wsX5_beats := goodIn_ca (goodIn_ca (goodIn_ca (goodIn_ca (goodIn_ca (goodIn_ca (goodIn_r _ [9, 10, 11, 12, 8, 13, 14, 15, 16, 17, 18, 19, 20, 21, 22, 23, 24, 25, 26, 27, 28, 29, 30, 31, 32, 33, 34, 35, 36, 37, 38, 39, 40, 41, 42, 43, 44, 45, 46, 47, 48, 49, 50, 51, 52, 53, 54, 55, 56, 57, 58, 59, 60, 61, 62, 63, 64, 65, 66, 67, 68, 69, 70, 71, 72, 73, 74, 75, 76, 77, 78, 79, 80, 81, 82, 83, 84, 85, 86, 87, 88, 89, 90, 91, 92, 93, 94, 95, 96, 97, 98, 99, 100, 101, 102, 103, 104, 105, 106, 107, 108, 109, 110, 111, 112, 113, 114, 115, 116, 117, 118, 119, 120, 121, 122, 123, 124, 125, 126, 127, 128, 129, 130, 131, 132, 133] (by decide +kernel) (by decide +kernel)) (goodIn_sub (fun _ h => List.mem_cons_of_mem _ (List.mem_append_left _ (List.mem_append_left _ (List.mem_append_left _ (List.mem_append_left _ (List.mem_append_right _ h)))))) (by decide +kernel))) (goodIn_sub (fun _ h => List.mem_cons_of_mem _ (List.mem_append_left _ (List.mem_append_left _ (List.mem_append_left _ (List.mem_append_right _ h))))) (by decide +kernel))) (goodIn_sub (fun _ h => List.mem_cons_of_mem _ (List.mem_append_left _ (List.mem_append_left _ (List.mem_append_right _ h)))) (by decide +kernel))) (goodIn_sub (fun _ h => List.mem_cons_of_mem _ (List.mem_append_left _ (List.mem_append_right _ h))) (by decide +kernel))) (goodIn_sub (fun _ h => List.mem_cons_of_mem _ (List.mem_append_left _ (List.mem_append_left _ (List.mem_append_left _ (List.mem_append_left _ (List.mem_append_left _ (List.mem_append_right _ h))))))) (by decide +kernel))) (goodIn_sub (fun _ h => List.mem_cons_of_mem _ (List.mem_append_right _ h)) (by decide +kernel))
set_option maxRecDepth 20000 in
theorem gL_beats_X5_beats : GoodIn wsL_beats (wsV RL 74 RX5 yX5_beats wsX5_beats) := goodIn_app (goodIn_of _ (by decide +kernel)) ggL_beats_X5_beats
theorem dL_beats_0 : decode cL_beats 0 = .ok (.aload_n 2, 1) := by decide +kernel
theorem dL_beats_1 : decode cL_beats 1 = .ok (.iconst 0, 1) := by decide +kernel
theorem dL_beats_2 : decode cL_beats 2 = .ok (.aload_n 0, 1) := by decide +kernel
theorem dL_beats_3 : decode cL_beats 3 = .ok (.iload_n 1, 1) := by decide +kernel
theorem dL_beats_4 : decode cL_beats 4 = .ok (.invokevirtual 74, 3) := by decide +kernel
theorem dL_beats_7 : decode cL_beats 7 = .ok (.i2l, 1) := by decide +kernel
theorem dL_beats_8 : decode cL_beats 8 = .ok (.lastore, 1) := by decide +kernel
theorem dL_beats_9 : decode cL_beats 9 = .ok (.goto 15, 3) := by decide +kernel
theorem dL_beats_12 : decode cL_beats 12 = .ok (.astore_n 3, 1) := by decide +kernel
theorem dL_beats_13 : decode cL_beats 13 = .ok (.iconst 1, 1) := by decide +kernel
theorem dL_beats_14 : decode cL_beats 14 = .ok (.ireturn, 1) := by decide +kernel
theorem dL_beats_15 : decode cL_beats 15 = .ok (.astore_n 3, 1) := by decide +kernel
theorem dL_beats_16 : decode cL_beats 16 = .ok (.iconst 2, 1) := by decide +kernel
theorem dL_beats_17 : decode cL_beats 17 = .ok (.ireturn, 1) := by decide +kernel
theorem dL_beats_18 : decode cL_beats 18 = .ok (.astore_n 3, 1) := by decide +kernel
theorem dL_beats_19 : decode cL_beats 19 = .ok (.iconst 3, 1) := by decide +kernel
theorem dL_beats_20 : decode cL_beats 20 = .ok (.ireturn, 1) := by decide +kernel
theorem dL_beats_21 : decode cL_beats 21 = .ok (.astore_n 3, 1) := by decide +kernel
theorem dL_beats_22 : decode cL_beats 22 = .ok (.iconst 4, 1) := by decide +kernel
theorem dL_beats_23 : decode cL_beats 23 = .ok (.ireturn, 1) := by decide +kernel
theorem dL_beats_24 : decode cL_beats 24 = .ok (.iconst 0, 1) := by decide +kernel
theorem dL_beats_25 : decode cL_beats 25 = .ok (.ireturn, 1) := by decide +kernel
set_option maxRecDepth 20000 in
theorem ggL_inStep_X5_inStep : GoodIn wsL_inStep wsX5_inStep := goodIn_ca (goodIn_ca (goodIn_ca (goodIn_ca (goodIn_ca (goodIn_ca (goodIn_r _ [9, 10, 11, 8, 12, 13, 14, 15, 16, 17, 18, 19, 20, 21, 22, 23, 24, 25, 26, 27, 28, 29, 30, 31, 32, 33, 34, 35, 36, 37, 38, 39, 40, 41, 42, 43, 44, 45, 46, 47, 48, 49, 50, 51, 52, 53, 54, 55, 56, 57, 58, 59, 60, 61, 62, 63, 64, 65, 66, 67, 68, 69, 70, 71, 72, 73, 74, 75, 76, 77, 78, 79, 80, 81, 82, 83, 84, 85, 86, 87, 88, 89, 90, 91, 92, 93, 94, 95, 96, 97, 98, 99, 100, 101, 102, 103, 104, 105, 106, 107, 108, 109, 110, 111, 112, 113, 114, 115, 116, 117, 118, 119, 120, 121, 122, 123, 124, 125, 126, 127, 128, 129, 130, 131, 132, 133] (by decide +kernel) (by decide +kernel)) (goodIn_sub (fun _ h => List.mem_cons_of_mem _ (List.mem_append_left _ (List.mem_append_left _ (List.mem_append_left _ (List.mem_append_left _ (List.mem_append_right _ h)))))) (by decide +kernel))) (goodIn_sub (fun _ h => List.mem_cons_of_mem _ (List.mem_append_left _ (List.mem_append_left _ (List.mem_append_left _ (List.mem_append_right _ h))))) (by decide +kernel))) (goodIn_sub (fun _ h => List.mem_cons_of_mem _ (List.mem_append_left _ (List.mem_append_left _ (List.mem_append_right _ h)))) (by decide +kernel))) (goodIn_sub (fun _ h => List.mem_cons_of_mem _ (List.mem_append_left _ (List.mem_append_right _ h))) (by decide +kernel))) (goodIn_sub (fun _ h => List.mem_cons_of_mem _ (List.mem_append_left _ (List.mem_append_left _ (List.mem_append_left _ (List.mem_append_left _ (List.mem_append_left _ (List.mem_append_right _ h))))))) (by decide +kernel))) (goodIn_sub (fun _ h => List.mem_cons_of_mem _ (List.mem_append_right _ h)) (by decide +kernel))
set_option maxRecDepth 20000 in
theorem gL_inStep_X5_inStep : GoodIn wsL_inStep (wsV RL 77 RX5 yX5_inStep wsX5_inStep) := goodIn_app (goodIn_of _ (by decide +kernel)) ggL_inStep_X5_inStep
theorem dL_inStep_0 : decode cL_inStep 0 = .ok (.aload_n 3, 1) := by decide +kernel
theorem dL_inStep_1 : decode cL_inStep 1 = .ok (.iconst 0, 1) := by decide +kernel
theorem dL_inStep_2 : decode cL_inStep 2 = .ok (.aload_n 0, 1) := by decide +kernel
theorem dL_inStep_3 : decode cL_inStep 3 = .ok (.iload_n 1, 1) := by decide +kernel
theorem dL_inStep_4 : decode cL_inStep 4 = .ok (.iload_n 2, 1) := by decide +kernel
theorem dL_inStep_5 : decode cL_inStep 5 = .ok (.invokevirtual 77, 3) := by decide +kernel
theorem dL_inStep_8 : decode cL_inStep 8 = .ok (.ifCond .eq 7, 3) := by decide +kernel
theorem dL_inStep_11 : decode cL_inStep 11 = .ok (.lconst 1, 1) := by decide +kernel
theorem dL_inStep_12 : decode cL_inStep 12 = .ok (.goto 4, 3) := by decide +kernel
theorem dL_inStep_15 : decode cL_inStep 15 = .ok (.lconst 0, 1) := by decide +kernel
theorem dL_inStep_16 : decode cL_inStep 16 = .ok (.lastore, 1) := by decide +kernel
theorem dL_inStep_17 : decode cL_inStep 17 = .ok (.goto 19, 3) := by decide +kernel
theorem dL_inStep_20 : decode cL_inStep 20 = .ok (.astore 4, 2) := by decide +kernel
theorem dL_inStep_22 : decode cL_inStep 22 = .ok (.iconst 1, 1) := by decide +kernel
theorem dL_inStep_23 : decode cL_inStep 23 = .ok (.ireturn, 1) := by decide +kernel
theorem dL_inStep_24 : decode cL_inStep 24 = .ok (.astore 4, 2) := by decide +kernel
theorem dL_inStep_26 : decode cL_inStep 26 = .ok (.iconst 2, 1) := by decide +kernel
theorem dL_inStep_27 : decode cL_inStep 27 = .ok (.ireturn, 1) := by decide +kernel
theorem dL_inStep_28 : decode cL_inStep 28 = .ok (.astore 4, 2) := by decide +kernel
theorem dL_inStep_30 : decode cL_inStep 30 = .ok (.iconst 3, 1) := by decide +kernel
theorem dL_inStep_31 : decode cL_inStep 31 = .ok (.ireturn, 1) := by decide +kernel
theorem dL_inStep_32 : decode cL_inStep 32 = .ok (.astore 4, 2) := by decide +kernel
theorem dL_inStep_34 : decode cL_inStep 34 = .ok (.iconst 4, 1) := by decide +kernel
theorem dL_inStep_35 : decode cL_inStep 35 = .ok (.ireturn, 1) := by decide +kernel
theorem dL_inStep_36 : decode cL_inStep 36 = .ok (.iconst 0, 1) := by decide +kernel
theorem dL_inStep_37 : decode cL_inStep 37 = .ok (.ireturn, 1) := by decide +kernel
set_option maxRecDepth 20000 in
theorem ggL_groups_X5_groups : GoodIn wsL_groups wsX5_groups := goodIn_ca (goodIn_ca (goodIn_ca (goodIn_ca (goodIn_r _ [7, 8, 9, 10, 11, 6, 12, 13, 14, 15, 16, 17, 18, 19, 20, 21, 22, 23, 24, 25, 26, 27, 28, 29, 30, 31, 32, 33, 34, 35, 36, 37, 38, 39, 40, 41, 42, 43, 44, 45, 46, 47, 48, 49, 50, 51, 52, 53, 54, 55, 56, 57, 58, 59, 60, 61, 62, 63, 64, 65, 66, 67, 68, 69, 70, 71, 72, 73, 74, 75, 76, 77, 78, 79, 80, 81, 82, 83, 84, 85, 86, 87, 88, 89, 90, 91, 92, 93, 94, 95, 96, 97, 98, 99, 100, 101, 102, 103, 104, 105, 106, 107, 108, 109, 110, 111, 112, 113, 114, 115, 116, 117, 118, 119, 120, 121, 122, 123, 124, 125] (by decide +kernel) (by decide +kernel)) (goodIn_sub (fun _ h => List.mem_cons_of_mem _ (List.mem_append_left _ (List.mem_append_left _ (List.mem_append_right _ h)))) (by decide +kernel))) (goodIn_sub (fun _ h => List.mem_cons_of_mem _ (List.mem_append_left _ (List.mem_append_right _ h))) (by decide +kernel))) (goodIn_sub (fun _ h => List.mem_cons_of_mem _ (List.mem_append_left _ (List.mem_append_left _ (List.mem_append_left _ (List.mem_append_right _ h))))) (by decide +kernel))) (goodIn_sub (fun _ h => List.mem_cons_of_mem _ (List.mem_append_right _ h)) (by decide +kernel))
set_option maxRecDepth 20000 in
theorem gL_groups_X5_groups : GoodIn wsL_groups (wsV RL 80 RX5 yX5_groups wsX5_groups) := goodIn_app (goodIn_of _ (by decide +kernel)) ggL_groups_X5_groups
theorem dL_groups_0 : decode cL_groups 0 = .ok (.aload_n 1, 1) := by decide +kernel
theorem dL_groups_1 : decode cL_groups 1 = .ok (.iconst 0, 1) := by decide +kernel
theorem dL_groups_2 : decode cL_groups 2 = .ok (.aload_n 0, 1) := by decide +kernel
theorem dL_groups_3 : decode cL_groups 3 = .ok (.invokevirtual 80, 3) := by decide +kernel
theorem dL_groups_6 : decode cL_groups 6 = .ok (.i2l, 1) := by decide +kernel
theorem dL_groups_7 : decode cL_groups 7 = .ok (.lastore, 1) := by decide +kernel
theorem dL_groups_8 : decode cL_groups 8 = .ok (.goto 9, 3) := by decide +kernel
theorem dL_groups_11 : decode cL_groups 11 = .ok (.astore_n 2, 1) := by decide +kernel
theorem dL_groups_12 : decode cL_groups 12 = .ok (.iconst 1, 1) := by decide +kernel
theorem dL_groups_13 : decode cL_groups 13 = .ok (.ireturn, 1) := by decide +kernel
theorem dL_groups_14 : decode cL_groups 14 = .ok (.astore_n 2, 1) := by decide +kernel
theorem dL_groups_15 : decode cL_groups 15 = .ok (.iconst 2, 1) := by decide +kernel
theorem dL_groups_16 : decode cL_groups 16 = .ok (.ireturn, 1) := by decide +kernel
theorem dL_groups_17 : decode cL_groups 17 = .ok (.iconst 0, 1) := by decide +kernel
theorem dL_groups_18 : decode cL_groups 18 = .ok (.ireturn, 1) := by decide +kernel
set_option maxRecDepth 20000 in
theorem ggL_groupOf_X5_groupOf : GoodIn wsL_groupOf wsX5_groupOf := goodIn_ca (goodIn_ca (goodIn_ca (goodIn_ca (goodIn_ca (goodIn_ca (goodIn_r _ [9, 10, 11, 12, 13, 8, 14, 15, 16, 17, 18, 19, 20, 21, 22, 23, 24, 25, 26, 27, 28, 29, 30, 31, 32, 33, 34, 35, 36, 37, 38, 39, 40, 41, 42, 43, 44, 45, 46, 47, 48, 49, 50, 51, 52, 53, 54, 55, 56, 57, 58, 59, 60, 61, 62, 63, 64, 65, 66, 67, 68, 69, 70, 71, 72, 73, 74, 75, 76, 77, 78, 79, 80, 81, 82, 83, 84, 85, 86, 87, 88, 89, 90, 91, 92, 93, 94, 95, 96, 97, 98, 99, 100, 101, 102, 103, 104, 105, 106, 107, 108, 109, 110, 111, 112, 113, 114, 115, 116, 117, 118, 119, 120, 121, 122, 123, 124, 125, 126, 127, 128, 129, 130, 131, 132, 133, 134, 135, 136, 137, 138, 139, 140, 141, 142] (by decide +kernel) (by decide +kernel)) (goodIn_sub (fun _ h => List.mem_cons_of_mem _ (List.mem_append_left _ (List.mem_append_left _ (List.mem_append_left _ (List.mem_append_left _ (List.mem_append_left _ (List.mem_append_right _ h))))))) (by decide +kernel))) (goodIn_sub (fun _ h => List.mem_cons_of_mem _ (List.mem_append_left _ (List.mem_append_left _ (List.mem_append_left _ (List.mem_append_left _ (List.mem_append_right _ h)))))) (by decide +kernel))) (goodIn_sub (fun _ h => List.mem_cons_of_mem _ (List.mem_append_left _ (List.mem_append_left _ (List.mem_append_left _ (List.mem_append_right _ h))))) (by decide +kernel))) (goodIn_sub (fun _ h => List.mem_cons_of_mem _ (List.mem_append_left _ (List.mem_append_left _ (List.mem_append_right _ h)))) (by decide +kernel))) (goodIn_sub (fun _ h => List.mem_cons_of_mem _ (List.mem_append_left _ (List.mem_append_right _ h))) (by decide +kernel))) (goodIn_sub (fun _ h => List.mem_cons_of_mem _ (List.mem_append_right _ h)) (by decide +kernel))
set_option maxRecDepth 20000 in
theorem gL_groupOf_X5_groupOf : GoodIn wsL_groupOf (wsV RL 83 RX5 yX5_groupOf wsX5_groupOf) := goodIn_app (goodIn_of _ (by decide +kernel)) ggL_groupOf_X5_groupOf
theorem dL_groupOf_0 : decode cL_groupOf 0 = .ok (.aload_n 2, 1) := by decide +kernel
theorem dL_groupOf_1 : decode cL_groupOf 1 = .ok (.iconst 0, 1) := by decide +kernel
theorem dL_groupOf_2 : decode cL_groupOf 2 = .ok (.aload_n 0, 1) := by decide +kernel
theorem dL_groupOf_3 : decode cL_groupOf 3 = .ok (.iload_n 1, 1) := by decide +kernel
theorem dL_groupOf_4 : decode cL_groupOf 4 = .ok (.invokevirtual 83, 3) := by decide +kernel
theorem dL_groupOf_7 : decode cL_groupOf 7 = .ok (.i2l, 1) := by decide +kernel
theorem dL_groupOf_8 : decode cL_groupOf 8 = .ok (.lastore, 1) := by decide +kernel
theorem dL_groupOf_9 : decode cL_groupOf 9 = .ok (.goto 15, 3) := by decide +kernel
theorem dL_groupOf_12 : decode cL_groupOf 12 = .ok (.astore_n 3, 1) := by decide +kernel
theorem dL_groupOf_13 : decode cL_groupOf 13 = .ok (.iconst 1, 1) := by decide +kernel
theorem dL_groupOf_14 : decode cL_groupOf 14 = .ok (.ireturn, 1) := by decide +kernel
theorem dL_groupOf_15 : decode cL_groupOf 15 = .ok (.astore_n 3, 1) := by decide +kernel
theorem dL_groupOf_16 : decode cL_groupOf 16 = .ok (.iconst 2, 1) := by decide +kernel
theorem dL_groupOf_17 : decode cL_groupOf 17 = .ok (.ireturn, 1) := by decide +kernel
theorem dL_groupOf_18 : decode cL_groupOf 18 = .ok (.astore_n 3, 1) := by decide +kernel
theorem dL_groupOf_19 : decode cL_groupOf 19 = .ok (.iconst 3, 1) := by decide +kernel
theorem dL_groupOf_20 : decode cL_groupOf 20 = .ok (.ireturn, 1) := by decide +kernel
theorem dL_groupOf_21 : decode cL_groupOf 21 = .ok (.astore_n 3, 1) := by decide +kernel
theorem dL_groupOf_22 : decode cL_groupOf 22 = .ok (.iconst 4, 1) := by decide +kernel
theorem dL_groupOf_23 : decode cL_groupOf 23 = .ok (.ireturn, 1) := by decide +kernel
theorem dL_groupOf_24 : decode cL_groupOf 24 = .ok (.iconst 0, 1) := by decide +kernel
theorem dL_groupOf_25 : decode cL_groupOf 25 = .ok (.ireturn, 1) := by decide +kernel
set_option maxRecDepth 20000 in
theorem ggL_islands_X5_islands : GoodIn wsL_islands wsX5_islands := goodIn_ca (goodIn_ca (goodIn_ca (goodIn_ca (goodIn_r _ [7, 8, 9, 10, 11, 6, 12, 13, 14, 15, 16, 17, 18, 19, 20, 21, 22, 23, 24, 25, 26, 27, 28, 29, 30, 31, 32, 33, 34, 35, 36, 37, 38, 39, 40, 41, 42, 43, 44, 45, 46, 47, 48, 49, 50, 51, 52, 53, 54, 55, 56, 57, 58, 59, 60, 61, 62, 63, 64, 65, 66, 67, 68, 69, 70, 71, 72, 73, 74, 75, 76, 77, 78, 79, 80, 81, 82, 83, 84, 85, 86, 87, 88, 89, 90, 91, 92, 93, 94, 95, 96, 97, 98, 99, 100, 101, 102, 103, 104, 105, 106, 107, 108, 109, 110, 111, 112, 113, 114, 115, 116, 117, 118, 119, 120] (by decide +kernel) (by decide +kernel)) (goodIn_sub (fun _ h => List.mem_cons_of_mem _ (List.mem_append_left _ (List.mem_append_left _ (List.mem_append_right _ h)))) (by decide +kernel))) (goodIn_sub (fun _ h => List.mem_cons_of_mem _ (List.mem_append_left _ (List.mem_append_right _ h))) (by decide +kernel))) (goodIn_sub (fun _ h => List.mem_cons_of_mem _ (List.mem_append_left _ (List.mem_append_left _ (List.mem_append_left _ (List.mem_append_right _ h))))) (by decide +kernel))) (goodIn_sub (fun _ h => List.mem_cons_of_mem _ (List.mem_append_right _ h)) (by decide +kernel))
set_option maxRecDepth 20000 in
theorem gL_islands_X5_islands : GoodIn wsL_islands (wsV RL 86 RX5 yX5_islands wsX5_islands) := goodIn_app (goodIn_of _ (by decide +kernel)) ggL_islands_X5_islands
theorem dL_islands_0 : decode cL_islands 0 = .ok (.aload_n 1, 1) := by decide +kernel
theorem dL_islands_1 : decode cL_islands 1 = .ok (.iconst 0, 1) := by decide +kernel
theorem dL_islands_2 : decode cL_islands 2 = .ok (.aload_n 0, 1) := by decide +kernel
theorem dL_islands_3 : decode cL_islands 3 = .ok (.invokevirtual 86, 3) := by decide +kernel
theorem dL_islands_6 : decode cL_islands 6 = .ok (.i2l, 1) := by decide +kernel
theorem dL_islands_7 : decode cL_islands 7 = .ok (.lastore, 1) := by decide +kernel
theorem dL_islands_8 : decode cL_islands 8 = .ok (.goto 9, 3) := by decide +kernel
theorem dL_islands_11 : decode cL_islands 11 = .ok (.astore_n 2, 1) := by decide +kernel
theorem dL_islands_12 : decode cL_islands 12 = .ok (.iconst 1, 1) := by decide +kernel
theorem dL_islands_13 : decode cL_islands 13 = .ok (.ireturn, 1) := by decide +kernel
theorem dL_islands_14 : decode cL_islands 14 = .ok (.astore_n 2, 1) := by decide +kernel
theorem dL_islands_15 : decode cL_islands 15 = .ok (.iconst 2, 1) := by decide +kernel
theorem dL_islands_16 : decode cL_islands 16 = .ok (.ireturn, 1) := by decide +kernel
theorem dL_islands_17 : decode cL_islands 17 = .ok (.iconst 0, 1) := by decide +kernel
theorem dL_islands_18 : decode cL_islands 18 = .ok (.ireturn, 1) := by decide +kernel
set_option maxRecDepth 20000 in
theorem ggL_order_X5_order : GoodIn wsL_order wsX5_order := goodIn_ca (goodIn_ca (goodIn_ca (goodIn_ca (goodIn_ca (goodIn_r _ [8, 9, 10, 11, 12, 13, 14, 7, 15, 16, 17, 18, 19, 20, 21, 22, 23, 24, 25, 26, 27, 28, 29, 30, 31, 32, 33, 34, 35, 36, 37, 38, 39, 40, 41, 42, 43, 44, 45, 46, 47, 48, 49, 50, 51, 52, 53, 54, 55, 56, 57, 58, 59, 60, 61, 62, 63, 64, 65, 66, 67, 68, 69, 70, 71, 72, 73, 74, 75, 76, 77, 78, 79, 80, 81, 82, 83, 84, 85, 86, 87, 88, 89, 90, 91, 92, 93, 94, 95, 96, 97, 98, 99, 100, 101, 102, 103, 104, 105, 106, 107, 108, 109, 110, 111, 112, 113, 114, 115, 116, 117, 118, 119] (by decide +kernel) (by decide +kernel)) (goodIn_sub (fun _ h => List.mem_cons_of_mem _ (List.mem_append_left _ (List.mem_append_left _ (List.mem_append_left _ (List.mem_append_right _ h))))) (by decide +kernel))) (goodIn_sub (fun _ h => List.mem_cons_of_mem _ (List.mem_append_left _ (List.mem_append_left _ (List.mem_append_right _ h)))) (by decide +kernel))) (goodIn_sub (fun _ h => List.mem_cons_of_mem _ (List.mem_append_left _ (List.mem_append_right _ h))) (by decide +kernel))) (goodIn_sub (fun _ h => List.mem_cons_of_mem _ (List.mem_append_left _ (List.mem_append_left _ (List.mem_append_left _ (List.mem_append_left _ (List.mem_append_right _ h)))))) (by decide +kernel))) (goodIn_sub (fun _ h => List.mem_cons_of_mem _ (List.mem_append_right _ h)) (by decide +kernel))
set_option maxRecDepth 20000 in
theorem gL_order_X5_order : GoodIn wsL_order (wsV RL 89 RX5 yX5_order wsX5_order) := goodIn_app (goodIn_of _ (by decide +kernel)) ggL_order_X5_order
theorem dL_order_0 : decode cL_order 0 = .ok (.aload_n 2, 1) := by decide +kernel
theorem dL_order_1 : decode cL_order 1 = .ok (.iconst 0, 1) := by decide +kernel
theorem dL_order_2 : decode cL_order 2 = .ok (.aload_n 0, 1) := by decide +kernel
theorem dL_order_3 : decode cL_order 3 = .ok (.iload_n 1, 1) := by decide +kernel
theorem dL_order_4 : decode cL_order 4 = .ok (.invokevirtual 89, 3) := by decide +kernel
theorem dL_order_7 : decode cL_order 7 = .ok (.i2l, 1) := by decide +kernel
theorem dL_order_8 : decode cL_order 8 = .ok (.lastore, 1) := by decide +kernel
theorem dL_order_9 : decode cL_order 9 = .ok (.goto 12, 3) := by decide +kernel
theorem dL_order_12 : decode cL_order 12 = .ok (.astore_n 3, 1) := by decide +kernel
theorem dL_order_13 : decode cL_order 13 = .ok (.iconst 1, 1) := by decide +kernel
theorem dL_order_14 : decode cL_order 14 = .ok (.ireturn, 1) := by decide +kernel
theorem dL_order_15 : decode cL_order 15 = .ok (.astore_n 3, 1) := by decide +kernel
theorem dL_order_16 : decode cL_order 16 = .ok (.iconst 2, 1) := by decide +kernel
theorem dL_order_17 : decode cL_order 17 = .ok (.ireturn, 1) := by decide +kernel
theorem dL_order_18 : decode cL_order 18 = .ok (.astore_n 3, 1) := by decide +kernel
theorem dL_order_19 : decode cL_order 19 = .ok (.iconst 3, 1) := by decide +kernel
theorem dL_order_20 : decode cL_order 20 = .ok (.ireturn, 1) := by decide +kernel
theorem dL_order_21 : decode cL_order 21 = .ok (.iconst 0, 1) := by decide +kernel
theorem dL_order_22 : decode cL_order 22 = .ok (.ireturn, 1) := by decide +kernel
set_option maxRecDepth 20000 in
theorem ggL_map_X5_map : GoodIn wsL_map wsX5_map := goodIn_ca (goodIn_ca (goodIn_ca (goodIn_ca (goodIn_ca (goodIn_ca (goodIn_r _ [9, 10, 11, 12, 13, 14, 15, 16, 17, 8, 18, 19, 20, 21, 22, 23, 24, 25, 26, 27, 28, 29, 30, 31, 32, 33, 34, 35, 36, 37, 38, 39, 40, 41, 42, 43, 44, 45, 46, 47, 48, 49, 50, 51, 52, 53, 54, 55, 56, 57, 58, 59, 60, 61, 62, 63, 64, 65, 66, 67, 68, 69, 70, 71, 72, 73, 74, 75, 76, 77, 78, 79, 80, 81, 82, 83, 84, 85, 86, 87, 88, 89, 90, 91, 92, 93, 94, 95, 96, 97, 98, 99, 100, 101, 102, 103, 104, 105, 106, 107, 108, 109, 110, 111, 112, 113, 114, 115, 116, 117, 118, 119, 120, 121, 122, 123] (by decide +kernel) (by decide +kernel)) (goodIn_sub (fun _ h => List.mem_cons_of_mem _ (List.mem_append_left _ (List.mem_append_left _ (List.mem_append_left _ (List.mem_append_left _ (List.mem_append_left _ (List.mem_append_right _ h))))))) (by decide +kernel))) (goodIn_sub (fun _ h => List.mem_cons_of_mem _ (List.mem_append_left _ (List.mem_append_left _ (List.mem_append_left _ (List.mem_append_left _ (List.mem_append_right _ h)))))) (by decide +kernel))) (goodIn_sub (fun _ h => List.mem_cons_of_mem _ (List.mem_append_left _ (List.mem_append_left _ (List.mem_append_left _ (List.mem_append_right _ h))))) (by decide +kernel))) (goodIn_sub (fun _ h => List.mem_cons_of_mem _ (List.mem_append_left _ (List.mem_append_left _ (List.mem_append_right _ h)))) (by decide +kernel))) (goodIn_sub (fun _ h => List.mem_cons_of_mem _ (List.mem_append_left _ (List.mem_append_right _ h))) (by decide +kernel))) (goodIn_sub (fun _ h => List.mem_cons_of_mem _ (List.mem_append_right _ h)) (by decide +kernel))
set_option maxRecDepth 20000 in
theorem gL_map_X5_map : GoodIn wsL_map (wsV RL 92 RX5 yX5_map wsX5_map) := goodIn_app (goodIn_of _ (by decide +kernel)) ggL_map_X5_map
theorem dL_map_0 : decode cL_map 0 = .ok (.aload 4, 2) := by decide +kernel
theorem dL_map_2 : decode cL_map 2 = .ok (.iconst 0, 1) := by decide +kernel
theorem dL_map_3 : decode cL_map 3 = .ok (.aload_n 0, 1) := by decide +kernel
theorem dL_map_4 : decode cL_map 4 = .ok (.iload_n 1, 1) := by decide +kernel
theorem dL_map_5 : decode cL_map 5 = .ok (.iload_n 2, 1) := by decide +kernel
theorem dL_map_6 : decode cL_map 6 = .ok (.iload_n 3, 1) := by decide +kernel
theorem dL_map_7 : decode cL_map 7 = .ok (.invokevirtual 92, 3) := by decide +kernel
theorem dL_map_10 : decode cL_map 10 = .ok (.i2l, 1) := by decide +kernel
theorem dL_map_11 : decode cL_map 11 = .ok (.lastore, 1) := by decide +kernel
theorem dL_map_12 : decode cL_map 12 = .ok (.goto 19, 3) := by decide +kernel
theorem dL_map_15 : decode cL_map 15 = .ok (.astore 5, 2) := by decide +kernel
theorem dL_map_17 : decode cL_map 17 = .ok (.iconst 1, 1) := by decide +kernel
theorem dL_map_18 : decode cL_map 18 = .ok (.ireturn, 1) := by decide +kernel
theorem dL_map_19 : decode cL_map 19 = .ok (.astore 5, 2) := by decide +kernel
theorem dL_map_21 : decode cL_map 21 = .ok (.iconst 2, 1) := by decide +kernel
theorem dL_map_22 : decode cL_map 22 = .ok (.ireturn, 1) := by decide +kernel
theorem dL_map_23 : decode cL_map 23 = .ok (.astore 5, 2) := by decide +kernel
theorem dL_map_25 : decode cL_map 25 = .ok (.iconst 3, 1) := by decide +kernel
theorem dL_map_26 : decode cL_map 26 = .ok (.ireturn, 1) := by decide +kernel
theorem dL_map_27 : decode cL_map 27 = .ok (.astore 5, 2) := by decide +kernel
theorem dL_map_29 : decode cL_map 29 = .ok (.iconst 4, 1) := by decide +kernel
theorem dL_map_30 : decode cL_map 30 = .ok (.ireturn, 1) := by decide +kernel
theorem dL_map_31 : decode cL_map 31 = .ok (.iconst 0, 1) := by decide +kernel
theorem dL_map_32 : decode cL_map 32 = .ok (.ireturn, 1) := by decide +kernel
set_option maxRecDepth 20000 in
theorem ggL_locks_X5_locks : GoodIn wsL_locks wsX5_locks := goodIn_ca (goodIn_ca (goodIn_ca (goodIn_ca (goodIn_ca (goodIn_ca (goodIn_r _ [9, 10, 11, 12, 13, 8, 14, 15, 16, 17, 18, 19, 20, 21, 22, 23, 24, 25, 26, 27, 28, 29, 30, 31, 32, 33, 34, 35, 36, 37, 38, 39, 40, 41, 42, 43, 44, 45, 46, 47, 48, 49, 50, 51, 52, 53, 54, 55, 56, 57, 58, 59, 60, 61, 62, 63, 64, 65, 66, 67, 68, 69, 70, 71, 72, 73, 74, 75, 76, 77, 78, 79, 80, 81, 82, 83, 84, 85, 86, 87, 88, 89, 90, 91, 92, 93, 94, 95, 96, 97, 98, 99, 100, 101, 102, 103, 104, 105, 106, 107, 108, 109, 110, 111, 112, 113, 114, 115, 116, 117, 118, 119, 120, 121, 122, 123, 124, 125, 126, 127, 128, 129, 130, 131, 132, 133, 134, 135, 136, 137, 138, 139, 140, 141, 142, 143, 144, 145, 146, 147, 148, 149, 150, 151, 152, 153, 154, 155, 156, 157, 158, 159, 160, 161, 162, 163, 164, 165, 166, 167, 168, 169, 170, 171, 172] (by decide +kernel) (by decide +kernel)) (goodIn_sub (fun _ h => List.mem_cons_of_mem _ (List.mem_append_left _ (List.mem_append_left _ (List.mem_append_left _ (List.mem_append_left _ (List.mem_append_right _ h)))))) (by decide +kernel))) (goodIn_sub (fun _ h => List.mem_cons_of_mem _ (List.mem_append_left _ (List.mem_append_left _ (List.mem_append_left _ (List.mem_append_right _ h))))) (by decide +kernel))) (goodIn_sub (fun _ h => List.mem_cons_of_mem _ (List.mem_append_left _ (List.mem_append_left _ (List.mem_append_right _ h)))) (by decide +kernel))) (goodIn_sub (fun _ h => List.mem_cons_of_mem _ (List.mem_append_left _ (List.mem_append_right _ h))) (by decide +kernel))) (goodIn_sub (fun _ h => List.mem_cons_of_mem _ (List.mem_append_left _ (List.mem_append_left _ (List.mem_append_left _ (List.mem_append_left _ (List.mem_append_left _ (List.mem_append_right _ h))))))) (by decide +kernel))) (goodIn_sub (fun _ h => List.mem_cons_of_mem _ (List.mem_append_right _ h)) (by decide +kernel))
set_option maxRecDepth 20000 in
theorem gL_locks_X5_locks : GoodIn wsL_locks (wsV RL 95 RX5 yX5_locks wsX5_locks) := goodIn_app (goodIn_of _ (by decide +kernel)) ggL_locks_X5_locks
theorem dL_locks_0 : decode cL_locks 0 = .ok (.aload 4, 2) := by decide +kernel
theorem dL_locks_2 : decode cL_locks 2 = .ok (.iconst 0, 1) := by decide +kernel
theorem dL_locks_3 : decode cL_locks 3 = .ok (.aload_n 0, 1) := by decide +kernel
theorem dL_locks_4 : decode cL_locks 4 = .ok (.iload_n 1, 1) := by decide +kernel
theorem dL_locks_5 : decode cL_locks 5 = .ok (.iload_n 2, 1) := by decide +kernel
theorem dL_locks_6 : decode cL_locks 6 = .ok (.iload_n 3, 1) := by decide +kernel
theorem dL_locks_7 : decode cL_locks 7 = .ok (.invokevirtual 95, 3) := by decide +kernel
theorem dL_locks_10 : decode cL_locks 10 = .ok (.ifCond .eq 7, 3) := by decide +kernel
theorem dL_locks_13 : decode cL_locks 13 = .ok (.lconst 1, 1) := by decide +kernel
theorem dL_locks_14 : decode cL_locks 14 = .ok (.goto 4, 3) := by decide +kernel
