theorem dL_locks_17 : decode cL_locks 17 = .ok (.lconst 0, 1) := by decide +kernel
theorem dL_locks_18 : decode cL_locks 18 = .ok (.lastore, 1) := by decide +kernel
theorem dL_locks_19 : decode cL_locks 19 = .ok (.goto 19, 3) := by decide +kernel
theorem dL_locks_22 : decode cL_locks 22 = .ok (.astore 5, 2) := by decide +kernel
theorem dL_locks_24 : decode cL_locks 24 = .ok (.iconst 1, 1) := by decide +kernel
theorem dL_locks_25 : decode cL_locks 25 = .ok (.ireturn, 1) := by decide +kernel
theorem dL_locks_26 : decode cL_locks 26 = .ok (.astore 5, 2) := by decide +kernel
theorem dL_locks_28 : decode cL_locks 28 = .ok (.iconst 2, 1) := by decide +kernel
theorem dL_locks_29 : decode cL_locks 29 = .ok (.ireturn, 1) := by decide +kernel
theorem dL_locks_30 : decode cL_locks 30 = .ok (.astore 5, 2) := by decide +kernel
theorem dL_locks_32 : decode cL_locks 32 = .ok (.iconst 3, 1) := by decide +kernel
theorem dL_locks_33 : decode cL_locks 33 = .ok (.ireturn, 1) := by decide +kernel
theorem dL_locks_34 : decode cL_locks 34 = .ok (.astore 5, 2) := by decide +kernel
theorem dL_locks_36 : decode cL_locks 36 = .ok (.iconst 4, 1) := by decide +kernel
theorem dL_locks_37 : decode cL_locks 37 = .ok (.ireturn, 1) := by decide +kernel
theorem dL_locks_38 : decode cL_locks 38 = .ok (.iconst 0, 1) := by decide +kernel
theorem dL_locks_39 : decode cL_locks 39 = .ok (.ireturn, 1) := by decide +kernel
set_option maxRecDepth 20000 in
theorem ggL_tongue_X5_tongue : GoodIn wsL_tongue wsX5_tongue := goodIn_ca (goodIn_ca (goodIn_ca (goodIn_ca (goodIn_ca (goodIn_r _ [8, 9, 10, 11, 7, 12, 13, 14, 15, 16, 17, 18, 19, 20, 21, 22, 23, 24, 25, 26, 27, 28, 29, 30, 31, 32, 33, 34, 35, 36, 37, 38, 39, 40, 41, 42, 43, 44, 45, 46, 47, 48, 49, 50, 51, 52, 53, 54, 55, 56, 57, 58, 59, 60, 61, 62, 63, 64, 65, 66, 67, 68, 69, 70, 71, 72, 73, 74, 75, 76, 77, 78, 79, 80, 81, 82, 83, 84, 85, 86, 87, 88, 89, 90, 91, 92, 93, 94, 95, 96, 97, 98, 99, 100, 101, 102, 103, 104, 105, 106, 107, 108, 109, 110, 111, 112, 113, 114, 115, 116, 117, 118, 119, 120, 121, 122, 123, 124, 125, 126, 127, 128, 129, 130, 131, 132, 133, 134, 135, 136, 137, 138, 139, 140, 141, 142, 143, 144, 145, 146, 147, 148, 149, 150, 151, 152, 153, 154, 155, 156, 157, 158, 159, 160, 161, 162, 163, 164, 165, 166] (by decide +kernel) (by decide +kernel)) (goodIn_sub (fun _ h => List.mem_cons_of_mem _ (List.mem_append_left _ (List.mem_append_left _ (List.mem_append_left _ (List.mem_append_right _ h))))) (by decide +kernel))) (goodIn_sub (fun _ h => List.mem_cons_of_mem _ (List.mem_append_left _ (List.mem_append_left _ (List.mem_append_right _ h)))) (by decide +kernel))) (goodIn_sub (fun _ h => List.mem_cons_of_mem _ (List.mem_append_left _ (List.mem_append_right _ h))) (by decide +kernel))) (goodIn_sub (fun _ h => List.mem_cons_of_mem _ (List.mem_append_left _ (List.mem_append_left _ (List.mem_append_left _ (List.mem_append_left _ (List.mem_append_right _ h)))))) (by decide +kernel))) (goodIn_sub (fun _ h => List.mem_cons_of_mem _ (List.mem_append_right _ h)) (by decide +kernel))
set_option maxRecDepth 20000 in
theorem gL_tongue_X5_tongue : GoodIn wsL_tongue (wsV RL 99 RX5 yX5_tongue wsX5_tongue) := goodIn_app (goodIn_of _ (by decide +kernel)) ggL_tongue_X5_tongue
theorem dL_tongue_0 : decode cL_tongue 0 = .ok (.aload_n 3, 1) := by decide +kernel
theorem dL_tongue_1 : decode cL_tongue 1 = .ok (.iconst 0, 1) := by decide +kernel
theorem dL_tongue_2 : decode cL_tongue 2 = .ok (.aload_n 0, 1) := by decide +kernel
theorem dL_tongue_3 : decode cL_tongue 3 = .ok (.iload_n 1, 1) := by decide +kernel
theorem dL_tongue_4 : decode cL_tongue 4 = .ok (.iload_n 2, 1) := by decide +kernel
theorem dL_tongue_5 : decode cL_tongue 5 = .ok (.invokevirtual 99, 3) := by decide +kernel
theorem dL_tongue_8 : decode cL_tongue 8 = .ok (.i2l, 1) := by decide +kernel
theorem dL_tongue_9 : decode cL_tongue 9 = .ok (.lastore, 1) := by decide +kernel
theorem dL_tongue_10 : decode cL_tongue 10 = .ok (.goto 15, 3) := by decide +kernel
theorem dL_tongue_13 : decode cL_tongue 13 = .ok (.astore 4, 2) := by decide +kernel
theorem dL_tongue_15 : decode cL_tongue 15 = .ok (.iconst 1, 1) := by decide +kernel
theorem dL_tongue_16 : decode cL_tongue 16 = .ok (.ireturn, 1) := by decide +kernel
theorem dL_tongue_17 : decode cL_tongue 17 = .ok (.astore 4, 2) := by decide +kernel
theorem dL_tongue_19 : decode cL_tongue 19 = .ok (.iconst 2, 1) := by decide +kernel
theorem dL_tongue_20 : decode cL_tongue 20 = .ok (.ireturn, 1) := by decide +kernel
theorem dL_tongue_21 : decode cL_tongue 21 = .ok (.astore 4, 2) := by decide +kernel
theorem dL_tongue_23 : decode cL_tongue 23 = .ok (.iconst 3, 1) := by decide +kernel
theorem dL_tongue_24 : decode cL_tongue 24 = .ok (.ireturn, 1) := by decide +kernel
theorem dL_tongue_25 : decode cL_tongue 25 = .ok (.iconst 0, 1) := by decide +kernel
theorem dL_tongue_26 : decode cL_tongue 26 = .ok (.ireturn, 1) := by decide +kernel
set_option maxRecDepth 20000 in
theorem ggL_push_X5_push : GoodIn wsL_push wsX5_push := goodIn_ca (goodIn_ca (goodIn_ca (goodIn_ca (goodIn_r _ [8, 9, 10, 11, 12, 13, 14, 15, 16, 17, 18, 19, 20, 7, 21, 22, 23, 24, 25, 26, 27, 28, 29, 30, 31, 32, 33, 34, 35, 36, 37, 38, 39, 40, 41, 42, 43, 44, 45, 46, 47, 48, 49, 50, 51, 52, 53, 54, 55, 56, 57, 58, 59, 60, 61, 62, 63, 64, 65, 66, 67, 68] (by decide +kernel) (by decide +kernel)) (goodIn_sub (fun _ h => List.mem_cons_of_mem _ (List.mem_append_left _ (List.mem_append_left _ (List.mem_append_left _ (List.mem_append_right _ h))))) (by decide +kernel))) (goodIn_sub (fun _ h => List.mem_cons_of_mem _ (List.mem_append_left _ (List.mem_append_left _ (List.mem_append_right _ h)))) (by decide +kernel))) (goodIn_sub (fun _ h => List.mem_cons_of_mem _ (List.mem_append_left _ (List.mem_append_right _ h))) (by decide +kernel))) (goodIn_sub (fun _ h => List.mem_cons_of_mem _ (List.mem_append_right _ h)) (by decide +kernel))
set_option maxRecDepth 20000 in
theorem gL_push_X5_push : GoodIn wsL_push (wsV RL 102 RX5 yX5_push wsX5_push) := goodIn_app (goodIn_of _ (by decide +kernel)) ggL_push_X5_push
theorem dL_push_0 : decode cL_push 0 = .ok (.aload_n 3, 1) := by decide +kernel
theorem dL_push_1 : decode cL_push 1 = .ok (.iconst 0, 1) := by decide +kernel
theorem dL_push_2 : decode cL_push 2 = .ok (.aload_n 0, 1) := by decide +kernel
theorem dL_push_3 : decode cL_push 3 = .ok (.iload_n 1, 1) := by decide +kernel
theorem dL_push_4 : decode cL_push 4 = .ok (.iload_n 2, 1) := by decide +kernel
theorem dL_push_5 : decode cL_push 5 = .ok (.invokevirtual 102, 3) := by decide +kernel
theorem dL_push_8 : decode cL_push 8 = .ok (.i2l, 1) := by decide +kernel
theorem dL_push_9 : decode cL_push 9 = .ok (.lastore, 1) := by decide +kernel
theorem dL_push_10 : decode cL_push 10 = .ok (.goto 15, 3) := by decide +kernel
theorem dL_push_13 : decode cL_push 13 = .ok (.astore 4, 2) := by decide +kernel
theorem dL_push_15 : decode cL_push 15 = .ok (.iconst 1, 1) := by decide +kernel
theorem dL_push_16 : decode cL_push 16 = .ok (.ireturn, 1) := by decide +kernel
theorem dL_push_17 : decode cL_push 17 = .ok (.astore 4, 2) := by decide +kernel
theorem dL_push_19 : decode cL_push 19 = .ok (.iconst 2, 1) := by decide +kernel
theorem dL_push_20 : decode cL_push 20 = .ok (.ireturn, 1) := by decide +kernel
theorem dL_push_21 : decode cL_push 21 = .ok (.astore 4, 2) := by decide +kernel
theorem dL_push_23 : decode cL_push 23 = .ok (.iconst 3, 1) := by decide +kernel
theorem dL_push_24 : decode cL_push 24 = .ok (.ireturn, 1) := by decide +kernel
theorem dL_push_25 : decode cL_push 25 = .ok (.iconst 0, 1) := by decide +kernel
theorem dL_push_26 : decode cL_push 26 = .ok (.ireturn, 1) := by decide +kernel
set_option maxRecDepth 20000 in
theorem ggL_leastPush_X5_leastPush : GoodIn wsL_leastPush wsX5_leastPush := goodIn_ca (goodIn_ca (goodIn_ca (goodIn_ca (goodIn_r _ [7, 8, 9, 10, 11, 12, 13, 14, 15, 6, 16, 17, 18, 19, 20, 21, 22, 23, 24, 25, 26, 27, 28, 29, 30, 31, 32, 33, 34, 35, 36, 37, 38, 39, 40, 41, 42, 43, 44, 45, 46, 47, 48, 49, 50, 51, 52, 53, 54, 55, 56, 57, 58, 59, 60, 61, 62, 63, 64, 65, 66, 67, 68, 69, 70, 71, 72, 73, 74, 75, 76, 77, 78, 79, 80, 81, 82, 83, 84, 85, 86, 87, 88, 89, 90, 91, 92, 93, 94, 95, 96, 97, 98, 99, 100, 101, 102, 103, 104, 105, 106, 107, 108, 109, 110, 111, 112, 113, 114, 115, 116, 117, 118, 119, 120, 121, 122, 123, 124, 125, 126, 127, 128, 129, 130, 131, 132, 133, 134, 135, 136, 137] (by decide +kernel) (by decide +kernel)) (goodIn_sub (fun _ h => List.mem_cons_of_mem _ (List.mem_append_left _ (List.mem_append_left _ (List.mem_append_right _ h)))) (by decide +kernel))) (goodIn_sub (fun _ h => List.mem_cons_of_mem _ (List.mem_append_left _ (List.mem_append_right _ h))) (by decide +kernel))) (goodIn_sub (fun _ h => List.mem_cons_of_mem _ (List.mem_append_left _ (List.mem_append_left _ (List.mem_append_left _ (List.mem_append_right _ h))))) (by decide +kernel))) (goodIn_sub (fun _ h => List.mem_cons_of_mem _ (List.mem_append_right _ h)) (by decide +kernel))
set_option maxRecDepth 20000 in
theorem gL_leastPush_X5_leastPush : GoodIn wsL_leastPush (wsV RL 105 RX5 yX5_leastPush wsX5_leastPush) := goodIn_app (goodIn_of _ (by decide +kernel)) ggL_leastPush_X5_leastPush
theorem dL_leastPush_0 : decode cL_leastPush 0 = .ok (.aload_n 1, 1) := by decide +kernel
theorem dL_leastPush_1 : decode cL_leastPush 1 = .ok (.iconst 0, 1) := by decide +kernel
theorem dL_leastPush_2 : decode cL_leastPush 2 = .ok (.aload_n 0, 1) := by decide +kernel
theorem dL_leastPush_3 : decode cL_leastPush 3 = .ok (.invokevirtual 105, 3) := by decide +kernel
theorem dL_leastPush_6 : decode cL_leastPush 6 = .ok (.i2l, 1) := by decide +kernel
theorem dL_leastPush_7 : decode cL_leastPush 7 = .ok (.lastore, 1) := by decide +kernel
theorem dL_leastPush_8 : decode cL_leastPush 8 = .ok (.goto 9, 3) := by decide +kernel
theorem dL_leastPush_11 : decode cL_leastPush 11 = .ok (.astore_n 2, 1) := by decide +kernel
theorem dL_leastPush_12 : decode cL_leastPush 12 = .ok (.iconst 1, 1) := by decide +kernel
theorem dL_leastPush_13 : decode cL_leastPush 13 = .ok (.ireturn, 1) := by decide +kernel
theorem dL_leastPush_14 : decode cL_leastPush 14 = .ok (.astore_n 2, 1) := by decide +kernel
theorem dL_leastPush_15 : decode cL_leastPush 15 = .ok (.iconst 2, 1) := by decide +kernel
theorem dL_leastPush_16 : decode cL_leastPush 16 = .ok (.ireturn, 1) := by decide +kernel
theorem dL_leastPush_17 : decode cL_leastPush 17 = .ok (.iconst 0, 1) := by decide +kernel
theorem dL_leastPush_18 : decode cL_leastPush 18 = .ok (.ireturn, 1) := by decide +kernel
set_option maxRecDepth 20000 in
theorem ggL_noise_X5_noise : GoodIn wsL_noise wsX5_noise := goodIn_ca (goodIn_r _ [6, 7, 8, 9, 5, 10, 11, 12, 13, 14, 15, 16, 17, 18, 19, 20, 21, 22, 23, 24, 25, 26, 27] (by decide +kernel) (by decide +kernel)) (goodIn_sub (fun _ h => List.mem_cons_of_mem _ (List.mem_append_right _ h)) (by decide +kernel))
set_option maxRecDepth 20000 in
theorem gL_noise_X5_noise : GoodIn wsL_noise (wsV RL 108 RX5 yX5_noise wsX5_noise) := goodIn_app (goodIn_of _ (by decide +kernel)) ggL_noise_X5_noise
theorem dL_noise_0 : decode cL_noise 0 = .ok (.aload_n 2, 1) := by decide +kernel
theorem dL_noise_1 : decode cL_noise 1 = .ok (.iconst 0, 1) := by decide +kernel
theorem dL_noise_2 : decode cL_noise 2 = .ok (.aload_n 0, 1) := by decide +kernel
theorem dL_noise_3 : decode cL_noise 3 = .ok (.iload_n 1, 1) := by decide +kernel
theorem dL_noise_4 : decode cL_noise 4 = .ok (.invokevirtual 108, 3) := by decide +kernel
theorem dL_noise_7 : decode cL_noise 7 = .ok (.i2l, 1) := by decide +kernel
theorem dL_noise_8 : decode cL_noise 8 = .ok (.lastore, 1) := by decide +kernel
theorem dL_noise_9 : decode cL_noise 9 = .ok (.goto 6, 3) := by decide +kernel
theorem dL_noise_12 : decode cL_noise 12 = .ok (.astore_n 3, 1) := by decide +kernel
theorem dL_noise_13 : decode cL_noise 13 = .ok (.iconst 1, 1) := by decide +kernel
theorem dL_noise_14 : decode cL_noise 14 = .ok (.ireturn, 1) := by decide +kernel
theorem dL_noise_15 : decode cL_noise 15 = .ok (.iconst 0, 1) := by decide +kernel
theorem dL_noise_16 : decode cL_noise 16 = .ok (.ireturn, 1) := by decide +kernel
set_option maxRecDepth 20000 in
theorem ggL_seed_X5_seed : GoodIn wsL_seed wsX5_seed := goodIn_ca (goodIn_r _ [6, 7, 8, 9, 10, 5, 11, 12, 13, 14, 15, 16, 17, 18, 19, 20, 21, 22, 23, 24, 25, 26, 27, 28] (by decide +kernel) (by decide +kernel)) (goodIn_sub (fun _ h => List.mem_cons_of_mem _ (List.mem_append_right _ h)) (by decide +kernel))
set_option maxRecDepth 20000 in
theorem gL_seed_X5_seed : GoodIn wsL_seed (wsV RL 111 RX5 yX5_seed wsX5_seed) := goodIn_app (goodIn_of _ (by decide +kernel)) ggL_seed_X5_seed
theorem dL_seed_0 : decode cL_seed 0 = .ok (.aload_n 2, 1) := by decide +kernel
theorem dL_seed_1 : decode cL_seed 1 = .ok (.iconst 0, 1) := by decide +kernel
theorem dL_seed_2 : decode cL_seed 2 = .ok (.aload_n 0, 1) := by decide +kernel
theorem dL_seed_3 : decode cL_seed 3 = .ok (.iload_n 1, 1) := by decide +kernel
theorem dL_seed_4 : decode cL_seed 4 = .ok (.invokevirtual 111, 3) := by decide +kernel
theorem dL_seed_7 : decode cL_seed 7 = .ok (.i2l, 1) := by decide +kernel
theorem dL_seed_8 : decode cL_seed 8 = .ok (.lastore, 1) := by decide +kernel
theorem dL_seed_9 : decode cL_seed 9 = .ok (.goto 6, 3) := by decide +kernel
theorem dL_seed_12 : decode cL_seed 12 = .ok (.astore_n 3, 1) := by decide +kernel
theorem dL_seed_13 : decode cL_seed 13 = .ok (.iconst 1, 1) := by decide +kernel
theorem dL_seed_14 : decode cL_seed 14 = .ok (.ireturn, 1) := by decide +kernel
theorem dL_seed_15 : decode cL_seed 15 = .ok (.iconst 0, 1) := by decide +kernel
theorem dL_seed_16 : decode cL_seed 16 = .ok (.ireturn, 1) := by decide +kernel
set_option maxRecDepth 20000 in
theorem ggL_mark_X5_mark : GoodIn wsL_mark wsX5_mark := goodIn_ca (goodIn_ca (goodIn_ca (goodIn_r _ [7, 8, 9, 10, 11, 12, 6, 13, 14, 15, 16, 17, 18, 19, 20, 21, 22, 23, 24, 25, 26, 27, 28, 29, 30, 31, 32, 33, 34, 35, 36, 37, 38] (by decide +kernel) (by decide +kernel)) (goodIn_sub (fun _ h => List.mem_cons_of_mem _ (List.mem_append_left _ (List.mem_append_right _ h))) (by decide +kernel))) (goodIn_sub (fun _ h => List.mem_cons_of_mem _ (List.mem_append_right _ h)) (by decide +kernel))) (goodIn_sub (fun _ h => List.mem_cons_of_mem _ (List.mem_append_left _ (List.mem_append_left _ (List.mem_append_right _ h)))) (by decide +kernel))
set_option maxRecDepth 20000 in
theorem gL_mark_X5_mark : GoodIn wsL_mark (wsV RL 114 RX5 yX5_mark wsX5_mark) := goodIn_app (goodIn_of _ (by decide +kernel)) ggL_mark_X5_mark
theorem dL_mark_0 : decode cL_mark 0 = .ok (.aload_n 2, 1) := by decide +kernel
theorem dL_mark_1 : decode cL_mark 1 = .ok (.iconst 0, 1) := by decide +kernel
theorem dL_mark_2 : decode cL_mark 2 = .ok (.aload_n 0, 1) := by decide +kernel
theorem dL_mark_3 : decode cL_mark 3 = .ok (.iload_n 1, 1) := by decide +kernel
theorem dL_mark_4 : decode cL_mark 4 = .ok (.invokevirtual 114, 3) := by decide +kernel
theorem dL_mark_7 : decode cL_mark 7 = .ok (.i2l, 1) := by decide +kernel
theorem dL_mark_8 : decode cL_mark 8 = .ok (.lastore, 1) := by decide +kernel
theorem dL_mark_9 : decode cL_mark 9 = .ok (.goto 9, 3) := by decide +kernel
theorem dL_mark_12 : decode cL_mark 12 = .ok (.astore_n 3, 1) := by decide +kernel
theorem dL_mark_13 : decode cL_mark 13 = .ok (.iconst 1, 1) := by decide +kernel
theorem dL_mark_14 : decode cL_mark 14 = .ok (.ireturn, 1) := by decide +kernel
theorem dL_mark_15 : decode cL_mark 15 = .ok (.astore_n 3, 1) := by decide +kernel
theorem dL_mark_16 : decode cL_mark 16 = .ok (.iconst 2, 1) := by decide +kernel
theorem dL_mark_17 : decode cL_mark 17 = .ok (.ireturn, 1) := by decide +kernel
theorem dL_mark_18 : decode cL_mark 18 = .ok (.iconst 0, 1) := by decide +kernel
theorem dL_mark_19 : decode cL_mark 19 = .ok (.ireturn, 1) := by decide +kernel
set_option maxRecDepth 20000 in
theorem ggL_guess_X5_guess : GoodIn wsL_guess wsX5_guess := goodIn_ca (goodIn_ca (goodIn_ca (goodIn_r _ [6, 7, 8, 9, 10, 11, 12, 13, 14, 15, 16, 17, 18, 19, 20, 21, 22, 23, 24, 25, 26, 27, 28, 29, 30, 31, 32, 33, 34, 35, 36] (by decide +kernel) (by decide +kernel)) (goodIn_sub (fun _ h => List.mem_cons_of_mem _ (List.mem_append_left _ (List.mem_append_right _ h))) (by decide +kernel))) (goodIn_sub (fun _ h => List.mem_cons_of_mem _ (List.mem_append_left _ (List.mem_append_left _ (List.mem_append_right _ h)))) (by decide +kernel))) (goodIn_sub (fun _ h => List.mem_cons_of_mem _ (List.mem_append_right _ h)) (by decide +kernel))
set_option maxRecDepth 20000 in
theorem gL_guess_X5_guess : GoodIn wsL_guess (wsV RL 117 RX5 yX5_guess wsX5_guess) := goodIn_app (goodIn_of _ (by decide +kernel)) ggL_guess_X5_guess
theorem dL_guess_0 : decode cL_guess 0 = .ok (.aload_n 2, 1) := by decide +kernel
theorem dL_guess_1 : decode cL_guess 1 = .ok (.iconst 0, 1) := by decide +kernel
theorem dL_guess_2 : decode cL_guess 2 = .ok (.aload_n 0, 1) := by decide +kernel
theorem dL_guess_3 : decode cL_guess 3 = .ok (.iload_n 1, 1) := by decide +kernel
theorem dL_guess_4 : decode cL_guess 4 = .ok (.invokevirtual 117, 3) := by decide +kernel
theorem dL_guess_7 : decode cL_guess 7 = .ok (.i2l, 1) := by decide +kernel
theorem dL_guess_8 : decode cL_guess 8 = .ok (.lastore, 1) := by decide +kernel
theorem dL_guess_9 : decode cL_guess 9 = .ok (.goto 6, 3) := by decide +kernel
theorem dL_guess_12 : decode cL_guess 12 = .ok (.astore_n 3, 1) := by decide +kernel
theorem dL_guess_13 : decode cL_guess 13 = .ok (.iconst 1, 1) := by decide +kernel
theorem dL_guess_14 : decode cL_guess 14 = .ok (.ireturn, 1) := by decide +kernel
theorem dL_guess_15 : decode cL_guess 15 = .ok (.iconst 0, 1) := by decide +kernel
theorem dL_guess_16 : decode cL_guess 16 = .ok (.ireturn, 1) := by decide +kernel
set_option maxRecDepth 20000 in
theorem ggL_beam_X5_beam : GoodIn wsL_beam wsX5_beam := goodIn_ca (goodIn_r _ [6, 7, 8, 9, 5, 10, 11, 12, 13, 14, 15, 16, 17, 18, 19, 20, 21, 22, 23, 24, 25, 26, 27, 28, 29, 30, 31, 32] (by decide +kernel) (by decide +kernel)) (goodIn_sub (fun _ h => List.mem_cons_of_mem _ (List.mem_append_right _ h)) (by decide +kernel))
set_option maxRecDepth 20000 in
theorem gL_beam_X5_beam : GoodIn wsL_beam (wsV RL 120 RX5 yX5_beam wsX5_beam) := goodIn_app (goodIn_of _ (by decide +kernel)) ggL_beam_X5_beam
theorem dL_beam_0 : decode cL_beam 0 = .ok (.aload_n 3, 1) := by decide +kernel
theorem dL_beam_1 : decode cL_beam 1 = .ok (.iconst 0, 1) := by decide +kernel
theorem dL_beam_2 : decode cL_beam 2 = .ok (.aload_n 0, 1) := by decide +kernel
theorem dL_beam_3 : decode cL_beam 3 = .ok (.iload_n 1, 1) := by decide +kernel
theorem dL_beam_4 : decode cL_beam 4 = .ok (.iload_n 2, 1) := by decide +kernel
theorem dL_beam_5 : decode cL_beam 5 = .ok (.invokevirtual 120, 3) := by decide +kernel
theorem dL_beam_8 : decode cL_beam 8 = .ok (.i2l, 1) := by decide +kernel
theorem dL_beam_9 : decode cL_beam 9 = .ok (.lastore, 1) := by decide +kernel
theorem dL_beam_10 : decode cL_beam 10 = .ok (.goto 7, 3) := by decide +kernel
theorem dL_beam_13 : decode cL_beam 13 = .ok (.astore 4, 2) := by decide +kernel
theorem dL_beam_15 : decode cL_beam 15 = .ok (.iconst 1, 1) := by decide +kernel
theorem dL_beam_16 : decode cL_beam 16 = .ok (.ireturn, 1) := by decide +kernel
theorem dL_beam_17 : decode cL_beam 17 = .ok (.iconst 0, 1) := by decide +kernel
theorem dL_beam_18 : decode cL_beam 18 = .ok (.ireturn, 1) := by decide +kernel
set_option maxRecDepth 20000 in
theorem ggL_sway_X5_sway : GoodIn wsL_sway wsX5_sway := goodIn_ca (goodIn_ca (goodIn_r _ [6, 7, 8, 9, 5, 10, 11, 12, 13, 14, 15, 16, 17, 18, 19, 20, 21, 22, 23, 24, 25, 26, 27, 28, 29, 30, 31, 32, 33, 34, 35, 36, 37, 38, 39, 40, 41, 42, 43, 44, 45, 46, 47, 48, 49, 50, 51, 52, 53, 54, 55, 56, 57, 58, 59, 60, 61, 62, 63, 64, 65, 66, 67, 68, 69, 70, 71] (by decide +kernel) (by decide +kernel)) (goodIn_sub (fun _ h => List.mem_cons_of_mem _ (List.mem_append_right _ h)) (by decide +kernel))) (goodIn_sub (fun _ h => List.mem_cons_of_mem _ (List.mem_append_left _ (List.mem_append_right _ h))) (by decide +kernel))
set_option maxRecDepth 20000 in
theorem gL_sway_X5_sway : GoodIn wsL_sway (wsV RL 123 RX5 yX5_sway wsX5_sway) := goodIn_app (goodIn_of _ (by decide +kernel)) ggL_sway_X5_sway
theorem dL_sway_0 : decode cL_sway 0 = .ok (.aload_n 2, 1) := by decide +kernel
theorem dL_sway_1 : decode cL_sway 1 = .ok (.iconst 0, 1) := by decide +kernel
theorem dL_sway_2 : decode cL_sway 2 = .ok (.aload_n 0, 1) := by decide +kernel
theorem dL_sway_3 : decode cL_sway 3 = .ok (.iload_n 1, 1) := by decide +kernel
theorem dL_sway_4 : decode cL_sway 4 = .ok (.invokevirtual 123, 3) := by decide +kernel
theorem dL_sway_7 : decode cL_sway 7 = .ok (.i2l, 1) := by decide +kernel
theorem dL_sway_8 : decode cL_sway 8 = .ok (.lastore, 1) := by decide +kernel
theorem dL_sway_9 : decode cL_sway 9 = .ok (.goto 6, 3) := by decide +kernel
theorem dL_sway_12 : decode cL_sway 12 = .ok (.astore_n 3, 1) := by decide +kernel
theorem dL_sway_13 : decode cL_sway 13 = .ok (.iconst 1, 1) := by decide +kernel
theorem dL_sway_14 : decode cL_sway 14 = .ok (.ireturn, 1) := by decide +kernel
theorem dL_sway_15 : decode cL_sway 15 = .ok (.iconst 0, 1) := by decide +kernel
theorem dL_sway_16 : decode cL_sway 16 = .ok (.ireturn, 1) := by decide +kernel
set_option maxRecDepth 20000 in
theorem ggL_angleBits_X5_angleBits : GoodIn wsL_angleBits wsX5_angleBits := goodIn_ca (goodIn_ca (goodIn_ca (goodIn_r _ [7, 8, 9, 10, 11, 12, 6, 13, 14, 15, 16, 17, 18, 19, 20, 21, 22, 23, 24, 25, 26, 27, 28, 29, 30, 31, 32, 33, 34, 35, 36, 37, 38, 39, 40, 41, 42, 43, 44, 45, 46, 47, 48, 49, 50, 51, 52, 53, 54, 55, 56, 57, 58, 59, 60, 61, 62] (by decide +kernel) (by decide +kernel)) (goodIn_sub (fun _ h => List.mem_cons_of_mem _ (List.mem_append_left _ (List.mem_append_right _ h))) (by decide +kernel))) (goodIn_sub (fun _ h => List.mem_cons_of_mem _ (List.mem_append_right _ h)) (by decide +kernel))) (goodIn_sub (fun _ h => List.mem_cons_of_mem _ (List.mem_append_left _ (List.mem_append_left _ (List.mem_append_right _ h)))) (by decide +kernel))
set_option maxRecDepth 20000 in
theorem gL_angleBits_X5_angleBits : GoodIn wsL_angleBits (wsV RL 126 RX5 yX5_angleBits wsX5_angleBits) := goodIn_app (goodIn_of _ (by decide +kernel)) ggL_angleBits_X5_angleBits
theorem dL_angleBits_0 : decode cL_angleBits 0 = .ok (.aload_n 2, 1) := by decide +kernel
theorem dL_angleBits_1 : decode cL_angleBits 1 = .ok (.iconst 0, 1) := by decide +kernel
theorem dL_angleBits_2 : decode cL_angleBits 2 = .ok (.aload_n 0, 1) := by decide +kernel
theorem dL_angleBits_3 : decode cL_angleBits 3 = .ok (.iload_n 1, 1) := by decide +kernel
theorem dL_angleBits_4 : decode cL_angleBits 4 = .ok (.invokevirtual 126, 3) := by decide +kernel
theorem dL_angleBits_7 : decode cL_angleBits 7 = .ok (.i2l, 1) := by decide +kernel
theorem dL_angleBits_8 : decode cL_angleBits 8 = .ok (.lastore, 1) := by decide +kernel
theorem dL_angleBits_9 : decode cL_angleBits 9 = .ok (.goto 9, 3) := by decide +kernel
theorem dL_angleBits_12 : decode cL_angleBits 12 = .ok (.astore_n 3, 1) := by decide +kernel
theorem dL_angleBits_13 : decode cL_angleBits 13 = .ok (.iconst 1, 1) := by decide +kernel
theorem dL_angleBits_14 : decode cL_angleBits 14 = .ok (.ireturn, 1) := by decide +kernel
theorem dL_angleBits_15 : decode cL_angleBits 15 = .ok (.astore_n 3, 1) := by decide +kernel
theorem dL_angleBits_16 : decode cL_angleBits 16 = .ok (.iconst 2, 1) := by decide +kernel
theorem dL_angleBits_17 : decode cL_angleBits 17 = .ok (.ireturn, 1) := by decide +kernel
theorem dL_angleBits_18 : decode cL_angleBits 18 = .ok (.iconst 0, 1) := by decide +kernel
theorem dL_angleBits_19 : decode cL_angleBits 19 = .ok (.ireturn, 1) := by decide +kernel
set_option maxRecDepth 20000 in
theorem ggL_stepShare_X5_stepShare : GoodIn wsL_stepShare wsX5_stepShare := goodIn_ca (goodIn_ca (goodIn_ca (goodIn_ca (goodIn_r _ [7, 8, 9, 10, 11, 12, 13, 6, 14, 15, 16, 17, 18, 19, 20, 21, 22, 23, 24, 25, 26, 27, 28, 29, 30, 31, 32, 33, 34, 35, 36, 37, 38, 39, 40, 41, 42, 43, 44, 45, 46, 47, 48, 49, 50, 51, 52, 53, 54, 55, 56, 57, 58, 59, 60, 61, 62, 63, 64, 65, 66, 67, 68, 69, 70, 71, 72, 73, 74, 75, 76, 77, 78, 79, 80, 81, 82, 83, 84, 85, 86, 87, 88, 89, 90, 91, 92, 93, 94, 95, 96, 97, 98, 99, 100, 101, 102, 103, 104, 105, 106, 107, 108, 109, 110, 111, 112, 113, 114, 115, 116, 117, 118, 119, 120] (by decide +kernel) (by decide +kernel)) (goodIn_sub (fun _ h => List.mem_cons_of_mem _ (List.mem_append_left _ (List.mem_append_left _ (List.mem_append_right _ h)))) (by decide +kernel))) (goodIn_sub (fun _ h => List.mem_cons_of_mem _ (List.mem_append_left _ (List.mem_append_right _ h))) (by decide +kernel))) (goodIn_sub (fun _ h => List.mem_cons_of_mem _ (List.mem_append_left _ (List.mem_append_left _ (List.mem_append_left _ (List.mem_append_right _ h))))) (by decide +kernel))) (goodIn_sub (fun _ h => List.mem_cons_of_mem _ (List.mem_append_right _ h)) (by decide +kernel))
set_option maxRecDepth 20000 in
theorem gL_stepShare_X5_stepShare : GoodIn wsL_stepShare (wsV RL 129 RX5 yX5_stepShare wsX5_stepShare) := goodIn_app (goodIn_of _ (by decide +kernel)) ggL_stepShare_X5_stepShare
theorem dL_stepShare_0 : decode cL_stepShare 0 = .ok (.aload_n 1, 1) := by decide +kernel
theorem dL_stepShare_1 : decode cL_stepShare 1 = .ok (.iconst 0, 1) := by decide +kernel
theorem dL_stepShare_2 : decode cL_stepShare 2 = .ok (.aload_n 0, 1) := by decide +kernel
theorem dL_stepShare_3 : decode cL_stepShare 3 = .ok (.invokevirtual 129, 3) := by decide +kernel
theorem dL_stepShare_6 : decode cL_stepShare 6 = .ok (.f2d, 1) := by decide +kernel
theorem dL_stepShare_7 : decode cL_stepShare 7 = .ok (.dastore, 1) := by decide +kernel
theorem dL_stepShare_8 : decode cL_stepShare 8 = .ok (.goto 9, 3) := by decide +kernel
theorem dL_stepShare_11 : decode cL_stepShare 11 = .ok (.astore_n 2, 1) := by decide +kernel
theorem dL_stepShare_12 : decode cL_stepShare 12 = .ok (.iconst 1, 1) := by decide +kernel
theorem dL_stepShare_13 : decode cL_stepShare 13 = .ok (.ireturn, 1) := by decide +kernel
theorem dL_stepShare_14 : decode cL_stepShare 14 = .ok (.astore_n 2, 1) := by decide +kernel
theorem dL_stepShare_15 : decode cL_stepShare 15 = .ok (.iconst 2, 1) := by decide +kernel
theorem dL_stepShare_16 : decode cL_stepShare 16 = .ok (.ireturn, 1) := by decide +kernel
theorem dL_stepShare_17 : decode cL_stepShare 17 = .ok (.iconst 0, 1) := by decide +kernel
theorem dL_stepShare_18 : decode cL_stepShare 18 = .ok (.ireturn, 1) := by decide +kernel
set_option maxRecDepth 20000 in
theorem ggL_meanPhase_X5_meanPhase : GoodIn wsL_meanPhase wsX5_meanPhase := goodIn_ca (goodIn_ca (goodIn_r _ [6, 7, 8, 9, 10, 11, 12, 13, 14, 15, 16, 17, 18, 19, 20, 21, 22, 23, 24, 25, 26, 27, 28, 29, 30, 31, 32, 33, 34, 35, 36, 37, 38, 39] (by decide +kernel) (by decide +kernel)) (goodIn_sub (fun _ h => List.mem_cons_of_mem _ (List.mem_append_right _ h)) (by decide +kernel))) (goodIn_sub (fun _ h => List.mem_cons_of_mem _ (List.mem_append_left _ (List.mem_append_right _ h))) (by decide +kernel))
set_option maxRecDepth 20000 in
theorem gL_meanPhase_X5_meanPhase : GoodIn wsL_meanPhase (wsV RL 133 RX5 yX5_meanPhase wsX5_meanPhase) := goodIn_app (goodIn_of _ (by decide +kernel)) ggL_meanPhase_X5_meanPhase
theorem dL_meanPhase_0 : decode cL_meanPhase 0 = .ok (.aload_n 1, 1) := by decide +kernel
theorem dL_meanPhase_1 : decode cL_meanPhase 1 = .ok (.iconst 0, 1) := by decide +kernel
theorem dL_meanPhase_2 : decode cL_meanPhase 2 = .ok (.aload_n 0, 1) := by decide +kernel
theorem dL_meanPhase_3 : decode cL_meanPhase 3 = .ok (.invokevirtual 133, 3) := by decide +kernel
theorem dL_meanPhase_6 : decode cL_meanPhase 6 = .ok (.dastore, 1) := by decide +kernel
theorem dL_meanPhase_7 : decode cL_meanPhase 7 = .ok (.goto 6, 3) := by decide +kernel
theorem dL_meanPhase_10 : decode cL_meanPhase 10 = .ok (.astore_n 2, 1) := by decide +kernel
theorem dL_meanPhase_11 : decode cL_meanPhase 11 = .ok (.iconst 1, 1) := by decide +kernel
theorem dL_meanPhase_12 : decode cL_meanPhase 12 = .ok (.ireturn, 1) := by decide +kernel
theorem dL_meanPhase_13 : decode cL_meanPhase 13 = .ok (.iconst 0, 1) := by decide +kernel
theorem dL_meanPhase_14 : decode cL_meanPhase 14 = .ok (.ireturn, 1) := by decide +kernel
