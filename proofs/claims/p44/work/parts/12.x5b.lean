set_option maxRecDepth 20000 in
theorem ggX5_push_X5_checkBeater : GoodIn wsX5_push wsX5_checkBeater := goodIn_ca (goodIn_ca (goodIn_r _ [25, 26, 27, 1, 11, 12, 13, 14, 15, 16, 28, 29, 30, 31, 32, 33, 34, 35, 36, 37, 38, 39, 40, 41, 42, 43, 44, 45, 46, 47, 48, 49, 50, 51, 52, 53, 54, 55, 56, 57, 58] (by decide +kernel) (by decide +kernel)) (goodIn_sub (fun _ h => List.mem_cons_of_mem _ (List.mem_append_right _ h)) (by decide +kernel))) (goodIn_sub (fun _ h => List.mem_cons_of_mem _ (List.mem_append_left _ (List.mem_append_left _ (List.mem_append_right _ h)))) (by decide +kernel))
set_option maxRecDepth 20000 in
theorem gX5_push_X5_checkBeater : GoodIn wsX5_push (wsV RX5 108 RX5 yX5_checkBeater wsX5_checkBeater) := goodIn_app (goodIn_of _ (by decide +kernel)) ggX5_push_X5_checkBeater
theorem dX5_push_0 : decode cX5_push 0 = .ok (.iload_n 1, 1) := by decide +kernel
theorem dX5_push_1 : decode cX5_push 1 = .ok (.invokestatic 77, 3) := by decide +kernel
theorem dX5_push_4 : decode cX5_push 4 = .ok (.iload_n 2, 1) := by decide +kernel
theorem dX5_push_5 : decode cX5_push 5 = .ok (.bipush (-99), 2) := by decide +kernel
theorem dX5_push_7 : decode cX5_push 7 = .ok (.bipush 99, 2) := by decide +kernel
theorem dX5_push_9 : decode cX5_push 9 = .ok (.invokestatic 81, 3) := by decide +kernel
theorem dX5_push_12 : decode cX5_push 12 = .ok (.aload_n 0, 1) := by decide +kernel
theorem dX5_push_13 : decode cX5_push 13 = .ok (.iload_n 1, 1) := by decide +kernel
theorem dX5_push_14 : decode cX5_push 14 = .ok (.invokevirtual 108, 3) := by decide +kernel
theorem dX5_push_17 : decode cX5_push 17 = .ok (.aload_n 0, 1) := by decide +kernel
theorem dX5_push_18 : decode cX5_push 18 = .ok (.getfield 12, 3) := by decide +kernel
theorem dX5_push_21 : decode cX5_push 21 = .ok (.getfield 111, 3) := by decide +kernel
theorem dX5_push_24 : decode cX5_push 24 = .ok (.iload_n 1, 1) := by decide +kernel
theorem dX5_push_25 : decode cX5_push 25 = .ok (.iaload, 1) := by decide +kernel
theorem dX5_push_26 : decode cX5_push 26 = .ok (.iconst 1, 1) := by decide +kernel
theorem dX5_push_27 : decode cX5_push 27 = .ok (.isub, 1) := by decide +kernel
theorem dX5_push_28 : decode cX5_push 28 = .ok (.istore_n 3, 1) := by decide +kernel
theorem dX5_push_29 : decode cX5_push 29 = .ok (.aload_n 0, 1) := by decide +kernel
theorem dX5_push_30 : decode cX5_push 30 = .ok (.getfield 19, 3) := by decide +kernel
theorem dX5_push_33 : decode cX5_push 33 = .ok (.getfield 99, 3) := by decide +kernel
theorem dX5_push_36 : decode cX5_push 36 = .ok (.iload_n 1, 1) := by decide +kernel
theorem dX5_push_37 : decode cX5_push 37 = .ok (.iconst 0, 1) := by decide +kernel
theorem dX5_push_38 : decode cX5_push 38 = .ok (.iload_n 3, 1) := by decide +kernel
theorem dX5_push_39 : decode cX5_push 39 = .ok (.aload_n 0, 1) := by decide +kernel
theorem dX5_push_40 : decode cX5_push 40 = .ok (.getfield 19, 3) := by decide +kernel
theorem dX5_push_43 : decode cX5_push 43 = .ok (.getfield 99, 3) := by decide +kernel
theorem dX5_push_46 : decode cX5_push 46 = .ok (.iload_n 1, 1) := by decide +kernel
theorem dX5_push_47 : decode cX5_push 47 = .ok (.iaload, 1) := by decide +kernel
theorem dX5_push_48 : decode cX5_push 48 = .ok (.iload_n 2, 1) := by decide +kernel
theorem dX5_push_49 : decode cX5_push 49 = .ok (.iadd, 1) := by decide +kernel
theorem dX5_push_50 : decode cX5_push 50 = .ok (.invokestatic 117, 3) := by decide +kernel
theorem dX5_push_53 : decode cX5_push 53 = .ok (.invokestatic 255, 3) := by decide +kernel
theorem dX5_push_56 : decode cX5_push 56 = .ok (.iastore, 1) := by decide +kernel
theorem dX5_push_57 : decode cX5_push 57 = .ok (.aload_n 0, 1) := by decide +kernel
theorem dX5_push_58 : decode cX5_push 58 = .ok (.iconst 0, 1) := by decide +kernel
theorem dX5_push_59 : decode cX5_push 59 = .ok (.putfield 47, 3) := by decide +kernel
theorem dX5_push_62 : decode cX5_push 62 = .ok (.aload_n 0, 1) := by decide +kernel
theorem dX5_push_63 : decode cX5_push 63 = .ok (.getfield 19, 3) := by decide +kernel
theorem dX5_push_66 : decode cX5_push 66 = .ok (.getfield 99, 3) := by decide +kernel
theorem dX5_push_69 : decode cX5_push 69 = .ok (.iload_n 1, 1) := by decide +kernel
theorem dX5_push_70 : decode cX5_push 70 = .ok (.iaload, 1) := by decide +kernel
theorem dX5_push_71 : decode cX5_push 71 = .ok (.ireturn, 1) := by decide +kernel
set_option maxRecDepth 20000 in
theorem ggX5_leastPush_X5_checkNoNoise : GoodIn wsX5_leastPush wsX5_checkNoNoise := goodIn_ca (goodIn_r _ [10, 1, 2, 11, 97, 98, 99, 100, 101, 102, 103, 104, 105, 106, 107, 108, 109, 110, 111] (by decide +kernel) (by decide +kernel)) (goodIn_sub (fun _ h => List.mem_cons_of_mem _ (List.mem_append_left _ (List.mem_append_left _ (List.mem_append_left _ (List.mem_append_right _ h))))) (by decide +kernel))
set_option maxRecDepth 20000 in
theorem gX5_leastPush_X5_checkNoNoise : GoodIn wsX5_leastPush (wsV RX5 191 RX5 yX5_checkNoNoise wsX5_checkNoNoise) := goodIn_app (goodIn_of _ (by decide +kernel)) ggX5_leastPush_X5_checkNoNoise
set_option maxRecDepth 20000 in
theorem ggX5_leastPush_X5_movableByPush : GoodIn wsX5_leastPush wsX5_movableByPush := goodIn_ca (goodIn_r _ [15, 5, 16, 17, 18, 19, 9, 20, 21, 22, 23, 24, 97, 98, 99, 100, 101, 102, 103, 104, 105, 106, 107, 108, 109, 110, 111, 112, 113, 114, 115, 116, 117, 118, 119, 120, 121, 122, 123, 124, 125] (by decide +kernel) (by decide +kernel)) (goodIn_sub (fun _ h => List.mem_cons_of_mem _ (List.mem_append_left _ (List.mem_append_right _ h))) (by decide +kernel))
set_option maxRecDepth 20000 in
theorem gX5_leastPush_X5_movableByPush : GoodIn wsX5_leastPush (wsV RX5 260 RX5 yX5_movableByPush wsX5_movableByPush) := goodIn_app (goodIn_of _ (by decide +kernel)) ggX5_leastPush_X5_movableByPush
set_option maxRecDepth 20000 in
theorem ggX5_leastPush_J6_bitCount_0f7a4 : GoodIn wsX5_leastPush wsJ6_bitCount_0f7a4 := goodIn_r _ [28, 29, 30, 31] (by decide +kernel) (by decide +kernel)
set_option maxRecDepth 20000 in
theorem gX5_leastPush_J6_bitCount_0f7a4 : GoodIn wsX5_leastPush (va_wsS RX5 263 yJ6_bitCount_0f7a4 wsJ6_bitCount_0f7a4) := goodIn_app (goodIn_of _ (by decide +kernel)) ggX5_leastPush_J6_bitCount_0f7a4
set_option maxRecDepth 20000 in
theorem ggX5_leastPush_X5_firstInStepSet : GoodIn wsX5_leastPush wsX5_firstInStepSet := goodIn_ca (goodIn_ca (goodIn_r _ [35, 25, 26, 27, 28, 29, 30, 31, 36, 37, 38, 9, 39, 40, 16, 41, 5, 42, 43, 44, 45, 46, 47, 48, 49, 50, 51, 52, 17, 18, 19, 20, 21, 22, 23, 24, 53, 54, 55, 56, 57, 58, 59, 60, 61, 62, 63, 64, 65, 66, 67, 68, 69, 70, 71, 72, 73, 74, 75, 76, 77, 78, 79, 80, 81, 82, 83, 84, 85, 86, 87, 88, 89, 90, 91, 92, 93, 94, 95, 96, 97, 98, 99, 100, 101, 102, 103, 104, 105, 106, 107, 108, 109, 110, 111, 123, 124, 125, 112, 113, 114, 115, 116, 117, 118, 119, 120, 121, 122, 126, 127, 128, 129, 130, 131] (by decide +kernel) (by decide +kernel)) (goodIn_sub (fun _ h => List.mem_cons_of_mem _ (List.mem_append_left _ (List.mem_append_right _ h))) (by decide +kernel))) (goodIn_sub (fun _ h => List.mem_cons_of_mem _ (List.mem_append_right _ h)) (by decide +kernel))
set_option maxRecDepth 20000 in
theorem gX5_leastPush_X5_firstInStepSet : GoodIn wsX5_leastPush (wsV RX5 268 RX5 yX5_firstInStepSet wsX5_firstInStepSet) := goodIn_app (goodIn_of _ (by decide +kernel)) ggX5_leastPush_X5_firstInStepSet
theorem dX5_leastPush_0 : decode cX5_leastPush 0 = .ok (.aload_n 0, 1) := by decide +kernel
theorem dX5_leastPush_1 : decode cX5_leastPush 1 = .ok (.invokevirtual 191, 3) := by decide +kernel
theorem dX5_leastPush_4 : decode cX5_leastPush 4 = .ok (.aload_n 0, 1) := by decide +kernel
theorem dX5_leastPush_5 : decode cX5_leastPush 5 = .ok (.getfield 12, 3) := by decide +kernel
theorem dX5_leastPush_8 : decode cX5_leastPush 8 = .ok (.getfield 157, 3) := by decide +kernel
theorem dX5_leastPush_11 : decode cX5_leastPush 11 = .ok (.iconst 1, 1) := by decide +kernel
theorem dX5_leastPush_12 : decode cX5_leastPush 12 = .ok (.if_icmp .lt 15, 3) := by decide +kernel
theorem dX5_leastPush_15 : decode cX5_leastPush 15 = .ok (.aload_n 0, 1) := by decide +kernel
theorem dX5_leastPush_16 : decode cX5_leastPush 16 = .ok (.getfield 12, 3) := by decide +kernel
theorem dX5_leastPush_19 : decode cX5_leastPush 19 = .ok (.getfield 157, 3) := by decide +kernel
theorem dX5_leastPush_22 : decode cX5_leastPush 22 = .ok (.bipush 8, 2) := by decide +kernel
theorem dX5_leastPush_24 : decode cX5_leastPush 24 = .ok (.if_icmp .le 14, 3) := by decide +kernel
theorem dX5_leastPush_27 : decode cX5_leastPush 27 = .ok (.new 85, 3) := by decide +kernel
theorem dX5_leastPush_30 : decode cX5_leastPush 30 = .ok (.dup, 1) := by decide +kernel
theorem dX5_leastPush_31 : decode cX5_leastPush 31 = .ok (.ldc_w 258, 3) := by decide +kernel
theorem dX5_leastPush_34 : decode cX5_leastPush 34 = .ok (.invokespecial 89, 3) := by decide +kernel
theorem dX5_leastPush_37 : decode cX5_leastPush 37 = .ok (.athrow, 1) := by decide +kernel
theorem dX5_leastPush_38 : decode cX5_leastPush 38 = .ok (.aload_n 0, 1) := by decide +kernel
theorem dX5_leastPush_39 : decode cX5_leastPush 39 = .ok (.invokevirtual 260, 3) := by decide +kernel
theorem dX5_leastPush_42 : decode cX5_leastPush 42 = .ok (.istore_n 1, 1) := by decide +kernel
theorem dX5_leastPush_43 : decode cX5_leastPush 43 = .ok (.iconst 0, 1) := by decide +kernel
theorem dX5_leastPush_44 : decode cX5_leastPush 44 = .ok (.istore_n 2, 1) := by decide +kernel
theorem dX5_leastPush_45 : decode cX5_leastPush 45 = .ok (.iload_n 2, 1) := by decide +kernel
theorem dX5_leastPush_46 : decode cX5_leastPush 46 = .ok (.iload_n 1, 1) := by decide +kernel
theorem dX5_leastPush_47 : decode cX5_leastPush 47 = .ok (.invokestatic 263, 3) := by decide +kernel
theorem dX5_leastPush_50 : decode cX5_leastPush 50 = .ok (.if_icmp .gt 22, 3) := by decide +kernel
theorem dX5_leastPush_53 : decode cX5_leastPush 53 = .ok (.aload_n 0, 1) := by decide +kernel
theorem dX5_leastPush_54 : decode cX5_leastPush 54 = .ok (.iload_n 1, 1) := by decide +kernel
theorem dX5_leastPush_55 : decode cX5_leastPush 55 = .ok (.iload_n 2, 1) := by decide +kernel
theorem dX5_leastPush_56 : decode cX5_leastPush 56 = .ok (.invokevirtual 268, 3) := by decide +kernel
theorem dX5_leastPush_59 : decode cX5_leastPush 59 = .ok (.istore_n 3, 1) := by decide +kernel
theorem dX5_leastPush_60 : decode cX5_leastPush 60 = .ok (.iload_n 3, 1) := by decide +kernel
theorem dX5_leastPush_61 : decode cX5_leastPush 61 = .ok (.ifCond .lt 5, 3) := by decide +kernel
theorem dX5_leastPush_64 : decode cX5_leastPush 64 = .ok (.iload_n 3, 1) := by decide +kernel
theorem dX5_leastPush_65 : decode cX5_leastPush 65 = .ok (.ireturn, 1) := by decide +kernel
theorem dX5_leastPush_66 : decode cX5_leastPush 66 = .ok (.iinc 2 1, 3) := by decide +kernel
theorem dX5_leastPush_69 : decode cX5_leastPush 69 = .ok (.goto (-24), 3) := by decide +kernel
theorem dX5_leastPush_72 : decode cX5_leastPush 72 = .ok (.new 228, 3) := by decide +kernel
theorem dX5_leastPush_75 : decode cX5_leastPush 75 = .ok (.dup, 1) := by decide +kernel
theorem dX5_leastPush_76 : decode cX5_leastPush 76 = .ok (.ldc_w 271, 3) := by decide +kernel
theorem dX5_leastPush_79 : decode cX5_leastPush 79 = .ok (.invokespecial 232, 3) := by decide +kernel
theorem dX5_leastPush_82 : decode cX5_leastPush 82 = .ok (.athrow, 1) := by decide +kernel
set_option maxRecDepth 20000 in
theorem ggX5_noise_X5_checkRange : GoodIn wsX5_noise wsX5_checkRange := goodIn_ca (goodIn_r _ [5, 6, 7] (by decide +kernel) (by decide +kernel)) (goodIn_sub (fun _ h => List.mem_cons_of_mem _ (List.mem_append_right _ h)) (by decide +kernel))
set_option maxRecDepth 20000 in
theorem gX5_noise_X5_checkRange : GoodIn wsX5_noise (va_wsS RX5 81 yX5_checkRange wsX5_checkRange) := goodIn_app (goodIn_of _ (by decide +kernel)) ggX5_noise_X5_checkRange
theorem dX5_noise_0 : decode cX5_noise 0 = .ok (.iload_n 1, 1) := by decide +kernel
theorem dX5_noise_1 : decode cX5_noise 1 = .ok (.iconst 0, 1) := by decide +kernel
theorem dX5_noise_2 : decode cX5_noise 2 = .ok (.bipush 99, 2) := by decide +kernel
theorem dX5_noise_4 : decode cX5_noise 4 = .ok (.invokestatic 81, 3) := by decide +kernel
theorem dX5_noise_7 : decode cX5_noise 7 = .ok (.aload_n 0, 1) := by decide +kernel
theorem dX5_noise_8 : decode cX5_noise 8 = .ok (.getfield 34, 3) := by decide +kernel
theorem dX5_noise_11 : decode cX5_noise 11 = .ok (.istore_n 2, 1) := by decide +kernel
theorem dX5_noise_12 : decode cX5_noise 12 = .ok (.aload_n 0, 1) := by decide +kernel
theorem dX5_noise_13 : decode cX5_noise 13 = .ok (.iload_n 1, 1) := by decide +kernel
theorem dX5_noise_14 : decode cX5_noise 14 = .ok (.putfield 34, 3) := by decide +kernel
theorem dX5_noise_17 : decode cX5_noise 17 = .ok (.iload_n 2, 1) := by decide +kernel
theorem dX5_noise_18 : decode cX5_noise 18 = .ok (.ireturn, 1) := by decide +kernel
set_option maxRecDepth 20000 in
theorem ggX5_seed_X5_checkRange : GoodIn wsX5_seed wsX5_checkRange := goodIn_ca (goodIn_r _ [6, 7, 8] (by decide +kernel) (by decide +kernel)) (goodIn_sub (fun _ h => List.mem_cons_of_mem _ (List.mem_append_right _ h)) (by decide +kernel))
set_option maxRecDepth 20000 in
theorem gX5_seed_X5_checkRange : GoodIn wsX5_seed (va_wsS RX5 81 yX5_checkRange wsX5_checkRange) := goodIn_app (goodIn_of _ (by decide +kernel)) ggX5_seed_X5_checkRange
theorem dX5_seed_0 : decode cX5_seed 0 = .ok (.iload_n 1, 1) := by decide +kernel
theorem dX5_seed_1 : decode cX5_seed 1 = .ok (.iconst 1, 1) := by decide +kernel
theorem dX5_seed_2 : decode cX5_seed 2 = .ok (.ldc_w 273, 3) := by decide +kernel
theorem dX5_seed_5 : decode cX5_seed 5 = .ok (.invokestatic 81, 3) := by decide +kernel
theorem dX5_seed_8 : decode cX5_seed 8 = .ok (.aload_n 0, 1) := by decide +kernel
theorem dX5_seed_9 : decode cX5_seed 9 = .ok (.getfield 37, 3) := by decide +kernel
theorem dX5_seed_12 : decode cX5_seed 12 = .ok (.istore_n 2, 1) := by decide +kernel
theorem dX5_seed_13 : decode cX5_seed 13 = .ok (.aload_n 0, 1) := by decide +kernel
theorem dX5_seed_14 : decode cX5_seed 14 = .ok (.iload_n 1, 1) := by decide +kernel
theorem dX5_seed_15 : decode cX5_seed 15 = .ok (.putfield 37, 3) := by decide +kernel
theorem dX5_seed_18 : decode cX5_seed 18 = .ok (.iload_n 2, 1) := by decide +kernel
theorem dX5_seed_19 : decode cX5_seed 19 = .ok (.ireturn, 1) := by decide +kernel
set_option maxRecDepth 20000 in
theorem ggX5_mark_X5_checkRange : GoodIn wsX5_mark wsX5_checkRange := goodIn_ca (goodIn_r _ [7, 8, 9] (by decide +kernel) (by decide +kernel)) (goodIn_sub (fun _ h => List.mem_cons_of_mem _ (List.mem_append_left _ (List.mem_append_right _ h))) (by decide +kernel))
set_option maxRecDepth 20000 in
theorem gX5_mark_X5_checkRange : GoodIn wsX5_mark (va_wsS RX5 81 yX5_checkRange wsX5_checkRange) := goodIn_app (goodIn_of _ (by decide +kernel)) ggX5_mark_X5_checkRange
set_option maxRecDepth 20000 in
theorem ggX5_mark_X0_add : GoodIn wsX5_mark wsX0_add := goodIn_ca (goodIn_r _ [13, 14, 15, 31, 32] (by decide +kernel) (by decide +kernel)) (goodIn_sub (fun _ h => List.mem_cons_of_mem _ (List.mem_append_right _ h)) (by decide +kernel))
set_option maxRecDepth 20000 in
theorem gX5_mark_X0_add_n279 : GoodIn wsX5_mark (wsX0_add) := ggX5_mark_X0_add
theorem dX5_mark_0 : decode cX5_mark 0 = .ok (.iload_n 1, 1) := by decide +kernel
theorem dX5_mark_1 : decode cX5_mark 1 = .ok (.iconst 0, 1) := by decide +kernel
theorem dX5_mark_2 : decode cX5_mark 2 = .ok (.sipush 9999, 3) := by decide +kernel
theorem dX5_mark_5 : decode cX5_mark 5 = .ok (.invokestatic 81, 3) := by decide +kernel
theorem dX5_mark_8 : decode cX5_mark 8 = .ok (.aload_n 0, 1) := by decide +kernel
theorem dX5_mark_9 : decode cX5_mark 9 = .ok (.getfield 66, 3) := by decide +kernel
theorem dX5_mark_12 : decode cX5_mark 12 = .ok (.getfield 274, 3) := by decide +kernel
theorem dX5_mark_15 : decode cX5_mark 15 = .ok (.bipush 20, 2) := by decide +kernel
theorem dX5_mark_17 : decode cX5_mark 17 = .ok (.if_icmp .lt 14, 3) := by decide +kernel
theorem dX5_mark_20 : decode cX5_mark 20 = .ok (.new 138, 3) := by decide +kernel
theorem dX5_mark_23 : decode cX5_mark 23 = .ok (.dup, 1) := by decide +kernel
theorem dX5_mark_24 : decode cX5_mark 24 = .ok (.ldc_w 277, 3) := by decide +kernel
theorem dX5_mark_27 : decode cX5_mark 27 = .ok (.invokespecial 142, 3) := by decide +kernel
theorem dX5_mark_30 : decode cX5_mark 30 = .ok (.athrow, 1) := by decide +kernel
theorem dX5_mark_31 : decode cX5_mark 31 = .ok (.aload_n 0, 1) := by decide +kernel
theorem dX5_mark_32 : decode cX5_mark 32 = .ok (.getfield 66, 3) := by decide +kernel
theorem dX5_mark_35 : decode cX5_mark 35 = .ok (.iload_n 1, 1) := by decide +kernel
theorem dX5_mark_36 : decode cX5_mark 36 = .ok (.invokevirtual 279, 3) := by decide +kernel
theorem dX5_mark_39 : decode cX5_mark 39 = .ok (.ireturn, 1) := by decide +kernel
theorem dX5_wipe_0 : decode cX5_wipe 0 = .ok (.aload_n 0, 1) := by decide +kernel
theorem dX5_wipe_1 : decode cX5_wipe 1 = .ok (.getfield 66, 3) := by decide +kernel
theorem dX5_wipe_4 : decode cX5_wipe 4 = .ok (.getfield 274, 3) := by decide +kernel
theorem dX5_wipe_7 : decode cX5_wipe 7 = .ok (.istore_n 1, 1) := by decide +kernel
theorem dX5_wipe_8 : decode cX5_wipe 8 = .ok (.aload_n 0, 1) := by decide +kernel
theorem dX5_wipe_9 : decode cX5_wipe 9 = .ok (.getfield 66, 3) := by decide +kernel
theorem dX5_wipe_12 : decode cX5_wipe 12 = .ok (.iconst 0, 1) := by decide +kernel
theorem dX5_wipe_13 : decode cX5_wipe 13 = .ok (.putfield 274, 3) := by decide +kernel
theorem dX5_wipe_16 : decode cX5_wipe 16 = .ok (.iload_n 1, 1) := by decide +kernel
theorem dX5_wipe_17 : decode cX5_wipe 17 = .ok (.ireturn, 1) := by decide +kernel
set_option maxRecDepth 20000 in
theorem ggX5_fits_X0_countPeriods : GoodIn wsX5_fits wsX0_countPeriods := goodIn_ca (goodIn_ca (goodIn_r _ [5, 6, 7, 8, 3, 9, 10, 11, 27, 28] (by decide +kernel) (by decide +kernel)) (goodIn_sub (fun _ h => List.mem_cons_of_mem _ (List.mem_append_left _ (List.mem_append_right _ h))) (by decide +kernel))) (goodIn_sub (fun _ h => List.mem_cons_of_mem _ (List.mem_append_right _ h)) (by decide +kernel))
set_option maxRecDepth 20000 in
theorem gX5_fits_X0_countPeriods_n282 : GoodIn wsX5_fits (wsX0_countPeriods) := ggX5_fits_X0_countPeriods
theorem dX5_fits_0 : decode cX5_fits 0 = .ok (.aload_n 0, 1) := by decide +kernel
theorem dX5_fits_1 : decode cX5_fits 1 = .ok (.getfield 66, 3) := by decide +kernel
theorem dX5_fits_4 : decode cX5_fits 4 = .ok (.invokevirtual 282, 3) := by decide +kernel
theorem dX5_fits_7 : decode cX5_fits 7 = .ok (.ireturn, 1) := by decide +kernel
set_option maxRecDepth 20000 in
theorem ggX5_guess_X0_periodAt : GoodIn wsX5_guess wsX0_periodAt := goodIn_ca (goodIn_ca (goodIn_r _ [7, 8, 9, 10, 5, 11, 12, 13, 29, 30] (by decide +kernel) (by decide +kernel)) (goodIn_sub (fun _ h => List.mem_cons_of_mem _ (List.mem_append_left _ (List.mem_append_right _ h))) (by decide +kernel))) (goodIn_sub (fun _ h => List.mem_cons_of_mem _ (List.mem_append_right _ h)) (by decide +kernel))
set_option maxRecDepth 20000 in
theorem gX5_guess_X0_periodAt_n285 : GoodIn wsX5_guess (wsX0_periodAt) := ggX5_guess_X0_periodAt
theorem dX5_guess_0 : decode cX5_guess 0 = .ok (.aload_n 0, 1) := by decide +kernel
theorem dX5_guess_1 : decode cX5_guess 1 = .ok (.getfield 66, 3) := by decide +kernel
theorem dX5_guess_4 : decode cX5_guess 4 = .ok (.getfield 274, 3) := by decide +kernel
theorem dX5_guess_7 : decode cX5_guess 7 = .ok (.iconst 2, 1) := by decide +kernel
theorem dX5_guess_8 : decode cX5_guess 8 = .ok (.if_icmp .ge 7, 3) := by decide +kernel
theorem dX5_guess_11 : decode cX5_guess 11 = .ok (.iconst 0, 1) := by decide +kernel
theorem dX5_guess_12 : decode cX5_guess 12 = .ok (.goto 11, 3) := by decide +kernel
theorem dX5_guess_15 : decode cX5_guess 15 = .ok (.aload_n 0, 1) := by decide +kernel
theorem dX5_guess_16 : decode cX5_guess 16 = .ok (.getfield 66, 3) := by decide +kernel
theorem dX5_guess_19 : decode cX5_guess 19 = .ok (.iload_n 1, 1) := by decide +kernel
theorem dX5_guess_20 : decode cX5_guess 20 = .ok (.invokevirtual 285, 3) := by decide +kernel
theorem dX5_guess_23 : decode cX5_guess 23 = .ok (.istore_n 2, 1) := by decide +kernel
theorem dX5_guess_24 : decode cX5_guess 24 = .ok (.iload_n 2, 1) := by decide +kernel
theorem dX5_guess_25 : decode cX5_guess 25 = .ok (.ifCond .ne 14, 3) := by decide +kernel
theorem dX5_guess_28 : decode cX5_guess 28 = .ok (.new 228, 3) := by decide +kernel
theorem dX5_guess_31 : decode cX5_guess 31 = .ok (.dup, 1) := by decide +kernel
theorem dX5_guess_32 : decode cX5_guess 32 = .ok (.ldc_w 288, 3) := by decide +kernel
theorem dX5_guess_35 : decode cX5_guess 35 = .ok (.invokespecial 232, 3) := by decide +kernel
theorem dX5_guess_38 : decode cX5_guess 38 = .ok (.athrow, 1) := by decide +kernel
theorem dX5_guess_39 : decode cX5_guess 39 = .ok (.iload_n 2, 1) := by decide +kernel
theorem dX5_guess_40 : decode cX5_guess 40 = .ok (.ireturn, 1) := by decide +kernel
set_option maxRecDepth 20000 in
theorem ggX5_beam_X5_checkRange : GoodIn wsX5_beam wsX5_checkRange := goodIn_ca (goodIn_r _ [5, 6, 7] (by decide +kernel) (by decide +kernel)) (goodIn_sub (fun _ h => List.mem_cons_of_mem _ (List.mem_append_right _ h)) (by decide +kernel))
set_option maxRecDepth 20000 in
theorem gX5_beam_X5_checkRange : GoodIn wsX5_beam (va_wsS RX5 81 yX5_checkRange wsX5_checkRange) := goodIn_app (goodIn_of _ (by decide +kernel)) ggX5_beam_X5_checkRange
theorem dX5_beam_0 : decode cX5_beam 0 = .ok (.iload_n 1, 1) := by decide +kernel
theorem dX5_beam_1 : decode cX5_beam 1 = .ok (.iconst 1, 1) := by decide +kernel
theorem dX5_beam_2 : decode cX5_beam 2 = .ok (.bipush 99, 2) := by decide +kernel
theorem dX5_beam_4 : decode cX5_beam 4 = .ok (.invokestatic 81, 3) := by decide +kernel
theorem dX5_beam_7 : decode cX5_beam 7 = .ok (.iload_n 2, 1) := by decide +kernel
theorem dX5_beam_8 : decode cX5_beam 8 = .ok (.iconst 0, 1) := by decide +kernel
theorem dX5_beam_9 : decode cX5_beam 9 = .ok (.bipush 99, 2) := by decide +kernel
theorem dX5_beam_11 : decode cX5_beam 11 = .ok (.invokestatic 81, 3) := by decide +kernel
theorem dX5_beam_14 : decode cX5_beam 14 = .ok (.aload_n 0, 1) := by decide +kernel
theorem dX5_beam_15 : decode cX5_beam 15 = .ok (.getfield 73, 3) := by decide +kernel
theorem dX5_beam_18 : decode cX5_beam 18 = .ok (.getfield 290, 3) := by decide +kernel
theorem dX5_beam_21 : decode cX5_beam 21 = .ok (.istore_n 3, 1) := by decide +kernel
theorem dX5_beam_22 : decode cX5_beam 22 = .ok (.aload_n 0, 1) := by decide +kernel
theorem dX5_beam_23 : decode cX5_beam 23 = .ok (.getfield 73, 3) := by decide +kernel
theorem dX5_beam_26 : decode cX5_beam 26 = .ok (.iload_n 1, 1) := by decide +kernel
theorem dX5_beam_27 : decode cX5_beam 27 = .ok (.putfield 290, 3) := by decide +kernel
theorem dX5_beam_30 : decode cX5_beam 30 = .ok (.aload_n 0, 1) := by decide +kernel
theorem dX5_beam_31 : decode cX5_beam 31 = .ok (.getfield 73, 3) := by decide +kernel
theorem dX5_beam_34 : decode cX5_beam 34 = .ok (.iload_n 2, 1) := by decide +kernel
theorem dX5_beam_35 : decode cX5_beam 35 = .ok (.putfield 293, 3) := by decide +kernel
theorem dX5_beam_38 : decode cX5_beam 38 = .ok (.iload_n 3, 1) := by decide +kernel
theorem dX5_beam_39 : decode cX5_beam 39 = .ok (.ireturn, 1) := by decide +kernel
set_option maxRecDepth 20000 in
theorem ggX5_sway_X5_checkRange : GoodIn wsX5_sway wsX5_checkRange := goodIn_ca (goodIn_r _ [5, 6, 7] (by decide +kernel) (by decide +kernel)) (goodIn_sub (fun _ h => List.mem_cons_of_mem _ (List.mem_append_left _ (List.mem_append_right _ h))) (by decide +kernel))
set_option maxRecDepth 20000 in
theorem gX5_sway_X5_checkRange : GoodIn wsX5_sway (va_wsS RX5 81 yX5_checkRange wsX5_checkRange) := goodIn_app (goodIn_of _ (by decide +kernel)) ggX5_sway_X5_checkRange
set_option maxRecDepth 20000 in
theorem ggX5_sway_X3_step : GoodIn wsX5_sway wsX3_step := goodIn_ca (goodIn_r _ [11, 12, 13, 14, 15, 16, 17, 18, 19, 20, 9, 21, 22, 23, 24, 25, 26, 27, 28, 29, 30, 31, 32, 33, 34, 35, 36, 37, 38, 39, 40, 41, 42, 43, 44, 45, 46, 62, 63, 64, 65, 66] (by decide +kernel) (by decide +kernel)) (goodIn_sub (fun _ h => List.mem_cons_of_mem _ (List.mem_append_right _ h)) (by decide +kernel))
set_option maxRecDepth 20000 in
theorem gX5_sway_X3_step_n296 : GoodIn wsX5_sway (wsX3_step) := ggX5_sway_X3_step
set_option maxRecDepth 20000 in
theorem ggX5_sway_X3_count : GoodIn wsX5_sway wsX3_count := goodIn_ca (goodIn_r _ [40, 12, 62, 63, 64, 65, 66] (by decide +kernel) (by decide +kernel)) (goodIn_sub (fun _ h => List.mem_cons_of_mem _ (List.mem_append_right _ h)) (by decide +kernel))
set_option maxRecDepth 20000 in
theorem gX5_sway_X3_count_n299 : GoodIn wsX5_sway (wsX3_count) := ggX5_sway_X3_count
theorem dX5_sway_0 : decode cX5_sway 0 = .ok (.iload_n 1, 1) := by decide +kernel
theorem dX5_sway_1 : decode cX5_sway 1 = .ok (.iconst 1, 1) := by decide +kernel
theorem dX5_sway_2 : decode cX5_sway 2 = .ok (.sipush 500, 3) := by decide +kernel
theorem dX5_sway_5 : decode cX5_sway 5 = .ok (.invokestatic 81, 3) := by decide +kernel
theorem dX5_sway_8 : decode cX5_sway 8 = .ok (.iconst 0, 1) := by decide +kernel
theorem dX5_sway_9 : decode cX5_sway 9 = .ok (.istore_n 2, 1) := by decide +kernel
theorem dX5_sway_10 : decode cX5_sway 10 = .ok (.iload_n 2, 1) := by decide +kernel
theorem dX5_sway_11 : decode cX5_sway 11 = .ok (.iload_n 1, 1) := by decide +kernel
theorem dX5_sway_12 : decode cX5_sway 12 = .ok (.if_icmp .ge 16, 3) := by decide +kernel
theorem dX5_sway_15 : decode cX5_sway 15 = .ok (.aload_n 0, 1) := by decide +kernel
theorem dX5_sway_16 : decode cX5_sway 16 = .ok (.getfield 73, 3) := by decide +kernel
theorem dX5_sway_19 : decode cX5_sway 19 = .ok (.invokevirtual 296, 3) := by decide +kernel
theorem dX5_sway_22 : decode cX5_sway 22 = .ok (.iinc 2 1, 3) := by decide +kernel
theorem dX5_sway_25 : decode cX5_sway 25 = .ok (.goto (-15), 3) := by decide +kernel
theorem dX5_sway_28 : decode cX5_sway 28 = .ok (.aload_n 0, 1) := by decide +kernel
theorem dX5_sway_29 : decode cX5_sway 29 = .ok (.getfield 73, 3) := by decide +kernel
theorem dX5_sway_32 : decode cX5_sway 32 = .ok (.invokevirtual 299, 3) := by decide +kernel
theorem dX5_sway_35 : decode cX5_sway 35 = .ok (.ireturn, 1) := by decide +kernel
set_option maxRecDepth 20000 in
theorem ggX5_angleBits_X5_checkPlace : GoodIn wsX5_angleBits wsX5_checkPlace := goodIn_ca (goodIn_r _ [7, 8, 9] (by decide +kernel) (by decide +kernel)) (goodIn_sub (fun _ h => List.mem_cons_of_mem _ (List.mem_append_left _ (List.mem_append_right _ h))) (by decide +kernel))
set_option maxRecDepth 20000 in
theorem gX5_angleBits_X5_checkPlace : GoodIn wsX5_angleBits (va_wsS RX5 77 yX5_checkPlace wsX5_checkPlace) := goodIn_app (goodIn_of _ (by decide +kernel)) ggX5_angleBits_X5_checkPlace
set_option maxRecDepth 20000 in
theorem ggX5_angleBits_X3_has : GoodIn wsX5_angleBits wsX3_has := goodIn_ca (goodIn_r _ [13, 14, 52, 53, 54, 55, 56] (by decide +kernel) (by decide +kernel)) (goodIn_sub (fun _ h => List.mem_cons_of_mem _ (List.mem_append_right _ h)) (by decide +kernel))
set_option maxRecDepth 20000 in
theorem gX5_angleBits_X3_has_n301 : GoodIn wsX5_angleBits (wsX3_has) := ggX5_angleBits_X3_has
set_option maxRecDepth 20000 in
theorem ggX5_angleBits_X3_bitsOfAngle : GoodIn wsX5_angleBits wsX3_bitsOfAngle := goodIn_ca (goodIn_r _ [17, 18, 19, 10, 12, 11, 13, 14, 20, 21, 22, 23, 24, 25, 26, 27, 28, 29, 30, 31, 32, 33, 34, 35, 36, 52, 53, 54, 55, 56] (by decide +kernel) (by decide +kernel)) (goodIn_sub (fun _ h => List.mem_cons_of_mem _ (List.mem_append_right _ h)) (by decide +kernel))
set_option maxRecDepth 20000 in
theorem gX5_angleBits_X3_bitsOfAngle_n304 : GoodIn wsX5_angleBits (wsX3_bitsOfAngle) := ggX5_angleBits_X3_bitsOfAngle
theorem dX5_angleBits_0 : decode cX5_angleBits 0 = .ok (.iload_n 1, 1) := by decide +kernel
theorem dX5_angleBits_1 : decode cX5_angleBits 1 = .ok (.invokestatic 77, 3) := by decide +kernel
theorem dX5_angleBits_4 : decode cX5_angleBits 4 = .ok (.aload_n 0, 1) := by decide +kernel
theorem dX5_angleBits_5 : decode cX5_angleBits 5 = .ok (.getfield 73, 3) := by decide +kernel
theorem dX5_angleBits_8 : decode cX5_angleBits 8 = .ok (.iload_n 1, 1) := by decide +kernel
theorem dX5_angleBits_9 : decode cX5_angleBits 9 = .ok (.bipush 16, 2) := by decide +kernel
theorem dX5_angleBits_11 : decode cX5_angleBits 11 = .ok (.isub, 1) := by decide +kernel
theorem dX5_angleBits_12 : decode cX5_angleBits 12 = .ok (.invokevirtual 301, 3) := by decide +kernel
theorem dX5_angleBits_15 : decode cX5_angleBits 15 = .ok (.ifCond .ne 14, 3) := by decide +kernel
theorem dX5_angleBits_18 : decode cX5_angleBits 18 = .ok (.new 228, 3) := by decide +kernel
theorem dX5_angleBits_21 : decode cX5_angleBits 21 = .ok (.dup, 1) := by decide +kernel
theorem dX5_angleBits_22 : decode cX5_angleBits 22 = .ok (.ldc_w 302, 3) := by decide +kernel
theorem dX5_angleBits_25 : decode cX5_angleBits 25 = .ok (.invokespecial 232, 3) := by decide +kernel
theorem dX5_angleBits_28 : decode cX5_angleBits 28 = .ok (.athrow, 1) := by decide +kernel
theorem dX5_angleBits_29 : decode cX5_angleBits 29 = .ok (.aload_n 0, 1) := by decide +kernel
theorem dX5_angleBits_30 : decode cX5_angleBits 30 = .ok (.getfield 73, 3) := by decide +kernel
theorem dX5_angleBits_33 : decode cX5_angleBits 33 = .ok (.iload_n 1, 1) := by decide +kernel
theorem dX5_angleBits_34 : decode cX5_angleBits 34 = .ok (.bipush 16, 2) := by decide +kernel
theorem dX5_angleBits_36 : decode cX5_angleBits 36 = .ok (.isub, 1) := by decide +kernel
theorem dX5_angleBits_37 : decode cX5_angleBits 37 = .ok (.invokevirtual 304, 3) := by decide +kernel
theorem dX5_angleBits_40 : decode cX5_angleBits 40 = .ok (.ireturn, 1) := by decide +kernel
set_option maxRecDepth 20000 in
theorem ggX5_energyBits_X3_bitsOfEnergy : GoodIn wsX5_energyBits wsX3_bitsOfEnergy := goodIn_ca (goodIn_r _ [5, 6, 7, 8, 9, 10, 11, 12, 3, 13, 14, 15, 16, 17, 18, 19, 20, 21, 22, 23, 24, 25, 26, 27, 43, 44, 45, 46, 47] (by decide +kernel) (by decide +kernel)) (goodIn_sub (fun _ h => List.mem_cons_of_mem _ (List.mem_append_right _ h)) (by decide +kernel))
set_option maxRecDepth 20000 in
theorem gX5_energyBits_X3_bitsOfEnergy_n307 : GoodIn wsX5_energyBits (wsX3_bitsOfEnergy) := ggX5_energyBits_X3_bitsOfEnergy
theorem dX5_energyBits_0 : decode cX5_energyBits 0 = .ok (.aload_n 0, 1) := by decide +kernel
theorem dX5_energyBits_1 : decode cX5_energyBits 1 = .ok (.getfield 73, 3) := by decide +kernel
theorem dX5_energyBits_4 : decode cX5_energyBits 4 = .ok (.invokevirtual 307, 3) := by decide +kernel
theorem dX5_energyBits_7 : decode cX5_energyBits 7 = .ok (.lreturn, 1) := by decide +kernel
set_option maxRecDepth 20000 in
theorem ggX5_stepShare_X5_checkNoNoise : GoodIn wsX5_stepShare wsX5_checkNoNoise := goodIn_ca (goodIn_r _ [8, 9, 10, 11, 80, 81, 82, 83, 84, 85, 86, 87, 88, 89, 90, 91, 92, 93, 94] (by decide +kernel) (by decide +kernel)) (goodIn_sub (fun _ h => List.mem_cons_of_mem _ (List.mem_append_left _ (List.mem_append_left _ (List.mem_append_right _ h)))) (by decide +kernel))
set_option maxRecDepth 20000 in
theorem gX5_stepShare_X5_checkNoNoise : GoodIn wsX5_stepShare (wsV RX5 191 RX5 yX5_checkNoNoise wsX5_checkNoNoise) := goodIn_app (goodIn_of _ (by decide +kernel)) ggX5_stepShare_X5_checkNoNoise
set_option maxRecDepth 20000 in
theorem ggX5_stepShare_X5_wayAhead : GoodIn wsX5_stepShare wsX5_wayAhead := goodIn_ca (goodIn_ca (goodIn_ca (goodIn_ca (goodIn_r _ [15, 1, 2, 16, 17, 3, 18, 19, 4, 5, 6, 7, 8, 9, 10, 11, 20, 21, 22, 23, 24, 25, 26, 27, 28, 29, 30, 31, 32, 33, 34, 35, 36, 37, 38, 39, 40, 41, 42, 43, 44, 45, 46, 47, 48, 49, 50, 51, 52, 53, 54, 55, 56, 57, 58, 59, 60, 61, 62, 63, 64, 65, 66, 67, 68, 80, 81, 82, 83, 84, 85, 86, 87, 88, 89, 90, 91, 92, 93, 94, 106, 107, 108, 109, 110, 111, 112, 113, 114, 95, 96, 97, 98, 99, 100, 101, 102, 103, 104, 105] (by decide +kernel) (by decide +kernel)) (goodIn_sub (fun _ h => List.mem_cons_of_mem _ (List.mem_append_left _ (List.mem_append_left _ (List.mem_append_left _ (List.mem_append_right _ h))))) (by decide +kernel))) (goodIn_sub (fun _ h => List.mem_cons_of_mem _ (List.mem_append_left _ (List.mem_append_left _ (List.mem_append_right _ h)))) (by decide +kernel))) (goodIn_sub (fun _ h => List.mem_cons_of_mem _ (List.mem_append_left _ (List.mem_append_right _ h))) (by decide +kernel))) (goodIn_sub (fun _ h => List.mem_cons_of_mem _ (List.mem_append_right _ h)) (by decide +kernel))
set_option maxRecDepth 20000 in
theorem gX5_stepShare_X5_wayAhead : GoodIn wsX5_stepShare (wsV RX5 198 RX5 yX5_wayAhead wsX5_wayAhead) := goodIn_app (goodIn_of _ (by decide +kernel)) ggX5_stepShare_X5_wayAhead
set_option maxRecDepth 20000 in
theorem ggX5_stepShare_X4_countWithFirst : GoodIn wsX5_stepShare wsX4_countWithFirst := goodIn_ca (goodIn_r _ [71, 72, 73, 74, 21, 75, 27, 76, 77, 78, 79, 68, 26, 95, 96, 97, 98, 99, 100, 101, 102, 103, 104, 105, 106, 107, 108, 109, 110, 111] (by decide +kernel) (by decide +kernel)) (goodIn_sub (fun _ h => List.mem_cons_of_mem _ (List.mem_append_left _ (List.mem_append_right _ h))) (by decide +kernel))
set_option maxRecDepth 20000 in
theorem gX5_stepShare_X4_countWithFirst_n313 : GoodIn wsX5_stepShare (wsX4_countWithFirst) := ggX5_stepShare_X4_countWithFirst
theorem dX5_stepShare_0 : decode cX5_stepShare 0 = .ok (.aload_n 0, 1) := by decide +kernel
theorem dX5_stepShare_1 : decode cX5_stepShare 1 = .ok (.invokevirtual 191, 3) := by decide +kernel
theorem dX5_stepShare_4 : decode cX5_stepShare 4 = .ok (.aload_n 0, 1) := by decide +kernel
theorem dX5_stepShare_5 : decode cX5_stepShare 5 = .ok (.getfield 12, 3) := by decide +kernel
theorem dX5_stepShare_8 : decode cX5_stepShare 8 = .ok (.getfield 157, 3) := by decide +kernel
theorem dX5_stepShare_11 : decode cX5_stepShare 11 = .ok (.istore_n 1, 1) := by decide +kernel
theorem dX5_stepShare_12 : decode cX5_stepShare 12 = .ok (.iload_n 1, 1) := by decide +kernel
theorem dX5_stepShare_13 : decode cX5_stepShare 13 = .ok (.iconst 1, 1) := by decide +kernel
theorem dX5_stepShare_14 : decode cX5_stepShare 14 = .ok (.if_icmp .ge 14, 3) := by decide +kernel
theorem dX5_stepShare_17 : decode cX5_stepShare 17 = .ok (.new 236, 3) := by decide +kernel
theorem dX5_stepShare_20 : decode cX5_stepShare 20 = .ok (.dup, 1) := by decide +kernel
theorem dX5_stepShare_21 : decode cX5_stepShare 21 = .ok (.ldc_w 311, 3) := by decide +kernel
theorem dX5_stepShare_24 : decode cX5_stepShare 24 = .ok (.invokespecial 240, 3) := by decide +kernel
theorem dX5_stepShare_27 : decode cX5_stepShare 27 = .ok (.athrow, 1) := by decide +kernel
theorem dX5_stepShare_28 : decode cX5_stepShare 28 = .ok (.aload_n 0, 1) := by decide +kernel
theorem dX5_stepShare_29 : decode cX5_stepShare 29 = .ok (.invokevirtual 198, 3) := by decide +kernel
theorem dX5_stepShare_32 : decode cX5_stepShare 32 = .ok (.aload_n 0, 1) := by decide +kernel
theorem dX5_stepShare_33 : decode cX5_stepShare 33 = .ok (.getfield 12, 3) := by decide +kernel
theorem dX5_stepShare_36 : decode cX5_stepShare 36 = .ok (.invokevirtual 313, 3) := by decide +kernel
theorem dX5_stepShare_39 : decode cX5_stepShare 39 = .ok (.i2f, 1) := by decide +kernel
theorem dX5_stepShare_40 : decode cX5_stepShare 40 = .ok (.iload_n 1, 1) := by decide +kernel
theorem dX5_stepShare_41 : decode cX5_stepShare 41 = .ok (.i2f, 1) := by decide +kernel
theorem dX5_stepShare_42 : decode cX5_stepShare 42 = .ok (.fdiv, 1) := by decide +kernel
theorem dX5_stepShare_43 : decode cX5_stepShare 43 = .ok (.freturn, 1) := by decide +kernel
theorem dX5_meanPhase_0 : decode cX5_meanPhase 0 = .ok (.aload_n 0, 1) := by decide +kernel
theorem dX5_meanPhase_1 : decode cX5_meanPhase 1 = .ok (.getfield 12, 3) := by decide +kernel
theorem dX5_meanPhase_4 : decode cX5_meanPhase 4 = .ok (.getfield 157, 3) := by decide +kernel
theorem dX5_meanPhase_7 : decode cX5_meanPhase 7 = .ok (.istore_n 1, 1) := by decide +kernel
theorem dX5_meanPhase_8 : decode cX5_meanPhase 8 = .ok (.iload_n 1, 1) := by decide +kernel
theorem dX5_meanPhase_9 : decode cX5_meanPhase 9 = .ok (.iconst 1, 1) := by decide +kernel
theorem dX5_meanPhase_10 : decode cX5_meanPhase 10 = .ok (.if_icmp .ge 14, 3) := by decide +kernel
theorem dX5_meanPhase_13 : decode cX5_meanPhase 13 = .ok (.new 236, 3) := by decide +kernel
theorem dX5_meanPhase_16 : decode cX5_meanPhase 16 = .ok (.dup, 1) := by decide +kernel
theorem dX5_meanPhase_17 : decode cX5_meanPhase 17 = .ok (.ldc_w 311, 3) := by decide +kernel
theorem dX5_meanPhase_20 : decode cX5_meanPhase 20 = .ok (.invokespecial 240, 3) := by decide +kernel
theorem dX5_meanPhase_23 : decode cX5_meanPhase 23 = .ok (.athrow, 1) := by decide +kernel
theorem dX5_meanPhase_24 : decode cX5_meanPhase 24 = .ok (.iconst 0, 1) := by decide +kernel
theorem dX5_meanPhase_25 : decode cX5_meanPhase 25 = .ok (.istore_n 2, 1) := by decide +kernel
theorem dX5_meanPhase_26 : decode cX5_meanPhase 26 = .ok (.iconst 0, 1) := by decide +kernel
theorem dX5_meanPhase_27 : decode cX5_meanPhase 27 = .ok (.istore_n 3, 1) := by decide +kernel
theorem dX5_meanPhase_28 : decode cX5_meanPhase 28 = .ok (.iload_n 3, 1) := by decide +kernel
theorem dX5_meanPhase_29 : decode cX5_meanPhase 29 = .ok (.iload_n 1, 1) := by decide +kernel
theorem dX5_meanPhase_30 : decode cX5_meanPhase 30 = .ok (.if_icmp .ge 29, 3) := by decide +kernel
theorem dX5_meanPhase_33 : decode cX5_meanPhase 33 = .ok (.iload_n 2, 1) := by decide +kernel
theorem dX5_meanPhase_34 : decode cX5_meanPhase 34 = .ok (.aload_n 0, 1) := by decide +kernel
theorem dX5_meanPhase_35 : decode cX5_meanPhase 35 = .ok (.getfield 19, 3) := by decide +kernel
theorem dX5_meanPhase_38 : decode cX5_meanPhase 38 = .ok (.getfield 99, 3) := by decide +kernel
theorem dX5_meanPhase_41 : decode cX5_meanPhase 41 = .ok (.aload_n 0, 1) := by decide +kernel
theorem dX5_meanPhase_42 : decode cX5_meanPhase 42 = .ok (.getfield 12, 3) := by decide +kernel
theorem dX5_meanPhase_45 : decode cX5_meanPhase 45 = .ok (.getfield 316, 3) := by decide +kernel
theorem dX5_meanPhase_48 : decode cX5_meanPhase 48 = .ok (.iload_n 3, 1) := by decide +kernel
theorem dX5_meanPhase_49 : decode cX5_meanPhase 49 = .ok (.iaload, 1) := by decide +kernel
theorem dX5_meanPhase_50 : decode cX5_meanPhase 50 = .ok (.iaload, 1) := by decide +kernel
theorem dX5_meanPhase_51 : decode cX5_meanPhase 51 = .ok (.iadd, 1) := by decide +kernel
theorem dX5_meanPhase_52 : decode cX5_meanPhase 52 = .ok (.istore_n 2, 1) := by decide +kernel
theorem dX5_meanPhase_53 : decode cX5_meanPhase 53 = .ok (.iinc 3 1, 3) := by decide +kernel
theorem dX5_meanPhase_56 : decode cX5_meanPhase 56 = .ok (.goto (-28), 3) := by decide +kernel
theorem dX5_meanPhase_59 : decode cX5_meanPhase 59 = .ok (.iload_n 2, 1) := by decide +kernel
theorem dX5_meanPhase_60 : decode cX5_meanPhase 60 = .ok (.i2d, 1) := by decide +kernel
theorem dX5_meanPhase_61 : decode cX5_meanPhase 61 = .ok (.iload_n 1, 1) := by decide +kernel
theorem dX5_meanPhase_62 : decode cX5_meanPhase 62 = .ok (.i2d, 1) := by decide +kernel
theorem dX5_meanPhase_63 : decode cX5_meanPhase 63 = .ok (.ddiv, 1) := by decide +kernel
theorem dX5_meanPhase_64 : decode cX5_meanPhase 64 = .ok (.dreturn, 1) := by decide +kernel
set_option maxRecDepth 20000 in
theorem ggX5_checksum_X2_underWayTo : GoodIn wsX5_checksum wsX2_underWayTo := goodIn_ca (goodIn_r _ [11, 12, 13, 14, 15, 9, 16, 17, 71, 72, 73] (by decide +kernel) (by decide +kernel)) (goodIn_sub (fun _ h => List.mem_cons_of_mem _ (List.mem_append_right _ h)) (by decide +kernel))
set_option maxRecDepth 20000 in
theorem gX5_checksum_X2_underWayTo_n188 : GoodIn wsX5_checksum (wsX2_underWayTo) := ggX5_checksum_X2_underWayTo
set_option maxRecDepth 20000 in
theorem ggX5_checksum_X3_has : GoodIn wsX5_checksum wsX3_has := goodIn_ca (goodIn_r _ [21, 22, 74, 75, 76, 77, 78] (by decide +kernel) (by decide +kernel)) (goodIn_sub (fun _ h => List.mem_cons_of_mem _ (List.mem_append_right _ h)) (by decide +kernel))
set_option maxRecDepth 20000 in
theorem gX5_checksum_X3_has_n301 : GoodIn wsX5_checksum (wsX3_has) := ggX5_checksum_X3_has
set_option maxRecDepth 20000 in
theorem ggX5_checksum_X3_bitsOfAngle : GoodIn wsX5_checksum wsX3_bitsOfAngle := goodIn_ca (goodIn_r _ [25, 26, 27, 18, 20, 19, 21, 22, 28, 29, 30, 31, 32, 33, 34, 35, 36, 37, 38, 39, 40, 41, 42, 43, 44, 74, 75, 76, 77, 78] (by decide +kernel) (by decide +kernel)) (goodIn_sub (fun _ h => List.mem_cons_of_mem _ (List.mem_append_right _ h)) (by decide +kernel))
set_option maxRecDepth 20000 in
theorem gX5_checksum_X3_bitsOfAngle_n304 : GoodIn wsX5_checksum (wsX3_bitsOfAngle) := ggX5_checksum_X3_bitsOfAngle
theorem dX5_checksum_0 : decode cX5_checksum 0 = .ok (.ldc2_w 319, 3) := by decide +kernel
theorem dX5_checksum_3 : decode cX5_checksum 3 = .ok (.lstore_n 1, 1) := by decide +kernel
theorem dX5_checksum_4 : decode cX5_checksum 4 = .ok (.iconst 0, 1) := by decide +kernel
theorem dX5_checksum_5 : decode cX5_checksum 5 = .ok (.istore_n 3, 1) := by decide +kernel
theorem dX5_checksum_6 : decode cX5_checksum 6 = .ok (.iload_n 3, 1) := by decide +kernel
theorem dX5_checksum_7 : decode cX5_checksum 7 = .ok (.aload_n 0, 1) := by decide +kernel
theorem dX5_checksum_8 : decode cX5_checksum 8 = .ok (.getfield 12, 3) := by decide +kernel
theorem dX5_checksum_11 : decode cX5_checksum 11 = .ok (.getfield 157, 3) := by decide +kernel
theorem dX5_checksum_14 : decode cX5_checksum 14 = .ok (.if_icmp .ge 70, 3) := by decide +kernel
theorem dX5_checksum_17 : decode cX5_checksum 17 = .ok (.aload_n 0, 1) := by decide +kernel
theorem dX5_checksum_18 : decode cX5_checksum 18 = .ok (.getfield 12, 3) := by decide +kernel
theorem dX5_checksum_21 : decode cX5_checksum 21 = .ok (.getfield 316, 3) := by decide +kernel
theorem dX5_checksum_24 : decode cX5_checksum 24 = .ok (.iload_n 3, 1) := by decide +kernel
theorem dX5_checksum_25 : decode cX5_checksum 25 = .ok (.iaload, 1) := by decide +kernel
theorem dX5_checksum_26 : decode cX5_checksum 26 = .ok (.istore 4, 2) := by decide +kernel
theorem dX5_checksum_28 : decode cX5_checksum 28 = .ok (.ldc2_w 321, 3) := by decide +kernel
theorem dX5_checksum_31 : decode cX5_checksum 31 = .ok (.lload_n 1, 1) := by decide +kernel
theorem dX5_checksum_32 : decode cX5_checksum 32 = .ok (.lmul, 1) := by decide +kernel
theorem dX5_checksum_33 : decode cX5_checksum 33 = .ok (.aload_n 0, 1) := by decide +kernel
theorem dX5_checksum_34 : decode cX5_checksum 34 = .ok (.getfield 19, 3) := by decide +kernel
theorem dX5_checksum_37 : decode cX5_checksum 37 = .ok (.getfield 99, 3) := by decide +kernel
theorem dX5_checksum_40 : decode cX5_checksum 40 = .ok (.iload 4, 2) := by decide +kernel
theorem dX5_checksum_42 : decode cX5_checksum 42 = .ok (.iaload, 1) := by decide +kernel
theorem dX5_checksum_43 : decode cX5_checksum 43 = .ok (.i2l, 1) := by decide +kernel
theorem dX5_checksum_44 : decode cX5_checksum 44 = .ok (.ladd, 1) := by decide +kernel
theorem dX5_checksum_45 : decode cX5_checksum 45 = .ok (.lstore_n 1, 1) := by decide +kernel
theorem dX5_checksum_46 : decode cX5_checksum 46 = .ok (.ldc2_w 321, 3) := by decide +kernel
theorem dX5_checksum_49 : decode cX5_checksum 49 = .ok (.lload_n 1, 1) := by decide +kernel
theorem dX5_checksum_50 : decode cX5_checksum 50 = .ok (.lmul, 1) := by decide +kernel
theorem dX5_checksum_51 : decode cX5_checksum 51 = .ok (.aload_n 0, 1) := by decide +kernel
theorem dX5_checksum_52 : decode cX5_checksum 52 = .ok (.getfield 23, 3) := by decide +kernel
theorem dX5_checksum_55 : decode cX5_checksum 55 = .ok (.iload 4, 2) := by decide +kernel
theorem dX5_checksum_57 : decode cX5_checksum 57 = .ok (.iaload, 1) := by decide +kernel
theorem dX5_checksum_58 : decode cX5_checksum 58 = .ok (.i2l, 1) := by decide +kernel
theorem dX5_checksum_59 : decode cX5_checksum 59 = .ok (.ladd, 1) := by decide +kernel
theorem dX5_checksum_60 : decode cX5_checksum 60 = .ok (.lstore_n 1, 1) := by decide +kernel
theorem dX5_checksum_61 : decode cX5_checksum 61 = .ok (.ldc2_w 321, 3) := by decide +kernel
theorem dX5_checksum_64 : decode cX5_checksum 64 = .ok (.lload_n 1, 1) := by decide +kernel
theorem dX5_checksum_65 : decode cX5_checksum 65 = .ok (.lmul, 1) := by decide +kernel
theorem dX5_checksum_66 : decode cX5_checksum 66 = .ok (.aload_n 0, 1) := by decide +kernel
theorem dX5_checksum_67 : decode cX5_checksum 67 = .ok (.getfield 19, 3) := by decide +kernel
theorem dX5_checksum_70 : decode cX5_checksum 70 = .ok (.iload 4, 2) := by decide +kernel
theorem dX5_checksum_72 : decode cX5_checksum 72 = .ok (.invokevirtual 188, 3) := by decide +kernel
theorem dX5_checksum_75 : decode cX5_checksum 75 = .ok (.i2l, 1) := by decide +kernel
theorem dX5_checksum_76 : decode cX5_checksum 76 = .ok (.ladd, 1) := by decide +kernel
theorem dX5_checksum_77 : decode cX5_checksum 77 = .ok (.lstore_n 1, 1) := by decide +kernel
theorem dX5_checksum_78 : decode cX5_checksum 78 = .ok (.iinc 3 1, 3) := by decide +kernel
theorem dX5_checksum_81 : decode cX5_checksum 81 = .ok (.goto (-75), 3) := by decide +kernel
theorem dX5_checksum_84 : decode cX5_checksum 84 = .ok (.iconst 0, 1) := by decide +kernel
theorem dX5_checksum_85 : decode cX5_checksum 85 = .ok (.istore_n 3, 1) := by decide +kernel
theorem dX5_checksum_86 : decode cX5_checksum 86 = .ok (.iload_n 3, 1) := by decide +kernel
theorem dX5_checksum_87 : decode cX5_checksum 87 = .ok (.iconst 4, 1) := by decide +kernel
theorem dX5_checksum_88 : decode cX5_checksum 88 = .ok (.if_icmp .ge 36, 3) := by decide +kernel
theorem dX5_checksum_91 : decode cX5_checksum 91 = .ok (.aload_n 0, 1) := by decide +kernel
theorem dX5_checksum_92 : decode cX5_checksum 92 = .ok (.getfield 73, 3) := by decide +kernel
theorem dX5_checksum_95 : decode cX5_checksum 95 = .ok (.iload_n 3, 1) := by decide +kernel
theorem dX5_checksum_96 : decode cX5_checksum 96 = .ok (.invokevirtual 301, 3) := by decide +kernel
theorem dX5_checksum_99 : decode cX5_checksum 99 = .ok (.ifCond .eq 19, 3) := by decide +kernel
theorem dX5_checksum_102 : decode cX5_checksum 102 = .ok (.ldc2_w 321, 3) := by decide +kernel
theorem dX5_checksum_105 : decode cX5_checksum 105 = .ok (.lload_n 1, 1) := by decide +kernel
theorem dX5_checksum_106 : decode cX5_checksum 106 = .ok (.lmul, 1) := by decide +kernel
theorem dX5_checksum_107 : decode cX5_checksum 107 = .ok (.aload_n 0, 1) := by decide +kernel
theorem dX5_checksum_108 : decode cX5_checksum 108 = .ok (.getfield 73, 3) := by decide +kernel
theorem dX5_checksum_111 : decode cX5_checksum 111 = .ok (.iload_n 3, 1) := by decide +kernel
theorem dX5_checksum_112 : decode cX5_checksum 112 = .ok (.invokevirtual 304, 3) := by decide +kernel
theorem dX5_checksum_115 : decode cX5_checksum 115 = .ok (.i2l, 1) := by decide +kernel
theorem dX5_checksum_116 : decode cX5_checksum 116 = .ok (.ladd, 1) := by decide +kernel
theorem dX5_checksum_117 : decode cX5_checksum 117 = .ok (.lstore_n 1, 1) := by decide +kernel
theorem dX5_checksum_118 : decode cX5_checksum 118 = .ok (.iinc 3 1, 3) := by decide +kernel
theorem dX5_checksum_121 : decode cX5_checksum 121 = .ok (.goto (-35), 3) := by decide +kernel
theorem dX5_checksum_124 : decode cX5_checksum 124 = .ok (.ldc2_w 321, 3) := by decide +kernel
theorem dX5_checksum_127 : decode cX5_checksum 127 = .ok (.lload_n 1, 1) := by decide +kernel
theorem dX5_checksum_128 : decode cX5_checksum 128 = .ok (.lmul, 1) := by decide +kernel
theorem dX5_checksum_129 : decode cX5_checksum 129 = .ok (.aload_n 0, 1) := by decide +kernel
theorem dX5_checksum_130 : decode cX5_checksum 130 = .ok (.getfield 30, 3) := by decide +kernel
theorem dX5_checksum_133 : decode cX5_checksum 133 = .ok (.i2l, 1) := by decide +kernel
theorem dX5_checksum_134 : decode cX5_checksum 134 = .ok (.ladd, 1) := by decide +kernel
theorem dX5_checksum_135 : decode cX5_checksum 135 = .ok (.lreturn, 1) := by decide +kernel
set_option maxRecDepth 20000 in
theorem ggX5_isTrue_X4_follow : GoodIn wsX5_isTrue wsX4_follow := goodIn_ca (goodIn_ca (goodIn_r _ [8, 9, 10, 11, 12, 13, 14, 15, 16, 17, 18, 19, 20, 21, 22, 23, 24, 25, 26, 27, 28, 29, 30, 31, 32, 33, 34, 35, 36, 37, 38, 39, 40, 41, 42, 43, 44, 45, 46, 47, 48, 49, 50, 51, 6, 52, 53, 106, 107, 108, 109, 110, 111, 103, 104, 105, 92, 93, 94, 95, 96, 97, 98, 99, 100, 101, 102] (by decide +kernel) (by decide +kernel)) (goodIn_sub (fun _ h => List.mem_cons_of_mem _ (List.mem_append_left _ (List.mem_append_right _ h))) (by decide +kernel))) (goodIn_sub (fun _ h => List.mem_cons_of_mem _ (List.mem_append_right _ h)) (by decide +kernel))
set_option maxRecDepth 20000 in
theorem gX5_isTrue_X4_follow_n323 : GoodIn wsX5_isTrue (wsX4_follow) := ggX5_isTrue_X4_follow
set_option maxRecDepth 20000 in
theorem ggX5_isTrue_X4_returnsAnew : GoodIn wsX5_isTrue wsX4_returnsAnew := goodIn_ca (goodIn_ca (goodIn_r _ [56, 10, 53, 9, 12, 13, 14, 15, 16, 17, 18, 19, 20, 21, 22, 23, 24, 25, 26, 27, 28, 29, 30, 31, 32, 33, 34, 35, 36, 37, 38, 39, 40, 41, 42, 43, 44, 45, 46, 47, 48, 106, 107, 108, 109, 110, 111, 103, 104, 105, 92, 93, 94, 95, 96, 97, 98, 99, 100, 101, 102] (by decide +kernel) (by decide +kernel)) (goodIn_sub (fun _ h => List.mem_cons_of_mem _ (List.mem_append_left _ (List.mem_append_right _ h))) (by decide +kernel))) (goodIn_sub (fun _ h => List.mem_cons_of_mem _ (List.mem_append_right _ h)) (by decide +kernel))
set_option maxRecDepth 20000 in
theorem gX5_isTrue_X4_returnsAnew_n327 : GoodIn wsX5_isTrue (wsX4_returnsAnew) := ggX5_isTrue_X4_returnsAnew
set_option maxRecDepth 20000 in
theorem ggX5_isTrue_X4_groupsHaveAll : GoodIn wsX5_isTrue wsX4_groupsHaveAll := goodIn_ca (goodIn_r _ [59, 60, 61, 62, 63, 6, 64, 65, 66, 67, 68, 69, 70, 71, 72, 12, 73, 74, 75, 76, 53, 11, 92, 93, 94, 95, 96, 97, 98, 99, 100, 101, 102, 106, 107, 108, 109, 110, 111] (by decide +kernel) (by decide +kernel)) (goodIn_sub (fun _ h => List.mem_cons_of_mem _ (List.mem_append_left _ (List.mem_append_right _ h))) (by decide +kernel))
set_option maxRecDepth 20000 in
theorem gX5_isTrue_X4_groupsHaveAll_n330 : GoodIn wsX5_isTrue (wsX4_groupsHaveAll) := ggX5_isTrue_X4_groupsHaveAll
theorem dX5_isTrue_0 : decode cX5_isTrue 0 = .ok (.iconst 0, 1) := by decide +kernel
theorem dX5_isTrue_1 : decode cX5_isTrue 1 = .ok (.istore_n 1, 1) := by decide +kernel
theorem dX5_isTrue_2 : decode cX5_isTrue 2 = .ok (.iload_n 1, 1) := by decide +kernel
theorem dX5_isTrue_3 : decode cX5_isTrue 3 = .ok (.aload_n 0, 1) := by decide +kernel
theorem dX5_isTrue_4 : decode cX5_isTrue 4 = .ok (.getfield 12, 3) := by decide +kernel
theorem dX5_isTrue_7 : decode cX5_isTrue 7 = .ok (.getfield 157, 3) := by decide +kernel
theorem dX5_isTrue_10 : decode cX5_isTrue 10 = .ok (.if_icmp .ge 42, 3) := by decide +kernel
theorem dX5_isTrue_13 : decode cX5_isTrue 13 = .ok (.aload_n 0, 1) := by decide +kernel
theorem dX5_isTrue_14 : decode cX5_isTrue 14 = .ok (.getfield 12, 3) := by decide +kernel
theorem dX5_isTrue_17 : decode cX5_isTrue 17 = .ok (.getfield 316, 3) := by decide +kernel
theorem dX5_isTrue_20 : decode cX5_isTrue 20 = .ok (.iload_n 1, 1) := by decide +kernel
theorem dX5_isTrue_21 : decode cX5_isTrue 21 = .ok (.iaload, 1) := by decide +kernel
theorem dX5_isTrue_22 : decode cX5_isTrue 22 = .ok (.istore_n 2, 1) := by decide +kernel
theorem dX5_isTrue_23 : decode cX5_isTrue 23 = .ok (.aload_n 0, 1) := by decide +kernel
theorem dX5_isTrue_24 : decode cX5_isTrue 24 = .ok (.getfield 19, 3) := by decide +kernel
theorem dX5_isTrue_27 : decode cX5_isTrue 27 = .ok (.getfield 99, 3) := by decide +kernel
theorem dX5_isTrue_30 : decode cX5_isTrue 30 = .ok (.iload_n 2, 1) := by decide +kernel
theorem dX5_isTrue_31 : decode cX5_isTrue 31 = .ok (.iaload, 1) := by decide +kernel
theorem dX5_isTrue_32 : decode cX5_isTrue 32 = .ok (.aload_n 0, 1) := by decide +kernel
theorem dX5_isTrue_33 : decode cX5_isTrue 33 = .ok (.getfield 12, 3) := by decide +kernel
theorem dX5_isTrue_36 : decode cX5_isTrue 36 = .ok (.getfield 111, 3) := by decide +kernel
theorem dX5_isTrue_39 : decode cX5_isTrue 39 = .ok (.iload_n 2, 1) := by decide +kernel
theorem dX5_isTrue_40 : decode cX5_isTrue 40 = .ok (.iaload, 1) := by decide +kernel
theorem dX5_isTrue_41 : decode cX5_isTrue 41 = .ok (.if_icmp .lt 5, 3) := by decide +kernel
theorem dX5_isTrue_44 : decode cX5_isTrue 44 = .ok (.iconst 0, 1) := by decide +kernel
theorem dX5_isTrue_45 : decode cX5_isTrue 45 = .ok (.ireturn, 1) := by decide +kernel
theorem dX5_isTrue_46 : decode cX5_isTrue 46 = .ok (.iinc 1 1, 3) := by decide +kernel
theorem dX5_isTrue_49 : decode cX5_isTrue 49 = .ok (.goto (-47), 3) := by decide +kernel
theorem dX5_isTrue_52 : decode cX5_isTrue 52 = .ok (.aload_n 0, 1) := by decide +kernel
theorem dX5_isTrue_53 : decode cX5_isTrue 53 = .ok (.getfield 34, 3) := by decide +kernel
theorem dX5_isTrue_56 : decode cX5_isTrue 56 = .ok (.ifCond .gt 21, 3) := by decide +kernel
theorem dX5_isTrue_59 : decode cX5_isTrue 59 = .ok (.aload_n 0, 1) := by decide +kernel
theorem dX5_isTrue_60 : decode cX5_isTrue 60 = .ok (.getfield 60, 3) := by decide +kernel
theorem dX5_isTrue_63 : decode cX5_isTrue 63 = .ok (.aload_n 0, 1) := by decide +kernel
theorem dX5_isTrue_64 : decode cX5_isTrue 64 = .ok (.getfield 12, 3) := by decide +kernel
theorem dX5_isTrue_67 : decode cX5_isTrue 67 = .ok (.aload_n 0, 1) := by decide +kernel
theorem dX5_isTrue_68 : decode cX5_isTrue 68 = .ok (.getfield 19, 3) := by decide +kernel
theorem dX5_isTrue_71 : decode cX5_isTrue 71 = .ok (.invokevirtual 323, 3) := by decide +kernel
theorem dX5_isTrue_74 : decode cX5_isTrue 74 = .ok (.ifCond .ne 5, 3) := by decide +kernel
theorem dX5_isTrue_77 : decode cX5_isTrue 77 = .ok (.iconst 1, 1) := by decide +kernel
theorem dX5_isTrue_78 : decode cX5_isTrue 78 = .ok (.ireturn, 1) := by decide +kernel
theorem dX5_isTrue_79 : decode cX5_isTrue 79 = .ok (.aload_n 0, 1) := by decide +kernel
theorem dX5_isTrue_80 : decode cX5_isTrue 80 = .ok (.getfield 60, 3) := by decide +kernel
theorem dX5_isTrue_83 : decode cX5_isTrue 83 = .ok (.aload_n 0, 1) := by decide +kernel
theorem dX5_isTrue_84 : decode cX5_isTrue 84 = .ok (.getfield 12, 3) := by decide +kernel
theorem dX5_isTrue_87 : decode cX5_isTrue 87 = .ok (.aload_n 0, 1) := by decide +kernel
theorem dX5_isTrue_88 : decode cX5_isTrue 88 = .ok (.getfield 19, 3) := by decide +kernel
theorem dX5_isTrue_91 : decode cX5_isTrue 91 = .ok (.invokevirtual 327, 3) := by decide +kernel
theorem dX5_isTrue_94 : decode cX5_isTrue 94 = .ok (.ifCond .eq 21, 3) := by decide +kernel
theorem dX5_isTrue_97 : decode cX5_isTrue 97 = .ok (.aload_n 0, 1) := by decide +kernel
theorem dX5_isTrue_98 : decode cX5_isTrue 98 = .ok (.getfield 60, 3) := by decide +kernel
theorem dX5_isTrue_101 : decode cX5_isTrue 101 = .ok (.aload_n 0, 1) := by decide +kernel
theorem dX5_isTrue_102 : decode cX5_isTrue 102 = .ok (.getfield 12, 3) := by decide +kernel
theorem dX5_isTrue_105 : decode cX5_isTrue 105 = .ok (.invokevirtual 330, 3) := by decide +kernel
theorem dX5_isTrue_108 : decode cX5_isTrue 108 = .ok (.ifCond .eq 7, 3) := by decide +kernel
theorem dX5_isTrue_111 : decode cX5_isTrue 111 = .ok (.iconst 1, 1) := by decide +kernel
theorem dX5_isTrue_112 : decode cX5_isTrue 112 = .ok (.goto 4, 3) := by decide +kernel
theorem dX5_isTrue_115 : decode cX5_isTrue 115 = .ok (.iconst 0, 1) := by decide +kernel
theorem dX5_isTrue_116 : decode cX5_isTrue 116 = .ok (.ireturn, 1) := by decide +kernel
theorem dX5_checkPlace_0 : decode cX5_checkPlace 0 = .ok (.iload_n 0, 1) := by decide +kernel
theorem dX5_checkPlace_1 : decode cX5_checkPlace 1 = .ok (.ifCond .lt 9, 3) := by decide +kernel
theorem dX5_checkPlace_4 : decode cX5_checkPlace 4 = .ok (.iload_n 0, 1) := by decide +kernel
theorem dX5_checkPlace_5 : decode cX5_checkPlace 5 = .ok (.bipush 20, 2) := by decide +kernel
theorem dX5_checkPlace_7 : decode cX5_checkPlace 7 = .ok (.if_icmp .lt 14, 3) := by decide +kernel
theorem dX5_checkPlace_10 : decode cX5_checkPlace 10 = .ok (.new 126, 3) := by decide +kernel
theorem dX5_checkPlace_13 : decode cX5_checkPlace 13 = .ok (.dup, 1) := by decide +kernel
theorem dX5_checkPlace_14 : decode cX5_checkPlace 14 = .ok (.ldc_w 334, 3) := by decide +kernel
theorem dX5_checkPlace_17 : decode cX5_checkPlace 17 = .ok (.invokespecial 130, 3) := by decide +kernel
theorem dX5_checkPlace_20 : decode cX5_checkPlace 20 = .ok (.athrow, 1) := by decide +kernel
theorem dX5_checkPlace_21 : decode cX5_checkPlace 21 = .ok (.return_, 1) := by decide +kernel
theorem dX5_checkRange_0 : decode cX5_checkRange 0 = .ok (.iload_n 0, 1) := by decide +kernel
theorem dX5_checkRange_1 : decode cX5_checkRange 1 = .ok (.iload_n 1, 1) := by decide +kernel
theorem dX5_checkRange_2 : decode cX5_checkRange 2 = .ok (.if_icmp .lt 8, 3) := by decide +kernel
theorem dX5_checkRange_5 : decode cX5_checkRange 5 = .ok (.iload_n 0, 1) := by decide +kernel
theorem dX5_checkRange_6 : decode cX5_checkRange 6 = .ok (.iload_n 2, 1) := by decide +kernel
theorem dX5_checkRange_7 : decode cX5_checkRange 7 = .ok (.if_icmp .le 14, 3) := by decide +kernel
theorem dX5_checkRange_10 : decode cX5_checkRange 10 = .ok (.new 152, 3) := by decide +kernel
theorem dX5_checkRange_13 : decode cX5_checkRange 13 = .ok (.dup, 1) := by decide +kernel
theorem dX5_checkRange_14 : decode cX5_checkRange 14 = .ok (.ldc_w 336, 3) := by decide +kernel
theorem dX5_checkRange_17 : decode cX5_checkRange 17 = .ok (.invokespecial 156, 3) := by decide +kernel
theorem dX5_checkRange_20 : decode cX5_checkRange 20 = .ok (.athrow, 1) := by decide +kernel
theorem dX5_checkRange_21 : decode cX5_checkRange 21 = .ok (.return_, 1) := by decide +kernel
theorem dX5_checkOther_0 : decode cX5_checkOther 0 = .ok (.iload_n 0, 1) := by decide +kernel
theorem dX5_checkOther_1 : decode cX5_checkOther 1 = .ok (.iload_n 1, 1) := by decide +kernel
theorem dX5_checkOther_2 : decode cX5_checkOther 2 = .ok (.if_icmp .ne 14, 3) := by decide +kernel
theorem dX5_checkOther_5 : decode cX5_checkOther 5 = .ok (.new 152, 3) := by decide +kernel
theorem dX5_checkOther_8 : decode cX5_checkOther 8 = .ok (.dup, 1) := by decide +kernel
theorem dX5_checkOther_9 : decode cX5_checkOther 9 = .ok (.ldc_w 338, 3) := by decide +kernel
theorem dX5_checkOther_12 : decode cX5_checkOther 12 = .ok (.invokespecial 156, 3) := by decide +kernel
theorem dX5_checkOther_15 : decode cX5_checkOther 15 = .ok (.athrow, 1) := by decide +kernel
theorem dX5_checkOther_16 : decode cX5_checkOther 16 = .ok (.return_, 1) := by decide +kernel
set_option maxRecDepth 20000 in
theorem ggX5_checkBeater_X5_checkPlace : GoodIn wsX5_checkBeater wsX5_checkPlace := goodIn_ca (goodIn_r _ [7, 8, 9] (by decide +kernel) (by decide +kernel)) (goodIn_sub (fun _ h => List.mem_cons_of_mem _ (List.mem_append_right _ h)) (by decide +kernel))
set_option maxRecDepth 20000 in
theorem gX5_checkBeater_X5_checkPlace : GoodIn wsX5_checkBeater (va_wsS RX5 77 yX5_checkPlace wsX5_checkPlace) := goodIn_app (goodIn_of _ (by decide +kernel)) ggX5_checkBeater_X5_checkPlace
set_option maxRecDepth 20000 in
theorem ggX5_checkBeater_X1_has : GoodIn wsX5_checkBeater wsX1_has := goodIn_r _ [13, 14, 30, 31, 32, 33, 34, 35, 36, 37, 38, 39, 40] (by decide +kernel) (by decide +kernel)
set_option maxRecDepth 20000 in
theorem gX5_checkBeater_X1_has_n92 : GoodIn wsX5_checkBeater (wsX1_has) := ggX5_checkBeater_X1_has
theorem dX5_checkBeater_0 : decode cX5_checkBeater 0 = .ok (.iload_n 1, 1) := by decide +kernel
theorem dX5_checkBeater_1 : decode cX5_checkBeater 1 = .ok (.invokestatic 77, 3) := by decide +kernel
theorem dX5_checkBeater_4 : decode cX5_checkBeater 4 = .ok (.aload_n 0, 1) := by decide +kernel
theorem dX5_checkBeater_5 : decode cX5_checkBeater 5 = .ok (.getfield 12, 3) := by decide +kernel
theorem dX5_checkBeater_8 : decode cX5_checkBeater 8 = .ok (.iload_n 1, 1) := by decide +kernel
theorem dX5_checkBeater_9 : decode cX5_checkBeater 9 = .ok (.invokevirtual 92, 3) := by decide +kernel
theorem dX5_checkBeater_12 : decode cX5_checkBeater 12 = .ok (.ifCond .ne 14, 3) := by decide +kernel
theorem dX5_checkBeater_15 : decode cX5_checkBeater 15 = .ok (.new 228, 3) := by decide +kernel
theorem dX5_checkBeater_18 : decode cX5_checkBeater 18 = .ok (.dup, 1) := by decide +kernel
theorem dX5_checkBeater_19 : decode cX5_checkBeater 19 = .ok (.ldc_w 340, 3) := by decide +kernel
theorem dX5_checkBeater_22 : decode cX5_checkBeater 22 = .ok (.invokespecial 232, 3) := by decide +kernel
theorem dX5_checkBeater_25 : decode cX5_checkBeater 25 = .ok (.athrow, 1) := by decide +kernel
theorem dX5_checkBeater_26 : decode cX5_checkBeater 26 = .ok (.return_, 1) := by decide +kernel
set_option maxRecDepth 20000 in
theorem ggX5_checkPair_X5_checkPlace : GoodIn wsX5_checkPair wsX5_checkPlace := goodIn_ca (goodIn_r _ [4, 5, 6] (by decide +kernel) (by decide +kernel)) (goodIn_sub (fun _ h => List.mem_cons_of_mem _ (List.mem_append_left _ (List.mem_append_left _ (List.mem_append_right _ h)))) (by decide +kernel))
set_option maxRecDepth 20000 in
theorem gX5_checkPair_X5_checkPlace : GoodIn wsX5_checkPair (va_wsS RX5 77 yX5_checkPlace wsX5_checkPlace) := goodIn_app (goodIn_of _ (by decide +kernel)) ggX5_checkPair_X5_checkPlace
set_option maxRecDepth 20000 in
theorem ggX5_checkPair_X5_checkOther : GoodIn wsX5_checkPair wsX5_checkOther := goodIn_ca (goodIn_r _ [9, 10, 11] (by decide +kernel) (by decide +kernel)) (goodIn_sub (fun _ h => List.mem_cons_of_mem _ (List.mem_append_left _ (List.mem_append_right _ h))) (by decide +kernel))
set_option maxRecDepth 20000 in
theorem gX5_checkPair_X5_checkOther : GoodIn wsX5_checkPair (va_wsS RX5 131 yX5_checkOther wsX5_checkOther) := goodIn_app (goodIn_of _ (by decide +kernel)) ggX5_checkPair_X5_checkOther
set_option maxRecDepth 20000 in
theorem ggX5_checkPair_X5_checkBeater : GoodIn wsX5_checkPair wsX5_checkBeater := goodIn_ca (goodIn_ca (goodIn_r _ [15, 16, 17, 18, 1, 2, 3, 4, 5, 6, 19, 20, 21, 22, 23, 24, 25, 26, 27, 28, 29, 30, 31, 32, 33, 34, 35, 36, 37, 38, 39, 40, 41, 42, 43, 44, 45, 46, 47, 48, 49] (by decide +kernel) (by decide +kernel)) (goodIn_sub (fun _ h => List.mem_cons_of_mem _ (List.mem_append_right _ h)) (by decide +kernel))) (goodIn_sub (fun _ h => List.mem_cons_of_mem _ (List.mem_append_left _ (List.mem_append_left _ (List.mem_append_right _ h)))) (by decide +kernel))
set_option maxRecDepth 20000 in
theorem gX5_checkPair_X5_checkBeater : GoodIn wsX5_checkPair (wsV RX5 108 RX5 yX5_checkBeater wsX5_checkBeater) := goodIn_app (goodIn_of _ (by decide +kernel)) ggX5_checkPair_X5_checkBeater
theorem dX5_checkPair_0 : decode cX5_checkPair 0 = .ok (.iload_n 1, 1) := by decide +kernel
theorem dX5_checkPair_1 : decode cX5_checkPair 1 = .ok (.invokestatic 77, 3) := by decide +kernel
theorem dX5_checkPair_4 : decode cX5_checkPair 4 = .ok (.iload_n 2, 1) := by decide +kernel
theorem dX5_checkPair_5 : decode cX5_checkPair 5 = .ok (.invokestatic 77, 3) := by decide +kernel
theorem dX5_checkPair_8 : decode cX5_checkPair 8 = .ok (.iload_n 1, 1) := by decide +kernel
theorem dX5_checkPair_9 : decode cX5_checkPair 9 = .ok (.iload_n 2, 1) := by decide +kernel
theorem dX5_checkPair_10 : decode cX5_checkPair 10 = .ok (.invokestatic 131, 3) := by decide +kernel
theorem dX5_checkPair_13 : decode cX5_checkPair 13 = .ok (.aload_n 0, 1) := by decide +kernel
theorem dX5_checkPair_14 : decode cX5_checkPair 14 = .ok (.iload_n 1, 1) := by decide +kernel
theorem dX5_checkPair_15 : decode cX5_checkPair 15 = .ok (.invokevirtual 108, 3) := by decide +kernel
theorem dX5_checkPair_18 : decode cX5_checkPair 18 = .ok (.aload_n 0, 1) := by decide +kernel
theorem dX5_checkPair_19 : decode cX5_checkPair 19 = .ok (.iload_n 2, 1) := by decide +kernel
theorem dX5_checkPair_20 : decode cX5_checkPair 20 = .ok (.invokevirtual 108, 3) := by decide +kernel
theorem dX5_checkPair_23 : decode cX5_checkPair 23 = .ok (.return_, 1) := by decide +kernel
theorem dX5_checkNoNoise_0 : decode cX5_checkNoNoise 0 = .ok (.aload_n 0, 1) := by decide +kernel
theorem dX5_checkNoNoise_1 : decode cX5_checkNoNoise 1 = .ok (.getfield 34, 3) := by decide +kernel
theorem dX5_checkNoNoise_4 : decode cX5_checkNoNoise 4 = .ok (.ifCond .le 14, 3) := by decide +kernel
theorem dX5_checkNoNoise_7 : decode cX5_checkNoNoise 7 = .ok (.new 85, 3) := by decide +kernel
theorem dX5_checkNoNoise_10 : decode cX5_checkNoNoise 10 = .ok (.dup, 1) := by decide +kernel
theorem dX5_checkNoNoise_11 : decode cX5_checkNoNoise 11 = .ok (.ldc_w 342, 3) := by decide +kernel
theorem dX5_checkNoNoise_14 : decode cX5_checkNoNoise 14 = .ok (.invokespecial 89, 3) := by decide +kernel
theorem dX5_checkNoNoise_17 : decode cX5_checkNoNoise 17 = .ok (.athrow, 1) := by decide +kernel
theorem dX5_checkNoNoise_18 : decode cX5_checkNoNoise 18 = .ok (.return_, 1) := by decide +kernel
theorem dX5_netSize_0 : decode cX5_netSize 0 = .ok (.iload_n 0, 1) := by decide +kernel
theorem dX5_netSize_1 : decode cX5_netSize 1 = .ok (.bipush 114, 2) := by decide +kernel
theorem dX5_netSize_3 : decode cX5_netSize 3 = .ok (.if_icmp .ne 5, 3) := by decide +kernel
theorem dX5_netSize_6 : decode cX5_netSize 6 = .ok (.iload_n 1, 1) := by decide +kernel
theorem dX5_netSize_7 : decode cX5_netSize 7 = .ok (.ireturn, 1) := by decide +kernel
theorem dX5_netSize_8 : decode cX5_netSize 8 = .ok (.iload_n 0, 1) := by decide +kernel
theorem dX5_netSize_9 : decode cX5_netSize 9 = .ok (.bipush 108, 2) := by decide +kernel
theorem dX5_netSize_11 : decode cX5_netSize 11 = .ok (.if_icmp .ne 7, 3) := by decide +kernel
theorem dX5_netSize_14 : decode cX5_netSize 14 = .ok (.iload_n 1, 1) := by decide +kernel
theorem dX5_netSize_15 : decode cX5_netSize 15 = .ok (.iconst 1, 1) := by decide +kernel
theorem dX5_netSize_16 : decode cX5_netSize 16 = .ok (.isub, 1) := by decide +kernel
theorem dX5_netSize_17 : decode cX5_netSize 17 = .ok (.ireturn, 1) := by decide +kernel
theorem dX5_netSize_18 : decode cX5_netSize 18 = .ok (.iload_n 0, 1) := by decide +kernel
theorem dX5_netSize_19 : decode cX5_netSize 19 = .ok (.bipush 104, 2) := by decide +kernel
theorem dX5_netSize_21 : decode cX5_netSize 21 = .ok (.if_icmp .ne 11, 3) := by decide +kernel
theorem dX5_netSize_24 : decode cX5_netSize 24 = .ok (.iconst 2, 1) := by decide +kernel
theorem dX5_netSize_25 : decode cX5_netSize 25 = .ok (.iload_n 1, 1) := by decide +kernel
theorem dX5_netSize_26 : decode cX5_netSize 26 = .ok (.iconst 1, 1) := by decide +kernel
theorem dX5_netSize_27 : decode cX5_netSize 27 = .ok (.isub, 1) := by decide +kernel
theorem dX5_netSize_28 : decode cX5_netSize 28 = .ok (.imul, 1) := by decide +kernel
theorem dX5_netSize_29 : decode cX5_netSize 29 = .ok (.goto 8, 3) := by decide +kernel
theorem dX5_netSize_32 : decode cX5_netSize 32 = .ok (.iload_n 1, 1) := by decide +kernel
theorem dX5_netSize_33 : decode cX5_netSize 33 = .ok (.iload_n 1, 1) := by decide +kernel
theorem dX5_netSize_34 : decode cX5_netSize 34 = .ok (.iconst 1, 1) := by decide +kernel
theorem dX5_netSize_35 : decode cX5_netSize 35 = .ok (.isub, 1) := by decide +kernel
theorem dX5_netSize_36 : decode cX5_netSize 36 = .ok (.imul, 1) := by decide +kernel
theorem dX5_netSize_37 : decode cX5_netSize 37 = .ok (.ireturn, 1) := by decide +kernel
theorem dX5_drawLots_0 : decode cX5_drawLots 0 = .ok (.aload_n 0, 1) := by decide +kernel
theorem dX5_drawLots_1 : decode cX5_drawLots 1 = .ok (.getfield 34, 3) := by decide +kernel
theorem dX5_drawLots_4 : decode cX5_drawLots 4 = .ok (.ifCond .ne 5, 3) := by decide +kernel
theorem dX5_drawLots_7 : decode cX5_drawLots 7 = .ok (.iconst 0, 1) := by decide +kernel
theorem dX5_drawLots_8 : decode cX5_drawLots 8 = .ok (.ireturn, 1) := by decide +kernel
theorem dX5_drawLots_9 : decode cX5_drawLots 9 = .ok (.iconst 0, 1) := by decide +kernel
theorem dX5_drawLots_10 : decode cX5_drawLots 10 = .ok (.istore_n 1, 1) := by decide +kernel
theorem dX5_drawLots_11 : decode cX5_drawLots 11 = .ok (.iconst 0, 1) := by decide +kernel
theorem dX5_drawLots_12 : decode cX5_drawLots 12 = .ok (.istore_n 2, 1) := by decide +kernel
theorem dX5_drawLots_13 : decode cX5_drawLots 13 = .ok (.iload_n 2, 1) := by decide +kernel
theorem dX5_drawLots_14 : decode cX5_drawLots 14 = .ok (.aload_n 0, 1) := by decide +kernel
theorem dX5_drawLots_15 : decode cX5_drawLots 15 = .ok (.getfield 12, 3) := by decide +kernel
theorem dX5_drawLots_18 : decode cX5_drawLots 18 = .ok (.getfield 157, 3) := by decide +kernel
theorem dX5_drawLots_21 : decode cX5_drawLots 21 = .ok (.if_icmp .ge 55, 3) := by decide +kernel
theorem dX5_drawLots_24 : decode cX5_drawLots 24 = .ok (.aload_n 0, 1) := by decide +kernel
theorem dX5_drawLots_25 : decode cX5_drawLots 25 = .ok (.aload_n 0, 1) := by decide +kernel
theorem dX5_drawLots_26 : decode cX5_drawLots 26 = .ok (.getfield 37, 3) := by decide +kernel
theorem dX5_drawLots_29 : decode cX5_drawLots 29 = .ok (.i2l, 1) := by decide +kernel
theorem dX5_drawLots_30 : decode cX5_drawLots 30 = .ok (.ldc2_w 344, 3) := by decide +kernel
theorem dX5_drawLots_33 : decode cX5_drawLots 33 = .ok (.lmul, 1) := by decide +kernel
theorem dX5_drawLots_34 : decode cX5_drawLots 34 = .ok (.ldc2_w 346, 3) := by decide +kernel
theorem dX5_drawLots_37 : decode cX5_drawLots 37 = .ok (.lrem, 1) := by decide +kernel
theorem dX5_drawLots_38 : decode cX5_drawLots 38 = .ok (.l2i, 1) := by decide +kernel
theorem dX5_drawLots_39 : decode cX5_drawLots 39 = .ok (.putfield 37, 3) := by decide +kernel
theorem dX5_drawLots_42 : decode cX5_drawLots 42 = .ok (.aload_n 0, 1) := by decide +kernel
theorem dX5_drawLots_43 : decode cX5_drawLots 43 = .ok (.getfield 37, 3) := by decide +kernel
theorem dX5_drawLots_46 : decode cX5_drawLots 46 = .ok (.bipush 100, 2) := by decide +kernel
theorem dX5_drawLots_48 : decode cX5_drawLots 48 = .ok (.irem, 1) := by decide +kernel
theorem dX5_drawLots_49 : decode cX5_drawLots 49 = .ok (.aload_n 0, 1) := by decide +kernel
theorem dX5_drawLots_50 : decode cX5_drawLots 50 = .ok (.getfield 34, 3) := by decide +kernel
theorem dX5_drawLots_53 : decode cX5_drawLots 53 = .ok (.if_icmp .ge 17, 3) := by decide +kernel
theorem dX5_drawLots_56 : decode cX5_drawLots 56 = .ok (.iload_n 1, 1) := by decide +kernel
theorem dX5_drawLots_57 : decode cX5_drawLots 57 = .ok (.iconst 1, 1) := by decide +kernel
theorem dX5_drawLots_58 : decode cX5_drawLots 58 = .ok (.aload_n 0, 1) := by decide +kernel
theorem dX5_drawLots_59 : decode cX5_drawLots 59 = .ok (.getfield 12, 3) := by decide +kernel
theorem dX5_drawLots_62 : decode cX5_drawLots 62 = .ok (.getfield 316, 3) := by decide +kernel
theorem dX5_drawLots_65 : decode cX5_drawLots 65 = .ok (.iload_n 2, 1) := by decide +kernel
theorem dX5_drawLots_66 : decode cX5_drawLots 66 = .ok (.iaload, 1) := by decide +kernel
theorem dX5_drawLots_67 : decode cX5_drawLots 67 = .ok (.ishl, 1) := by decide +kernel
theorem dX5_drawLots_68 : decode cX5_drawLots 68 = .ok (.ior, 1) := by decide +kernel
theorem dX5_drawLots_69 : decode cX5_drawLots 69 = .ok (.istore_n 1, 1) := by decide +kernel
theorem dX5_drawLots_70 : decode cX5_drawLots 70 = .ok (.iinc 2 1, 3) := by decide +kernel
theorem dX5_drawLots_73 : decode cX5_drawLots 73 = .ok (.goto (-60), 3) := by decide +kernel
theorem dX5_drawLots_76 : decode cX5_drawLots 76 = .ok (.iload_n 1, 1) := by decide +kernel
theorem dX5_drawLots_77 : decode cX5_drawLots 77 = .ok (.ireturn, 1) := by decide +kernel
set_option maxRecDepth 20000 in
theorem ggX5_noteFlashes_J6_bitCount_0f7a4 : GoodIn wsX5_noteFlashes wsJ6_bitCount_0f7a4 := goodIn_r _ [7, 8, 9, 10] (by decide +kernel) (by decide +kernel)
set_option maxRecDepth 20000 in
theorem gX5_noteFlashes_J6_bitCount_0f7a4 : GoodIn wsX5_noteFlashes (va_wsS RX5 263 yJ6_bitCount_0f7a4 wsJ6_bitCount_0f7a4) := goodIn_app (goodIn_of _ (by decide +kernel)) ggX5_noteFlashes_J6_bitCount_0f7a4
theorem dX5_noteFlashes_0 : decode cX5_noteFlashes 0 = .ok (.iload_n 1, 1) := by decide +kernel
theorem dX5_noteFlashes_1 : decode cX5_noteFlashes 1 = .ok (.ifCond .eq 45, 3) := by decide +kernel
theorem dX5_noteFlashes_4 : decode cX5_noteFlashes 4 = .ok (.iconst 0, 1) := by decide +kernel
theorem dX5_noteFlashes_5 : decode cX5_noteFlashes 5 = .ok (.istore_n 2, 1) := by decide +kernel
theorem dX5_noteFlashes_6 : decode cX5_noteFlashes 6 = .ok (.iload_n 2, 1) := by decide +kernel
theorem dX5_noteFlashes_7 : decode cX5_noteFlashes 7 = .ok (.bipush 16, 2) := by decide +kernel
theorem dX5_noteFlashes_9 : decode cX5_noteFlashes 9 = .ok (.if_icmp .ge 37, 3) := by decide +kernel
theorem dX5_noteFlashes_12 : decode cX5_noteFlashes 12 = .ok (.iload_n 1, 1) := by decide +kernel
theorem dX5_noteFlashes_13 : decode cX5_noteFlashes 13 = .ok (.iload_n 2, 1) := by decide +kernel
theorem dX5_noteFlashes_14 : decode cX5_noteFlashes 14 = .ok (.ishr, 1) := by decide +kernel
theorem dX5_noteFlashes_15 : decode cX5_noteFlashes 15 = .ok (.iconst 1, 1) := by decide +kernel
theorem dX5_noteFlashes_16 : decode cX5_noteFlashes 16 = .ok (.iand, 1) := by decide +kernel
theorem dX5_noteFlashes_17 : decode cX5_noteFlashes 17 = .ok (.ifCond .eq 23, 3) := by decide +kernel
theorem dX5_noteFlashes_20 : decode cX5_noteFlashes 20 = .ok (.aload_n 0, 1) := by decide +kernel
theorem dX5_noteFlashes_21 : decode cX5_noteFlashes 21 = .ok (.getfield 23, 3) := by decide +kernel
theorem dX5_noteFlashes_24 : decode cX5_noteFlashes 24 = .ok (.iload_n 2, 1) := by decide +kernel
theorem dX5_noteFlashes_25 : decode cX5_noteFlashes 25 = .ok (.dup2, 1) := by decide +kernel
theorem dX5_noteFlashes_26 : decode cX5_noteFlashes 26 = .ok (.iaload, 1) := by decide +kernel
theorem dX5_noteFlashes_27 : decode cX5_noteFlashes 27 = .ok (.iconst 1, 1) := by decide +kernel
theorem dX5_noteFlashes_28 : decode cX5_noteFlashes 28 = .ok (.iadd, 1) := by decide +kernel
theorem dX5_noteFlashes_29 : decode cX5_noteFlashes 29 = .ok (.iastore, 1) := by decide +kernel
theorem dX5_noteFlashes_30 : decode cX5_noteFlashes 30 = .ok (.aload_n 0, 1) := by decide +kernel
theorem dX5_noteFlashes_31 : decode cX5_noteFlashes 31 = .ok (.getfield 27, 3) := by decide +kernel
theorem dX5_noteFlashes_34 : decode cX5_noteFlashes 34 = .ok (.iload_n 2, 1) := by decide +kernel
theorem dX5_noteFlashes_35 : decode cX5_noteFlashes 35 = .ok (.aload_n 0, 1) := by decide +kernel
theorem dX5_noteFlashes_36 : decode cX5_noteFlashes 36 = .ok (.getfield 30, 3) := by decide +kernel
theorem dX5_noteFlashes_39 : decode cX5_noteFlashes 39 = .ok (.iastore, 1) := by decide +kernel
theorem dX5_noteFlashes_40 : decode cX5_noteFlashes 40 = .ok (.iinc 2 1, 3) := by decide +kernel
theorem dX5_noteFlashes_43 : decode cX5_noteFlashes 43 = .ok (.goto (-37), 3) := by decide +kernel
theorem dX5_noteFlashes_46 : decode cX5_noteFlashes 46 = .ok (.iload_n 1, 1) := by decide +kernel
theorem dX5_noteFlashes_47 : decode cX5_noteFlashes 47 = .ok (.invokestatic 263, 3) := by decide +kernel
theorem dX5_noteFlashes_50 : decode cX5_noteFlashes 50 = .ok (.ireturn, 1) := by decide +kernel
set_option maxRecDepth 20000 in
theorem ggX5_wayAhead_X5_checkNoNoise : GoodIn wsX5_wayAhead wsX5_checkNoNoise := goodIn_ca (goodIn_r _ [12, 13, 14, 15, 65, 66, 67, 68, 69, 70, 71, 72, 73, 74, 75, 76, 77, 78, 79] (by decide +kernel) (by decide +kernel)) (goodIn_sub (fun _ h => List.mem_cons_of_mem _ (List.mem_append_left _ (List.mem_append_left _ (List.mem_append_right _ h)))) (by decide +kernel))
set_option maxRecDepth 20000 in
theorem gX5_wayAhead_X5_checkNoNoise : GoodIn wsX5_wayAhead (wsV RX5 191 RX5 yX5_checkNoNoise wsX5_checkNoNoise) := goodIn_app (goodIn_of _ (by decide +kernel)) ggX5_wayAhead_X5_checkNoNoise
set_option maxRecDepth 20000 in
theorem ggX5_wayAhead_X4_follow : GoodIn wsX5_wayAhead wsX4_follow := goodIn_ca (goodIn_ca (goodIn_r _ [19, 20, 21, 22, 23, 24, 25, 26, 27, 28, 29, 30, 31, 32, 33, 34, 35, 36, 37, 38, 39, 40, 41, 42, 43, 44, 45, 46, 47, 48, 49, 50, 51, 52, 53, 54, 55, 56, 57, 58, 59, 60, 61, 62, 17, 63, 64, 80, 81, 82, 83, 84, 85, 86, 87, 88, 89, 90, 91, 92, 93, 94, 95, 96, 97, 98, 99] (by decide +kernel) (by decide +kernel)) (goodIn_sub (fun _ h => List.mem_cons_of_mem _ (List.mem_append_left _ (List.mem_append_right _ h))) (by decide +kernel))) (goodIn_sub (fun _ h => List.mem_cons_of_mem _ (List.mem_append_right _ h)) (by decide +kernel))
set_option maxRecDepth 20000 in
theorem gX5_wayAhead_X4_follow_n323 : GoodIn wsX5_wayAhead (wsX4_follow) := ggX5_wayAhead_X4_follow
theorem dX5_wayAhead_0 : decode cX5_wayAhead 0 = .ok (.aload_n 0, 1) := by decide +kernel
theorem dX5_wayAhead_1 : decode cX5_wayAhead 1 = .ok (.invokevirtual 191, 3) := by decide +kernel
theorem dX5_wayAhead_4 : decode cX5_wayAhead 4 = .ok (.aload_n 0, 1) := by decide +kernel
theorem dX5_wayAhead_5 : decode cX5_wayAhead 5 = .ok (.getfield 47, 3) := by decide +kernel
theorem dX5_wayAhead_8 : decode cX5_wayAhead 8 = .ok (.ifCond .ne 27, 3) := by decide +kernel
theorem dX5_wayAhead_11 : decode cX5_wayAhead 11 = .ok (.aload_n 0, 1) := by decide +kernel
theorem dX5_wayAhead_12 : decode cX5_wayAhead 12 = .ok (.aload_n 0, 1) := by decide +kernel
theorem dX5_wayAhead_13 : decode cX5_wayAhead 13 = .ok (.getfield 43, 3) := by decide +kernel
theorem dX5_wayAhead_16 : decode cX5_wayAhead 16 = .ok (.aload_n 0, 1) := by decide +kernel
theorem dX5_wayAhead_17 : decode cX5_wayAhead 17 = .ok (.getfield 12, 3) := by decide +kernel
theorem dX5_wayAhead_20 : decode cX5_wayAhead 20 = .ok (.aload_n 0, 1) := by decide +kernel
theorem dX5_wayAhead_21 : decode cX5_wayAhead 21 = .ok (.getfield 19, 3) := by decide +kernel
theorem dX5_wayAhead_24 : decode cX5_wayAhead 24 = .ok (.invokevirtual 323, 3) := by decide +kernel
theorem dX5_wayAhead_27 : decode cX5_wayAhead 27 = .ok (.putfield 51, 3) := by decide +kernel
theorem dX5_wayAhead_30 : decode cX5_wayAhead 30 = .ok (.aload_n 0, 1) := by decide +kernel
theorem dX5_wayAhead_31 : decode cX5_wayAhead 31 = .ok (.iconst 1, 1) := by decide +kernel
theorem dX5_wayAhead_32 : decode cX5_wayAhead 32 = .ok (.putfield 47, 3) := by decide +kernel
theorem dX5_wayAhead_35 : decode cX5_wayAhead 35 = .ok (.aload_n 0, 1) := by decide +kernel
theorem dX5_wayAhead_36 : decode cX5_wayAhead 36 = .ok (.getfield 51, 3) := by decide +kernel
theorem dX5_wayAhead_39 : decode cX5_wayAhead 39 = .ok (.ifCond .ne 13, 3) := by decide +kernel
theorem dX5_wayAhead_42 : decode cX5_wayAhead 42 = .ok (.new 236, 3) := by decide +kernel
theorem dX5_wayAhead_45 : decode cX5_wayAhead 45 = .ok (.dup, 1) := by decide +kernel
theorem dX5_wayAhead_46 : decode cX5_wayAhead 46 = .ok (.ldc 250, 2) := by decide +kernel
theorem dX5_wayAhead_48 : decode cX5_wayAhead 48 = .ok (.invokespecial 240, 3) := by decide +kernel
theorem dX5_wayAhead_51 : decode cX5_wayAhead 51 = .ok (.athrow, 1) := by decide +kernel
theorem dX5_wayAhead_52 : decode cX5_wayAhead 52 = .ok (.aload_n 0, 1) := by decide +kernel
theorem dX5_wayAhead_53 : decode cX5_wayAhead 53 = .ok (.getfield 43, 3) := by decide +kernel
theorem dX5_wayAhead_56 : decode cX5_wayAhead 56 = .ok (.areturn, 1) := by decide +kernel
set_option maxRecDepth 20000 in
theorem ggX5_setPair_X1_takeTwo : GoodIn wsX5_setPair wsX1_takeTwo := goodIn_ca (goodIn_r _ [7, 8, 9, 10, 11, 12, 13, 14, 15, 16, 17, 18, 19, 20, 21, 22, 5, 23, 24, 25, 26, 27, 28, 29, 30, 31, 32, 33, 34, 56, 57, 58, 59, 60, 61, 62, 63, 64, 65, 66] (by decide +kernel) (by decide +kernel)) (goodIn_sub (fun _ h => List.mem_cons_of_mem _ (List.mem_append_right _ h)) (by decide +kernel))
set_option maxRecDepth 20000 in
theorem gX5_setPair_X1_takeTwo_n348 : GoodIn wsX5_setPair (wsX1_takeTwo) := ggX5_setPair_X1_takeTwo
set_option maxRecDepth 20000 in
theorem ggX5_setPair_X2_clear : GoodIn wsX5_setPair wsX2_clear := goodIn_ca (goodIn_r _ [38, 39, 40, 67, 68, 69] (by decide +kernel) (by decide +kernel)) (goodIn_sub (fun _ h => List.mem_cons_of_mem _ (List.mem_append_right _ h)) (by decide +kernel))
set_option maxRecDepth 20000 in
theorem gX5_setPair_X2_clear_n352 : GoodIn wsX5_setPair (wsX2_clear) := ggX5_setPair_X2_clear
theorem dX5_setPair_0 : decode cX5_setPair 0 = .ok (.aload_n 0, 1) := by decide +kernel
theorem dX5_setPair_1 : decode cX5_setPair 1 = .ok (.getfield 54, 3) := by decide +kernel
theorem dX5_setPair_4 : decode cX5_setPair 4 = .ok (.aload_n 0, 1) := by decide +kernel
theorem dX5_setPair_5 : decode cX5_setPair 5 = .ok (.getfield 12, 3) := by decide +kernel
theorem dX5_setPair_8 : decode cX5_setPair 8 = .ok (.iload_n 1, 1) := by decide +kernel
theorem dX5_setPair_9 : decode cX5_setPair 9 = .ok (.iload_n 2, 1) := by decide +kernel
theorem dX5_setPair_10 : decode cX5_setPair 10 = .ok (.invokevirtual 348, 3) := by decide +kernel
theorem dX5_setPair_13 : decode cX5_setPair 13 = .ok (.aload_n 0, 1) := by decide +kernel
theorem dX5_setPair_14 : decode cX5_setPair 14 = .ok (.getfield 57, 3) := by decide +kernel
theorem dX5_setPair_17 : decode cX5_setPair 17 = .ok (.invokevirtual 352, 3) := by decide +kernel
theorem dX5_setPair_20 : decode cX5_setPair 20 = .ok (.return_, 1) := by decide +kernel
set_option maxRecDepth 20000 in
theorem ggX5_followPair_X4_follow : GoodIn wsX5_followPair wsX4_follow := goodIn_ca (goodIn_ca (goodIn_r _ [13, 14, 15, 16, 17, 18, 19, 20, 21, 22, 23, 24, 25, 26, 27, 28, 29, 30, 31, 32, 33, 34, 35, 36, 37, 38, 39, 40, 41, 42, 43, 44, 5, 45, 46, 47, 48, 49, 50, 51, 52, 53, 54, 55, 11, 56, 57, 87, 88, 89, 90, 91, 92, 84, 85, 86, 73, 74, 75, 76, 77, 78, 79, 80, 81, 82, 83] (by decide +kernel) (by decide +kernel)) (goodIn_sub (fun _ h => List.mem_cons_of_mem _ (List.mem_append_left _ (List.mem_append_right _ h))) (by decide +kernel))) (goodIn_sub (fun _ h => List.mem_cons_of_mem _ (List.mem_append_right _ h)) (by decide +kernel))
set_option maxRecDepth 20000 in
theorem gX5_followPair_X4_follow_n323 : GoodIn wsX5_followPair (wsX4_follow) := ggX5_followPair_X4_follow
theorem dX5_followPair_0 : decode cX5_followPair 0 = .ok (.aload_n 0, 1) := by decide +kernel
theorem dX5_followPair_1 : decode cX5_followPair 1 = .ok (.getfield 54, 3) := by decide +kernel
theorem dX5_followPair_4 : decode cX5_followPair 4 = .ok (.getfield 111, 3) := by decide +kernel
theorem dX5_followPair_7 : decode cX5_followPair 7 = .ok (.iload_n 2, 1) := by decide +kernel
theorem dX5_followPair_8 : decode cX5_followPair 8 = .ok (.iload_n 3, 1) := by decide +kernel
theorem dX5_followPair_9 : decode cX5_followPair 9 = .ok (.iastore, 1) := by decide +kernel
theorem dX5_followPair_10 : decode cX5_followPair 10 = .ok (.aload_n 0, 1) := by decide +kernel
theorem dX5_followPair_11 : decode cX5_followPair 11 = .ok (.getfield 54, 3) := by decide +kernel
theorem dX5_followPair_14 : decode cX5_followPair 14 = .ok (.getfield 114, 3) := by decide +kernel
theorem dX5_followPair_17 : decode cX5_followPair 17 = .ok (.iload_n 2, 1) := by decide +kernel
theorem dX5_followPair_18 : decode cX5_followPair 18 = .ok (.aload_n 0, 1) := by decide +kernel
theorem dX5_followPair_19 : decode cX5_followPair 19 = .ok (.getfield 12, 3) := by decide +kernel
theorem dX5_followPair_22 : decode cX5_followPair 22 = .ok (.getfield 114, 3) := by decide +kernel
theorem dX5_followPair_25 : decode cX5_followPair 25 = .ok (.iload_n 2, 1) := by decide +kernel
theorem dX5_followPair_26 : decode cX5_followPair 26 = .ok (.iaload, 1) := by decide +kernel
theorem dX5_followPair_27 : decode cX5_followPair 27 = .ok (.iload_n 3, 1) := by decide +kernel
theorem dX5_followPair_28 : decode cX5_followPair 28 = .ok (.iconst 1, 1) := by decide +kernel
theorem dX5_followPair_29 : decode cX5_followPair 29 = .ok (.isub, 1) := by decide +kernel
theorem dX5_followPair_30 : decode cX5_followPair 30 = .ok (.invokestatic 117, 3) := by decide +kernel
theorem dX5_followPair_33 : decode cX5_followPair 33 = .ok (.iastore, 1) := by decide +kernel
theorem dX5_followPair_34 : decode cX5_followPair 34 = .ok (.aload_n 0, 1) := by decide +kernel
theorem dX5_followPair_35 : decode cX5_followPair 35 = .ok (.getfield 57, 3) := by decide +kernel
theorem dX5_followPair_38 : decode cX5_followPair 38 = .ok (.getfield 99, 3) := by decide +kernel
theorem dX5_followPair_41 : decode cX5_followPair 41 = .ok (.iload_n 1, 1) := by decide +kernel
theorem dX5_followPair_42 : decode cX5_followPair 42 = .ok (.aload_n 0, 1) := by decide +kernel
theorem dX5_followPair_43 : decode cX5_followPair 43 = .ok (.getfield 19, 3) := by decide +kernel
theorem dX5_followPair_46 : decode cX5_followPair 46 = .ok (.getfield 99, 3) := by decide +kernel
theorem dX5_followPair_49 : decode cX5_followPair 49 = .ok (.iload_n 1, 1) := by decide +kernel
theorem dX5_followPair_50 : decode cX5_followPair 50 = .ok (.iaload, 1) := by decide +kernel
theorem dX5_followPair_51 : decode cX5_followPair 51 = .ok (.iastore, 1) := by decide +kernel
theorem dX5_followPair_52 : decode cX5_followPair 52 = .ok (.aload_n 0, 1) := by decide +kernel
theorem dX5_followPair_53 : decode cX5_followPair 53 = .ok (.getfield 57, 3) := by decide +kernel
theorem dX5_followPair_56 : decode cX5_followPair 56 = .ok (.getfield 99, 3) := by decide +kernel
theorem dX5_followPair_59 : decode cX5_followPair 59 = .ok (.iload_n 2, 1) := by decide +kernel
theorem dX5_followPair_60 : decode cX5_followPair 60 = .ok (.aload_n 0, 1) := by decide +kernel
theorem dX5_followPair_61 : decode cX5_followPair 61 = .ok (.getfield 19, 3) := by decide +kernel
theorem dX5_followPair_64 : decode cX5_followPair 64 = .ok (.getfield 99, 3) := by decide +kernel
theorem dX5_followPair_67 : decode cX5_followPair 67 = .ok (.iload_n 2, 1) := by decide +kernel
theorem dX5_followPair_68 : decode cX5_followPair 68 = .ok (.iaload, 1) := by decide +kernel
theorem dX5_followPair_69 : decode cX5_followPair 69 = .ok (.iload_n 3, 1) := by decide +kernel
theorem dX5_followPair_70 : decode cX5_followPair 70 = .ok (.iconst 1, 1) := by decide +kernel
theorem dX5_followPair_71 : decode cX5_followPair 71 = .ok (.isub, 1) := by decide +kernel
theorem dX5_followPair_72 : decode cX5_followPair 72 = .ok (.invokestatic 117, 3) := by decide +kernel
theorem dX5_followPair_75 : decode cX5_followPair 75 = .ok (.iastore, 1) := by decide +kernel
theorem dX5_followPair_76 : decode cX5_followPair 76 = .ok (.aload_n 0, 1) := by decide +kernel
theorem dX5_followPair_77 : decode cX5_followPair 77 = .ok (.getfield 60, 3) := by decide +kernel
theorem dX5_followPair_80 : decode cX5_followPair 80 = .ok (.aload_n 0, 1) := by decide +kernel
theorem dX5_followPair_81 : decode cX5_followPair 81 = .ok (.getfield 54, 3) := by decide +kernel
theorem dX5_followPair_84 : decode cX5_followPair 84 = .ok (.aload_n 0, 1) := by decide +kernel
theorem dX5_followPair_85 : decode cX5_followPair 85 = .ok (.getfield 57, 3) := by decide +kernel
theorem dX5_followPair_88 : decode cX5_followPair 88 = .ok (.invokevirtual 323, 3) := by decide +kernel
theorem dX5_followPair_91 : decode cX5_followPair 91 = .ok (.ireturn, 1) := by decide +kernel
set_option maxRecDepth 20000 in
theorem ggX5_flashEquallyOften_X4_countFlashes : GoodIn wsX5_flashEquallyOften wsX4_countFlashes := goodIn_ca (goodIn_r _ [5, 6, 7, 8, 9, 3, 10, 11, 12, 28, 29, 30, 31, 32, 33] (by decide +kernel) (by decide +kernel)) (goodIn_sub (fun _ h => List.mem_cons_of_mem _ (List.mem_append_right _ h)) (by decide +kernel))
set_option maxRecDepth 20000 in
theorem gX5_flashEquallyOften_X4_countFlashes_n208 : GoodIn wsX5_flashEquallyOften (wsX4_countFlashes) := ggX5_flashEquallyOften_X4_countFlashes
theorem dX5_flashEquallyOften_0 : decode cX5_flashEquallyOften 0 = .ok (.aload_n 0, 1) := by decide +kernel
theorem dX5_flashEquallyOften_1 : decode cX5_flashEquallyOften 1 = .ok (.getfield 60, 3) := by decide +kernel
theorem dX5_flashEquallyOften_4 : decode cX5_flashEquallyOften 4 = .ok (.iload_n 1, 1) := by decide +kernel
theorem dX5_flashEquallyOften_5 : decode cX5_flashEquallyOften 5 = .ok (.invokevirtual 208, 3) := by decide +kernel
theorem dX5_flashEquallyOften_8 : decode cX5_flashEquallyOften 8 = .ok (.istore_n 3, 1) := by decide +kernel
theorem dX5_flashEquallyOften_9 : decode cX5_flashEquallyOften 9 = .ok (.iload_n 3, 1) := by decide +kernel
theorem dX5_flashEquallyOften_10 : decode cX5_flashEquallyOften 10 = .ok (.iconst 1, 1) := by decide +kernel
theorem dX5_flashEquallyOften_11 : decode cX5_flashEquallyOften 11 = .ok (.if_icmp .lt 19, 3) := by decide +kernel
theorem dX5_flashEquallyOften_14 : decode cX5_flashEquallyOften 14 = .ok (.iload_n 3, 1) := by decide +kernel
theorem dX5_flashEquallyOften_15 : decode cX5_flashEquallyOften 15 = .ok (.aload_n 0, 1) := by decide +kernel
theorem dX5_flashEquallyOften_16 : decode cX5_flashEquallyOften 16 = .ok (.getfield 60, 3) := by decide +kernel
theorem dX5_flashEquallyOften_19 : decode cX5_flashEquallyOften 19 = .ok (.iload_n 2, 1) := by decide +kernel
theorem dX5_flashEquallyOften_20 : decode cX5_flashEquallyOften 20 = .ok (.invokevirtual 208, 3) := by decide +kernel
theorem dX5_flashEquallyOften_23 : decode cX5_flashEquallyOften 23 = .ok (.if_icmp .ne 7, 3) := by decide +kernel
theorem dX5_flashEquallyOften_26 : decode cX5_flashEquallyOften 26 = .ok (.iconst 1, 1) := by decide +kernel
theorem dX5_flashEquallyOften_27 : decode cX5_flashEquallyOften 27 = .ok (.goto 4, 3) := by decide +kernel
theorem dX5_flashEquallyOften_30 : decode cX5_flashEquallyOften 30 = .ok (.iconst 0, 1) := by decide +kernel
theorem dX5_flashEquallyOften_31 : decode cX5_flashEquallyOften 31 = .ok (.ireturn, 1) := by decide +kernel
theorem dX5_pushedPhase_0 : decode cX5_pushedPhase 0 = .ok (.aload_n 0, 1) := by decide +kernel
theorem dX5_pushedPhase_1 : decode cX5_pushedPhase 1 = .ok (.getfield 19, 3) := by decide +kernel
theorem dX5_pushedPhase_4 : decode cX5_pushedPhase 4 = .ok (.getfield 99, 3) := by decide +kernel
theorem dX5_pushedPhase_7 : decode cX5_pushedPhase 7 = .ok (.aload_n 0, 1) := by decide +kernel
theorem dX5_pushedPhase_8 : decode cX5_pushedPhase 8 = .ok (.getfield 12, 3) := by decide +kernel
theorem dX5_pushedPhase_11 : decode cX5_pushedPhase 11 = .ok (.getfield 316, 3) := by decide +kernel
theorem dX5_pushedPhase_14 : decode cX5_pushedPhase 14 = .ok (.iconst 0, 1) := by decide +kernel
theorem dX5_pushedPhase_15 : decode cX5_pushedPhase 15 = .ok (.iaload, 1) := by decide +kernel
theorem dX5_pushedPhase_16 : decode cX5_pushedPhase 16 = .ok (.iaload, 1) := by decide +kernel
theorem dX5_pushedPhase_17 : decode cX5_pushedPhase 17 = .ok (.aload_n 0, 1) := by decide +kernel
theorem dX5_pushedPhase_18 : decode cX5_pushedPhase 18 = .ok (.getfield 12, 3) := by decide +kernel
theorem dX5_pushedPhase_21 : decode cX5_pushedPhase 21 = .ok (.getfield 111, 3) := by decide +kernel
theorem dX5_pushedPhase_24 : decode cX5_pushedPhase 24 = .ok (.iload_n 1, 1) := by decide +kernel
theorem dX5_pushedPhase_25 : decode cX5_pushedPhase 25 = .ok (.iaload, 1) := by decide +kernel
theorem dX5_pushedPhase_26 : decode cX5_pushedPhase 26 = .ok (.iconst 1, 1) := by decide +kernel
theorem dX5_pushedPhase_27 : decode cX5_pushedPhase 27 = .ok (.isub, 1) := by decide +kernel
theorem dX5_pushedPhase_28 : decode cX5_pushedPhase 28 = .ok (.invokestatic 117, 3) := by decide +kernel
theorem dX5_pushedPhase_31 : decode cX5_pushedPhase 31 = .ok (.ireturn, 1) := by decide +kernel
set_option maxRecDepth 20000 in
theorem ggX5_movableByPush_X5_pushedPhase : GoodIn wsX5_movableByPush wsX5_pushedPhase := goodIn_ca (goodIn_r _ [7, 2, 1, 8, 9, 10, 11, 12, 13, 14, 15, 16, 17, 18, 19, 20, 21, 22, 23, 24, 25, 26, 38, 39, 40, 27, 28, 29, 30, 31, 32, 33, 34, 35, 36, 37] (by decide +kernel) (by decide +kernel)) (goodIn_sub (fun _ h => List.mem_cons_of_mem _ (List.mem_append_right _ h)) (by decide +kernel))
set_option maxRecDepth 20000 in
theorem gX5_movableByPush_X5_pushedPhase : GoodIn wsX5_movableByPush (wsV RX5 355 RX5 yX5_pushedPhase wsX5_pushedPhase) := goodIn_app (goodIn_of _ (by decide +kernel)) ggX5_movableByPush_X5_pushedPhase
theorem dX5_movableByPush_0 : decode cX5_movableByPush 0 = .ok (.iconst 0, 1) := by decide +kernel
theorem dX5_movableByPush_1 : decode cX5_movableByPush 1 = .ok (.istore_n 1, 1) := by decide +kernel
theorem dX5_movableByPush_2 : decode cX5_movableByPush 2 = .ok (.iconst 0, 1) := by decide +kernel
theorem dX5_movableByPush_3 : decode cX5_movableByPush 3 = .ok (.istore_n 2, 1) := by decide +kernel
theorem dX5_movableByPush_4 : decode cX5_movableByPush 4 = .ok (.iload_n 2, 1) := by decide +kernel
theorem dX5_movableByPush_5 : decode cX5_movableByPush 5 = .ok (.aload_n 0, 1) := by decide +kernel
theorem dX5_movableByPush_6 : decode cX5_movableByPush 6 = .ok (.getfield 12, 3) := by decide +kernel
theorem dX5_movableByPush_9 : decode cX5_movableByPush 9 = .ok (.getfield 157, 3) := by decide +kernel
theorem dX5_movableByPush_12 : decode cX5_movableByPush 12 = .ok (.if_icmp .ge 42, 3) := by decide +kernel
theorem dX5_movableByPush_15 : decode cX5_movableByPush 15 = .ok (.aload_n 0, 1) := by decide +kernel
theorem dX5_movableByPush_16 : decode cX5_movableByPush 16 = .ok (.getfield 12, 3) := by decide +kernel
theorem dX5_movableByPush_19 : decode cX5_movableByPush 19 = .ok (.getfield 316, 3) := by decide +kernel
theorem dX5_movableByPush_22 : decode cX5_movableByPush 22 = .ok (.iload_n 2, 1) := by decide +kernel
theorem dX5_movableByPush_23 : decode cX5_movableByPush 23 = .ok (.iaload, 1) := by decide +kernel
theorem dX5_movableByPush_24 : decode cX5_movableByPush 24 = .ok (.istore_n 3, 1) := by decide +kernel
theorem dX5_movableByPush_25 : decode cX5_movableByPush 25 = .ok (.aload_n 0, 1) := by decide +kernel
theorem dX5_movableByPush_26 : decode cX5_movableByPush 26 = .ok (.iload_n 3, 1) := by decide +kernel
theorem dX5_movableByPush_27 : decode cX5_movableByPush 27 = .ok (.invokevirtual 355, 3) := by decide +kernel
theorem dX5_movableByPush_30 : decode cX5_movableByPush 30 = .ok (.aload_n 0, 1) := by decide +kernel
theorem dX5_movableByPush_31 : decode cX5_movableByPush 31 = .ok (.getfield 19, 3) := by decide +kernel
theorem dX5_movableByPush_34 : decode cX5_movableByPush 34 = .ok (.getfield 99, 3) := by decide +kernel
theorem dX5_movableByPush_37 : decode cX5_movableByPush 37 = .ok (.iload_n 3, 1) := by decide +kernel
theorem dX5_movableByPush_38 : decode cX5_movableByPush 38 = .ok (.iaload, 1) := by decide +kernel
theorem dX5_movableByPush_39 : decode cX5_movableByPush 39 = .ok (.if_icmp .eq 9, 3) := by decide +kernel
theorem dX5_movableByPush_42 : decode cX5_movableByPush 42 = .ok (.iload_n 1, 1) := by decide +kernel
theorem dX5_movableByPush_43 : decode cX5_movableByPush 43 = .ok (.iconst 1, 1) := by decide +kernel
theorem dX5_movableByPush_44 : decode cX5_movableByPush 44 = .ok (.iload_n 3, 1) := by decide +kernel
theorem dX5_movableByPush_45 : decode cX5_movableByPush 45 = .ok (.ishl, 1) := by decide +kernel
theorem dX5_movableByPush_46 : decode cX5_movableByPush 46 = .ok (.ior, 1) := by decide +kernel
theorem dX5_movableByPush_47 : decode cX5_movableByPush 47 = .ok (.istore_n 1, 1) := by decide +kernel
theorem dX5_movableByPush_48 : decode cX5_movableByPush 48 = .ok (.iinc 2 1, 3) := by decide +kernel
theorem dX5_movableByPush_51 : decode cX5_movableByPush 51 = .ok (.goto (-47), 3) := by decide +kernel
theorem dX5_movableByPush_54 : decode cX5_movableByPush 54 = .ok (.iload_n 1, 1) := by decide +kernel
theorem dX5_movableByPush_55 : decode cX5_movableByPush 55 = .ok (.ireturn, 1) := by decide +kernel
set_option maxRecDepth 20000 in
theorem ggX5_firstInStepSet_J6_bitCount_0f7a4 : GoodIn wsX5_firstInStepSet wsJ6_bitCount_0f7a4 := goodIn_r _ [4, 5, 6, 7] (by decide +kernel) (by decide +kernel)
set_option maxRecDepth 20000 in
theorem gX5_firstInStepSet_J6_bitCount_0f7a4 : GoodIn wsX5_firstInStepSet (va_wsS RX5 263 yJ6_bitCount_0f7a4 wsJ6_bitCount_0f7a4) := goodIn_app (goodIn_of _ (by decide +kernel)) ggX5_firstInStepSet_J6_bitCount_0f7a4
set_option maxRecDepth 20000 in
theorem ggX5_firstInStepSet_X5_bringsInStep : GoodIn wsX5_firstInStepSet wsX5_bringsInStep := goodIn_ca (goodIn_ca (goodIn_r _ [12, 13, 14, 15, 16, 17, 18, 19, 20, 21, 22, 23, 24, 25, 26, 27, 28, 29, 30, 11, 31, 32, 33, 34, 35, 36, 37, 38, 39, 40, 41, 42, 43, 44, 45, 46, 47, 48, 49, 50, 51, 52, 53, 54, 55, 56, 57, 58, 59, 60, 61, 62, 63, 64, 65, 66, 67, 68, 69, 70, 71, 72, 73, 74, 75, 76, 77, 78, 79, 80, 81, 82, 83, 84, 85, 86, 87, 88, 89, 90, 91, 92, 93, 94, 95, 96, 97, 98, 99, 100, 101, 102, 103, 104, 105, 106, 107, 108, 109, 110, 111, 112, 113, 114] (by decide +kernel) (by decide +kernel)) (goodIn_sub (fun _ h => List.mem_cons_of_mem _ (List.mem_append_left _ (List.mem_append_right _ h))) (by decide +kernel))) (goodIn_sub (fun _ h => List.mem_cons_of_mem _ (List.mem_append_right _ h)) (by decide +kernel))
set_option maxRecDepth 20000 in
theorem gX5_firstInStepSet_X5_bringsInStep : GoodIn wsX5_firstInStepSet (wsV RX5 358 RX5 yX5_bringsInStep wsX5_bringsInStep) := goodIn_app (goodIn_of _ (by decide +kernel)) ggX5_firstInStepSet_X5_bringsInStep
theorem dX5_firstInStepSet_0 : decode cX5_firstInStepSet 0 = .ok (.iconst 0, 1) := by decide +kernel
theorem dX5_firstInStepSet_1 : decode cX5_firstInStepSet 1 = .ok (.istore_n 3, 1) := by decide +kernel
theorem dX5_firstInStepSet_2 : decode cX5_firstInStepSet 2 = .ok (.iconst 0, 1) := by decide +kernel
theorem dX5_firstInStepSet_3 : decode cX5_firstInStepSet 3 = .ok (.istore 4, 2) := by decide +kernel
theorem dX5_firstInStepSet_5 : decode cX5_firstInStepSet 5 = .ok (.iload 4, 2) := by decide +kernel
theorem dX5_firstInStepSet_7 : decode cX5_firstInStepSet 7 = .ok (.iconst 1, 1) := by decide +kernel
theorem dX5_firstInStepSet_8 : decode cX5_firstInStepSet 8 = .ok (.iload_n 1, 1) := by decide +kernel
theorem dX5_firstInStepSet_9 : decode cX5_firstInStepSet 9 = .ok (.invokestatic 263, 3) := by decide +kernel
theorem dX5_firstInStepSet_12 : decode cX5_firstInStepSet 12 = .ok (.ishl, 1) := by decide +kernel
theorem dX5_firstInStepSet_13 : decode cX5_firstInStepSet 13 = .ok (.if_icmp .ge 33, 3) := by decide +kernel
theorem dX5_firstInStepSet_16 : decode cX5_firstInStepSet 16 = .ok (.iload_n 3, 1) := by decide +kernel
theorem dX5_firstInStepSet_17 : decode cX5_firstInStepSet 17 = .ok (.invokestatic 263, 3) := by decide +kernel
theorem dX5_firstInStepSet_20 : decode cX5_firstInStepSet 20 = .ok (.iload_n 2, 1) := by decide +kernel
theorem dX5_firstInStepSet_21 : decode cX5_firstInStepSet 21 = .ok (.if_icmp .ne 13, 3) := by decide +kernel
theorem dX5_firstInStepSet_24 : decode cX5_firstInStepSet 24 = .ok (.aload_n 0, 1) := by decide +kernel
theorem dX5_firstInStepSet_25 : decode cX5_firstInStepSet 25 = .ok (.iload_n 3, 1) := by decide +kernel
theorem dX5_firstInStepSet_26 : decode cX5_firstInStepSet 26 = .ok (.invokevirtual 358, 3) := by decide +kernel
theorem dX5_firstInStepSet_29 : decode cX5_firstInStepSet 29 = .ok (.ifCond .eq 5, 3) := by decide +kernel
theorem dX5_firstInStepSet_32 : decode cX5_firstInStepSet 32 = .ok (.iload_n 3, 1) := by decide +kernel
theorem dX5_firstInStepSet_33 : decode cX5_firstInStepSet 33 = .ok (.ireturn, 1) := by decide +kernel
theorem dX5_firstInStepSet_34 : decode cX5_firstInStepSet 34 = .ok (.iload_n 3, 1) := by decide +kernel
theorem dX5_firstInStepSet_35 : decode cX5_firstInStepSet 35 = .ok (.iload_n 1, 1) := by decide +kernel
theorem dX5_firstInStepSet_36 : decode cX5_firstInStepSet 36 = .ok (.isub, 1) := by decide +kernel
theorem dX5_firstInStepSet_37 : decode cX5_firstInStepSet 37 = .ok (.iload_n 1, 1) := by decide +kernel
theorem dX5_firstInStepSet_38 : decode cX5_firstInStepSet 38 = .ok (.iand, 1) := by decide +kernel
theorem dX5_firstInStepSet_39 : decode cX5_firstInStepSet 39 = .ok (.istore_n 3, 1) := by decide +kernel
theorem dX5_firstInStepSet_40 : decode cX5_firstInStepSet 40 = .ok (.iinc 4 1, 3) := by decide +kernel
theorem dX5_firstInStepSet_43 : decode cX5_firstInStepSet 43 = .ok (.goto (-38), 3) := by decide +kernel
theorem dX5_firstInStepSet_46 : decode cX5_firstInStepSet 46 = .ok (.iconst (-1), 1) := by decide +kernel
theorem dX5_firstInStepSet_47 : decode cX5_firstInStepSet 47 = .ok (.ireturn, 1) := by decide +kernel
set_option maxRecDepth 20000 in
theorem ggX5_bringsInStep_X2_copy : GoodIn wsX5_bringsInStep wsX2_copy := goodIn_r _ [8, 9, 10, 11, 12, 13, 14, 15, 84, 85, 86] (by decide +kernel) (by decide +kernel)
set_option maxRecDepth 20000 in
theorem gX5_bringsInStep_X2_copy_n194 : GoodIn wsX5_bringsInStep (wsX2_copy) := ggX5_bringsInStep_X2_copy
set_option maxRecDepth 20000 in
theorem ggX5_bringsInStep_X5_pushedPhase : GoodIn wsX5_bringsInStep wsX5_pushedPhase := goodIn_ca (goodIn_r _ [20, 2, 4, 21, 22, 23, 24, 69, 70, 71, 72, 73, 74, 75, 76, 77, 78, 79, 80, 81, 82, 83, 84, 85, 86, 87, 88, 89, 90, 91, 92, 93, 94, 95, 96, 97] (by decide +kernel) (by decide +kernel)) (goodIn_sub (fun _ h => List.mem_cons_of_mem _ (List.mem_append_left _ (List.mem_append_right _ h))) (by decide +kernel))
set_option maxRecDepth 20000 in
theorem gX5_bringsInStep_X5_pushedPhase : GoodIn wsX5_bringsInStep (wsV RX5 355 RX5 yX5_pushedPhase wsX5_pushedPhase) := goodIn_app (goodIn_of _ (by decide +kernel)) ggX5_bringsInStep_X5_pushedPhase
set_option maxRecDepth 20000 in
theorem ggX5_bringsInStep_X4_follow : GoodIn wsX5_bringsInStep wsX4_follow := goodIn_ca (goodIn_ca (goodIn_r _ [28, 29, 30, 31, 32, 5, 6, 7, 8, 9, 10, 11, 12, 13, 14, 15, 33, 34, 35, 36, 37, 38, 39, 40, 41, 42, 43, 44, 45, 46, 47, 48, 23, 49, 50, 51, 52, 53, 54, 55, 56, 57, 58, 59, 26, 60, 61, 98, 99, 100, 101, 102, 103, 84, 85, 86, 87, 88, 89, 90, 91, 92, 93, 94, 95, 96, 97] (by decide +kernel) (by decide +kernel)) (goodIn_sub (fun _ h => List.mem_cons_of_mem _ (List.mem_append_left _ (List.mem_append_right _ h))) (by decide +kernel))) (goodIn_sub (fun _ h => List.mem_cons_of_mem _ (List.mem_append_right _ h)) (by decide +kernel))
set_option maxRecDepth 20000 in
theorem gX5_bringsInStep_X4_follow_n323 : GoodIn wsX5_bringsInStep (wsX4_follow) := ggX5_bringsInStep_X4_follow
set_option maxRecDepth 20000 in
theorem ggX5_bringsInStep_X4_allInStep : GoodIn wsX5_bringsInStep wsX4_allInStep := goodIn_ca (goodIn_r _ [64, 32, 65, 66, 67, 26, 68, 61, 31, 98, 99, 100, 101, 102, 103, 87, 88, 89, 90, 91, 92, 93, 94, 95, 96, 97] (by decide +kernel) (by decide +kernel)) (goodIn_sub (fun _ h => List.mem_cons_of_mem _ (List.mem_append_left _ (List.mem_append_right _ h))) (by decide +kernel))
set_option maxRecDepth 20000 in
theorem gX5_bringsInStep_X4_allInStep_n361 : GoodIn wsX5_bringsInStep (wsX4_allInStep) := ggX5_bringsInStep_X4_allInStep
theorem dX5_bringsInStep_0 : decode cX5_bringsInStep 0 = .ok (.aload_n 0, 1) := by decide +kernel
theorem dX5_bringsInStep_1 : decode cX5_bringsInStep 1 = .ok (.getfield 57, 3) := by decide +kernel
theorem dX5_bringsInStep_4 : decode cX5_bringsInStep 4 = .ok (.aload_n 0, 1) := by decide +kernel
theorem dX5_bringsInStep_5 : decode cX5_bringsInStep 5 = .ok (.getfield 19, 3) := by decide +kernel
theorem dX5_bringsInStep_8 : decode cX5_bringsInStep 8 = .ok (.invokevirtual 194, 3) := by decide +kernel
theorem dX5_bringsInStep_11 : decode cX5_bringsInStep 11 = .ok (.iconst 0, 1) := by decide +kernel
theorem dX5_bringsInStep_12 : decode cX5_bringsInStep 12 = .ok (.istore_n 2, 1) := by decide +kernel
theorem dX5_bringsInStep_13 : decode cX5_bringsInStep 13 = .ok (.iload_n 2, 1) := by decide +kernel
theorem dX5_bringsInStep_14 : decode cX5_bringsInStep 14 = .ok (.bipush 16, 2) := by decide +kernel
theorem dX5_bringsInStep_16 : decode cX5_bringsInStep 16 = .ok (.if_icmp .ge 31, 3) := by decide +kernel
theorem dX5_bringsInStep_19 : decode cX5_bringsInStep 19 = .ok (.iload_n 1, 1) := by decide +kernel
theorem dX5_bringsInStep_20 : decode cX5_bringsInStep 20 = .ok (.iload_n 2, 1) := by decide +kernel
theorem dX5_bringsInStep_21 : decode cX5_bringsInStep 21 = .ok (.ishr, 1) := by decide +kernel
theorem dX5_bringsInStep_22 : decode cX5_bringsInStep 22 = .ok (.iconst 1, 1) := by decide +kernel
theorem dX5_bringsInStep_23 : decode cX5_bringsInStep 23 = .ok (.iand, 1) := by decide +kernel
theorem dX5_bringsInStep_24 : decode cX5_bringsInStep 24 = .ok (.ifCond .eq 17, 3) := by decide +kernel
theorem dX5_bringsInStep_27 : decode cX5_bringsInStep 27 = .ok (.aload_n 0, 1) := by decide +kernel
theorem dX5_bringsInStep_28 : decode cX5_bringsInStep 28 = .ok (.getfield 57, 3) := by decide +kernel
theorem dX5_bringsInStep_31 : decode cX5_bringsInStep 31 = .ok (.getfield 99, 3) := by decide +kernel
theorem dX5_bringsInStep_34 : decode cX5_bringsInStep 34 = .ok (.iload_n 2, 1) := by decide +kernel
theorem dX5_bringsInStep_35 : decode cX5_bringsInStep 35 = .ok (.aload_n 0, 1) := by decide +kernel
theorem dX5_bringsInStep_36 : decode cX5_bringsInStep 36 = .ok (.iload_n 2, 1) := by decide +kernel
theorem dX5_bringsInStep_37 : decode cX5_bringsInStep 37 = .ok (.invokevirtual 355, 3) := by decide +kernel
theorem dX5_bringsInStep_40 : decode cX5_bringsInStep 40 = .ok (.iastore, 1) := by decide +kernel
theorem dX5_bringsInStep_41 : decode cX5_bringsInStep 41 = .ok (.iinc 2 1, 3) := by decide +kernel
theorem dX5_bringsInStep_44 : decode cX5_bringsInStep 44 = .ok (.goto (-31), 3) := by decide +kernel
theorem dX5_bringsInStep_47 : decode cX5_bringsInStep 47 = .ok (.aload_n 0, 1) := by decide +kernel
theorem dX5_bringsInStep_48 : decode cX5_bringsInStep 48 = .ok (.getfield 60, 3) := by decide +kernel
theorem dX5_bringsInStep_51 : decode cX5_bringsInStep 51 = .ok (.aload_n 0, 1) := by decide +kernel
theorem dX5_bringsInStep_52 : decode cX5_bringsInStep 52 = .ok (.getfield 12, 3) := by decide +kernel
theorem dX5_bringsInStep_55 : decode cX5_bringsInStep 55 = .ok (.aload_n 0, 1) := by decide +kernel
theorem dX5_bringsInStep_56 : decode cX5_bringsInStep 56 = .ok (.getfield 57, 3) := by decide +kernel
theorem dX5_bringsInStep_59 : decode cX5_bringsInStep 59 = .ok (.invokevirtual 323, 3) := by decide +kernel
theorem dX5_bringsInStep_62 : decode cX5_bringsInStep 62 = .ok (.ifCond .eq 21, 3) := by decide +kernel
theorem dX5_bringsInStep_65 : decode cX5_bringsInStep 65 = .ok (.aload_n 0, 1) := by decide +kernel
theorem dX5_bringsInStep_66 : decode cX5_bringsInStep 66 = .ok (.getfield 60, 3) := by decide +kernel
theorem dX5_bringsInStep_69 : decode cX5_bringsInStep 69 = .ok (.aload_n 0, 1) := by decide +kernel
theorem dX5_bringsInStep_70 : decode cX5_bringsInStep 70 = .ok (.getfield 12, 3) := by decide +kernel
theorem dX5_bringsInStep_73 : decode cX5_bringsInStep 73 = .ok (.invokevirtual 361, 3) := by decide +kernel
theorem dX5_bringsInStep_76 : decode cX5_bringsInStep 76 = .ok (.ifCond .eq 7, 3) := by decide +kernel
theorem dX5_bringsInStep_79 : decode cX5_bringsInStep 79 = .ok (.iconst 1, 1) := by decide +kernel
theorem dX5_bringsInStep_80 : decode cX5_bringsInStep 80 = .ok (.goto 4, 3) := by decide +kernel
theorem dX5_bringsInStep_83 : decode cX5_bringsInStep 83 = .ok (.iconst 0, 1) := by decide +kernel
theorem dX5_bringsInStep_84 : decode cX5_bringsInStep 84 = .ok (.ireturn, 1) := by decide +kernel
