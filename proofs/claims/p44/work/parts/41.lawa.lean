theorem dL_at_0 : decode cL_at 0 = .ok (.iload_n 1, 1) := by decide +kernel
theorem dL_at_1 : decode cL_at 1 = .ok (.aload_n 0, 1) := by decide +kernel
theorem dL_at_2 : decode cL_at 2 = .ok (.arraylength, 1) := by decide +kernel
theorem dL_at_3 : decode cL_at 3 = .ok (.if_icmp .ge 9, 3) := by decide +kernel
theorem dL_at_6 : decode cL_at 6 = .ok (.aload_n 0, 1) := by decide +kernel
theorem dL_at_7 : decode cL_at 7 = .ok (.iload_n 1, 1) := by decide +kernel
theorem dL_at_8 : decode cL_at 8 = .ok (.iaload, 1) := by decide +kernel
theorem dL_at_9 : decode cL_at 9 = .ok (.goto 4, 3) := by decide +kernel
theorem dL_at_12 : decode cL_at 12 = .ok (.iconst 0, 1) := by decide +kernel
theorem dL_at_13 : decode cL_at 13 = .ok (.ireturn, 1) := by decide +kernel
theorem dL_some_0 : decode cL_some 0 = .ok (.iload_n 0, 1) := by decide +kernel
theorem dL_some_1 : decode cL_some 1 = .ok (.iload_n 1, 1) := by decide +kernel
theorem dL_some_2 : decode cL_some 2 = .ok (.irem, 1) := by decide +kernel
theorem dL_some_3 : decode cL_some 3 = .ok (.istore_n 2, 1) := by decide +kernel
theorem dL_some_4 : decode cL_some 4 = .ok (.iload_n 2, 1) := by decide +kernel
theorem dL_some_5 : decode cL_some 5 = .ok (.ifCond .ge 9, 3) := by decide +kernel
theorem dL_some_8 : decode cL_some 8 = .ok (.iload_n 2, 1) := by decide +kernel
theorem dL_some_9 : decode cL_some 9 = .ok (.iload_n 1, 1) := by decide +kernel
theorem dL_some_10 : decode cL_some 10 = .ok (.iadd, 1) := by decide +kernel
theorem dL_some_11 : decode cL_some 11 = .ok (.goto 4, 3) := by decide +kernel
theorem dL_some_14 : decode cL_some 14 = .ok (.iload_n 2, 1) := by decide +kernel
theorem dL_some_15 : decode cL_some 15 = .ok (.ireturn, 1) := by decide +kernel
set_option maxRecDepth 20000 in
theorem ggL_ask_X5_beater : GoodIn wsL_ask wsX5_beater := goodIn_ca (goodIn_ca (goodIn_ca (goodIn_ca (goodIn_r _ [17, 18, 19, 20, 21, 22, 23, 24, 25, 26, 16, 27, 28, 29, 30, 31, 32, 33, 34, 35, 36, 37, 38, 39, 40, 41, 42, 43, 44, 45, 46, 47, 48, 49, 50, 51, 452, 453, 454, 455, 456, 457, 458, 459, 460, 461, 462, 463, 464, 465, 466, 467, 468, 469, 470, 471, 472, 473, 474, 475, 476, 477, 478, 479, 480] (by decide +kernel) (by decide +kernel)) (goodIn_sub (fun _ h => List.mem_cons_of_mem _ (List.mem_append_left _ (List.mem_append_left _ (List.mem_append_left _ (List.mem_append_left _ (List.mem_append_left _ (List.mem_append_left _ (List.mem_append_right _ h)))))))) (by decide +kernel))) (goodIn_sub (fun _ h => List.mem_cons_of_mem _ (List.mem_append_left _ (List.mem_append_left _ (List.mem_append_left _ (List.mem_append_left _ (List.mem_append_left _ (List.mem_append_left _ (List.mem_append_left _ (List.mem_append_right _ h))))))))) (by decide +kernel))) (goodIn_sub (fun _ h => List.mem_cons_of_mem _ (List.mem_append_left _ (List.mem_append_left _ (List.mem_append_left _ (List.mem_append_left _ (List.mem_append_left _ (List.mem_append_right _ h))))))) (by decide +kernel))) (goodIn_sub (fun _ h => List.mem_cons_of_mem _ (List.mem_append_left _ (List.mem_append_left _ (List.mem_append_left _ (List.mem_append_left _ (List.mem_append_right _ h)))))) (by decide +kernel))
set_option maxRecDepth 20000 in
theorem gL_ask_X5_beater : GoodIn wsL_ask (wsV RL 7 RX5 yX5_beater wsX5_beater) := goodIn_app (goodIn_of _ (by decide +kernel)) ggL_ask_X5_beater
set_option maxRecDepth 20000 in
theorem ggL_ask_X5_swing : GoodIn wsL_ask wsX5_swing := goodIn_ca (goodIn_ca (goodIn_ca (goodIn_ca (goodIn_r _ [55, 18, 19, 56, 57, 25, 26, 16, 27, 28, 29, 30, 31, 32, 33, 34, 58, 59, 60, 61, 62, 63, 64, 452, 453, 454, 455, 456, 457, 458, 459, 460, 461, 462, 463, 464, 465, 466, 481, 482, 483, 484, 485] (by decide +kernel) (by decide +kernel)) (goodIn_sub (fun _ h => List.mem_cons_of_mem _ (List.mem_append_left _ (List.mem_append_left _ (List.mem_append_left _ (List.mem_append_left _ (List.mem_append_left _ (List.mem_append_left _ (List.mem_append_right _ h)))))))) (by decide +kernel))) (goodIn_sub (fun _ h => List.mem_cons_of_mem _ (List.mem_append_left _ (List.mem_append_left _ (List.mem_append_left _ (List.mem_append_left _ (List.mem_append_left _ (List.mem_append_right _ h))))))) (by decide +kernel))) (goodIn_sub (fun _ h => List.mem_cons_of_mem _ (List.mem_append_left _ (List.mem_append_left _ (List.mem_append_left _ (List.mem_append_left _ (List.mem_append_right _ h)))))) (by decide +kernel))) (goodIn_sub (fun _ h => List.mem_cons_of_mem _ (List.mem_append_left _ (List.mem_append_left _ (List.mem_append_left _ (List.mem_append_left _ (List.mem_append_left _ (List.mem_append_left _ (List.mem_append_left _ (List.mem_append_right _ h))))))))) (by decide +kernel))
set_option maxRecDepth 20000 in
theorem gL_ask_X5_swing : GoodIn wsL_ask (wsV RL 13 RX5 yX5_swing wsX5_swing) := goodIn_app (goodIn_of _ (by decide +kernel)) ggL_ask_X5_swing
set_option maxRecDepth 20000 in
theorem ggL_ask_X5_phase : GoodIn wsL_ask wsX5_phase := goodIn_ca (goodIn_ca (goodIn_ca (goodIn_r _ [68, 21, 69, 70, 71, 16, 72, 73, 74, 20, 25, 26, 27, 28, 29, 35, 36, 37, 38, 39, 452, 453, 454, 455, 456, 457, 458, 459, 460, 461, 462, 463, 464, 465, 466, 467, 468, 469, 470, 471, 472, 473, 474, 475, 476, 477, 478, 479, 480] (by decide +kernel) (by decide +kernel)) (goodIn_sub (fun _ h => List.mem_cons_of_mem _ (List.mem_append_left _ (List.mem_append_left _ (List.mem_append_left _ (List.mem_append_left _ (List.mem_append_left _ (List.mem_append_left _ (List.mem_append_left _ (List.mem_append_right _ h))))))))) (by decide +kernel))) (goodIn_sub (fun _ h => List.mem_cons_of_mem _ (List.mem_append_left _ (List.mem_append_left _ (List.mem_append_left _ (List.mem_append_right _ h))))) (by decide +kernel))) (goodIn_sub (fun _ h => List.mem_cons_of_mem _ (List.mem_append_left _ (List.mem_append_left _ (List.mem_append_left _ (List.mem_append_left _ (List.mem_append_left _ (List.mem_append_right _ h))))))) (by decide +kernel))
set_option maxRecDepth 20000 in
theorem gL_ask_X5_phase : GoodIn wsL_ask (wsV RL 17 RX5 yX5_phase wsX5_phase) := goodIn_app (goodIn_of _ (by decide +kernel)) ggL_ask_X5_phase
set_option maxRecDepth 20000 in
theorem ggL_ask_X5_period : GoodIn wsL_ask wsX5_period := goodIn_ca (goodIn_ca (goodIn_ca (goodIn_ca (goodIn_r _ [78, 20, 79, 80, 81, 82, 21, 24, 25, 26, 16, 27, 28, 29, 30, 31, 32, 33, 34, 69, 70, 71, 72, 73, 74, 35, 36, 37, 38, 39, 452, 453, 454, 455, 456, 457, 458, 459, 460, 461, 462, 463, 464, 465, 466, 470, 471, 472, 473, 474, 475, 476, 477, 478, 479, 480, 467, 468, 469] (by decide +kernel) (by decide +kernel)) (goodIn_sub (fun _ h => List.mem_cons_of_mem _ (List.mem_append_left _ (List.mem_append_left _ (List.mem_append_left _ (List.mem_append_left _ (List.mem_append_left _ (List.mem_append_left _ (List.mem_append_left _ (List.mem_append_right _ h))))))))) (by decide +kernel))) (goodIn_sub (fun _ h => List.mem_cons_of_mem _ (List.mem_append_left _ (List.mem_append_left _ (List.mem_append_left _ (List.mem_append_left _ (List.mem_append_left _ (List.mem_append_right _ h))))))) (by decide +kernel))) (goodIn_sub (fun _ h => List.mem_cons_of_mem _ (List.mem_append_left _ (List.mem_append_left _ (List.mem_append_left _ (List.mem_append_left _ (List.mem_append_right _ h)))))) (by decide +kernel))) (goodIn_sub (fun _ h => List.mem_cons_of_mem _ (List.mem_append_left _ (List.mem_append_left _ (List.mem_append_left _ (List.mem_append_right _ h))))) (by decide +kernel))
set_option maxRecDepth 20000 in
theorem gL_ask_X5_period : GoodIn wsL_ask (wsV RL 21 RX5 yX5_period wsX5_period) := goodIn_app (goodIn_of _ (by decide +kernel)) ggL_ask_X5_period
set_option maxRecDepth 20000 in
theorem ggL_ask_X5_answer : GoodIn wsL_ask wsX5_answer := goodIn_ca (goodIn_ca (goodIn_ca (goodIn_ca (goodIn_r _ [86, 20, 24, 25, 26, 16, 27, 28, 29, 30, 31, 32, 33, 34, 69, 70, 71, 72, 73, 74, 35, 36, 37, 38, 39, 452, 453, 454, 455, 456, 457, 458, 459, 460, 461, 462, 463, 464, 465, 466, 470, 471, 472, 473, 474, 475, 476, 477, 478, 479, 480] (by decide +kernel) (by decide +kernel)) (goodIn_sub (fun _ h => List.mem_cons_of_mem _ (List.mem_append_left _ (List.mem_append_left _ (List.mem_append_left _ (List.mem_append_left _ (List.mem_append_left _ (List.mem_append_left _ (List.mem_append_left _ (List.mem_append_right _ h))))))))) (by decide +kernel))) (goodIn_sub (fun _ h => List.mem_cons_of_mem _ (List.mem_append_left _ (List.mem_append_left _ (List.mem_append_left _ (List.mem_append_left _ (List.mem_append_left _ (List.mem_append_right _ h))))))) (by decide +kernel))) (goodIn_sub (fun _ h => List.mem_cons_of_mem _ (List.mem_append_left _ (List.mem_append_left _ (List.mem_append_left _ (List.mem_append_left _ (List.mem_append_right _ h)))))) (by decide +kernel))) (goodIn_sub (fun _ h => List.mem_cons_of_mem _ (List.mem_append_left _ (List.mem_append_left _ (List.mem_append_left _ (List.mem_append_right _ h))))) (by decide +kernel))
set_option maxRecDepth 20000 in
theorem gL_ask_X5_answer : GoodIn wsL_ask (wsV RL 25 RX5 yX5_answer wsX5_answer) := goodIn_app (goodIn_of _ (by decide +kernel)) ggL_ask_X5_answer
set_option maxRecDepth 20000 in
theorem ggL_ask_X5_link : GoodIn wsL_ask wsX5_link := goodIn_ca (goodIn_ca (goodIn_ca (goodIn_ca (goodIn_r _ [90, 28, 29, 91, 92, 20, 24, 93, 94, 16, 95, 33, 34, 30, 31, 32, 96, 36, 97, 98, 99, 100, 101, 102, 103, 452, 453, 454, 455, 456, 457, 458, 459, 460, 461, 462, 463, 464, 465, 466, 470, 471, 472, 473, 474, 475, 476, 477, 478, 479, 480] (by decide +kernel) (by decide +kernel)) (goodIn_sub (fun _ h => List.mem_cons_of_mem _ (List.mem_append_left _ (List.mem_append_left _ (List.mem_append_left _ (List.mem_append_left _ (List.mem_append_left _ (List.mem_append_right _ h))))))) (by decide +kernel))) (goodIn_sub (fun _ h => List.mem_cons_of_mem _ (List.mem_append_left _ (List.mem_append_left _ (List.mem_append_right _ h)))) (by decide +kernel))) (goodIn_sub (fun _ h => List.mem_cons_of_mem _ (List.mem_append_left _ (List.mem_append_left _ (List.mem_append_left _ (List.mem_append_left _ (List.mem_append_right _ h)))))) (by decide +kernel))) (goodIn_sub (fun _ h => List.mem_cons_of_mem _ (List.mem_append_left _ (List.mem_append_left _ (List.mem_append_left _ (List.mem_append_left _ (List.mem_append_left _ (List.mem_append_left _ (List.mem_append_left _ (List.mem_append_right _ h))))))))) (by decide +kernel))
set_option maxRecDepth 20000 in
theorem gL_ask_X5_link : GoodIn wsL_ask (wsV RL 29 RX5 yX5_link wsX5_link) := goodIn_app (goodIn_of _ (by decide +kernel)) ggL_ask_X5_link
set_option maxRecDepth 20000 in
theorem ggL_ask_X5_cut : GoodIn wsL_ask wsX5_cut := goodIn_ca (goodIn_ca (goodIn_r _ [107, 28, 29, 20, 24, 108, 36, 109, 110, 99, 100, 101, 102, 103, 452, 453, 454, 455, 456, 457, 458, 459, 460, 461, 462, 463, 464, 465, 466, 470, 471, 472, 473, 474, 475, 476, 477, 478, 479, 480] (by decide +kernel) (by decide +kernel)) (goodIn_sub (fun _ h => List.mem_cons_of_mem _ (List.mem_append_left _ (List.mem_append_left _ (List.mem_append_left _ (List.mem_append_left _ (List.mem_append_left _ (List.mem_append_right _ h))))))) (by decide +kernel))) (goodIn_sub (fun _ h => List.mem_cons_of_mem _ (List.mem_append_left _ (List.mem_append_left _ (List.mem_append_left _ (List.mem_append_left _ (List.mem_append_left _ (List.mem_append_left _ (List.mem_append_left _ (List.mem_append_right _ h))))))))) (by decide +kernel))
set_option maxRecDepth 20000 in
theorem gL_ask_X5_cut : GoodIn wsL_ask (wsV RL 33 RX5 yX5_cut wsX5_cut) := goodIn_app (goodIn_of _ (by decide +kernel)) ggL_ask_X5_cut
set_option maxRecDepth 20000 in
theorem ggL_ask_X5_net : GoodIn wsL_ask wsX5_net := goodIn_ca (goodIn_ca (goodIn_ca (goodIn_r _ [114, 33, 34, 18, 19, 20, 24, 30, 31, 16, 32, 115, 116, 117, 118, 36, 119, 120, 50, 51, 121, 96, 97, 98, 99, 100, 101, 102, 103, 122, 123, 124, 125, 126, 127, 452, 453, 454, 455, 456, 457, 458, 459, 460, 461, 462, 463, 464, 465, 466, 470, 471, 472, 473, 474, 475, 476, 477, 478, 479, 480] (by decide +kernel) (by decide +kernel)) (goodIn_sub (fun _ h => List.mem_cons_of_mem _ (List.mem_append_left _ (List.mem_append_left _ (List.mem_append_left _ (List.mem_append_left _ (List.mem_append_right _ h)))))) (by decide +kernel))) (goodIn_sub (fun _ h => List.mem_cons_of_mem _ (List.mem_append_left _ (List.mem_append_left _ (List.mem_append_left _ (List.mem_append_left _ (List.mem_append_left _ (List.mem_append_left _ (List.mem_append_right _ h)))))))) (by decide +kernel))) (goodIn_sub (fun _ h => List.mem_cons_of_mem _ (List.mem_append_left _ (List.mem_append_left _ (List.mem_append_left _ (List.mem_append_left _ (List.mem_append_left _ (List.mem_append_left _ (List.mem_append_left _ (List.mem_append_right _ h))))))))) (by decide +kernel))
set_option maxRecDepth 20000 in
theorem gL_ask_X5_net : GoodIn wsL_ask (wsV RL 36 RX5 yX5_net wsX5_net) := goodIn_app (goodIn_of _ (by decide +kernel)) ggL_ask_X5_net
set_option maxRecDepth 20000 in
theorem ggL_ask_X5_run : GoodIn wsL_ask wsX5_run := goodIn_ca (goodIn_ca (goodIn_ca (goodIn_r _ [131, 132, 21, 20, 24, 30, 31, 16, 32, 33, 34, 133, 134, 135, 136, 137, 138, 139, 140, 141, 142, 143, 144, 145, 146, 147, 148, 149, 150, 151, 152, 36, 153, 154, 43, 44, 45, 155, 156, 81, 157, 158, 159, 160, 161, 162, 163, 164, 165, 22, 23, 166, 167, 168, 169, 170, 171, 172, 452, 453, 454, 455, 456, 457, 458, 459, 460, 461, 462, 463, 464, 465, 466, 470, 471, 472, 473, 474, 475, 476, 477, 478, 479, 480, 467, 468, 469] (by decide +kernel) (by decide +kernel)) (goodIn_sub (fun _ h => List.mem_cons_of_mem _ (List.mem_append_left _ (List.mem_append_left _ (List.mem_append_left _ (List.mem_append_left _ (List.mem_append_right _ h)))))) (by decide +kernel))) (goodIn_sub (fun _ h => List.mem_cons_of_mem _ (List.mem_append_left _ (List.mem_append_left _ (List.mem_append_left _ (List.mem_append_left _ (List.mem_append_left _ (List.mem_append_left _ (List.mem_append_left _ (List.mem_append_right _ h))))))))) (by decide +kernel))) (goodIn_sub (fun _ h => List.mem_cons_of_mem _ (List.mem_append_left _ (List.mem_append_right _ h))) (by decide +kernel))
set_option maxRecDepth 20000 in
theorem gL_ask_X5_run : GoodIn wsL_ask (wsV RL 40 RX5 yX5_run wsX5_run) := goodIn_app (goodIn_of _ (by decide +kernel)) ggL_ask_X5_run
set_option maxRecDepth 20000 in
theorem ggL_ask_X5_flashes : GoodIn wsL_ask wsX5_flashes := goodIn_ca (goodIn_ca (goodIn_ca (goodIn_r _ [176, 22, 69, 70, 71, 16, 72, 73, 74, 20, 25, 26, 27, 28, 29, 35, 36, 37, 38, 39, 452, 453, 454, 455, 456, 457, 458, 459, 460, 461, 462, 463, 464, 465, 466, 470, 471, 472, 473, 474, 475, 476, 477, 478, 479, 480] (by decide +kernel) (by decide +kernel)) (goodIn_sub (fun _ h => List.mem_cons_of_mem _ (List.mem_append_left _ (List.mem_append_left _ (List.mem_append_left _ (List.mem_append_left _ (List.mem_append_left _ (List.mem_append_left _ (List.mem_append_left _ (List.mem_append_right _ h))))))))) (by decide +kernel))) (goodIn_sub (fun _ h => List.mem_cons_of_mem _ (List.mem_append_left _ (List.mem_append_left _ (List.mem_append_left _ (List.mem_append_right _ h))))) (by decide +kernel))) (goodIn_sub (fun _ h => List.mem_cons_of_mem _ (List.mem_append_left _ (List.mem_append_left _ (List.mem_append_left _ (List.mem_append_left _ (List.mem_append_left _ (List.mem_append_right _ h))))))) (by decide +kernel))
set_option maxRecDepth 20000 in
theorem gL_ask_X5_flashes : GoodIn wsL_ask (wsV RL 43 RX5 yX5_flashes wsX5_flashes) := goodIn_app (goodIn_of _ (by decide +kernel)) ggL_ask_X5_flashes
set_option maxRecDepth 20000 in
theorem ggL_ask_X5_last : GoodIn wsL_ask wsX5_last := goodIn_ca (goodIn_ca (goodIn_ca (goodIn_r _ [180, 23, 69, 70, 71, 16, 72, 73, 74, 20, 25, 26, 27, 28, 29, 35, 36, 37, 38, 39, 452, 453, 454, 455, 456, 457, 458, 459, 460, 461, 462, 463, 464, 465, 466, 470, 471, 472, 473, 474, 475, 476, 477, 478, 479, 480] (by decide +kernel) (by decide +kernel)) (goodIn_sub (fun _ h => List.mem_cons_of_mem _ (List.mem_append_left _ (List.mem_append_left _ (List.mem_append_left _ (List.mem_append_left _ (List.mem_append_left _ (List.mem_append_left _ (List.mem_append_left _ (List.mem_append_right _ h))))))))) (by decide +kernel))) (goodIn_sub (fun _ h => List.mem_cons_of_mem _ (List.mem_append_left _ (List.mem_append_left _ (List.mem_append_left _ (List.mem_append_right _ h))))) (by decide +kernel))) (goodIn_sub (fun _ h => List.mem_cons_of_mem _ (List.mem_append_left _ (List.mem_append_left _ (List.mem_append_left _ (List.mem_append_left _ (List.mem_append_left _ (List.mem_append_right _ h))))))) (by decide +kernel))
set_option maxRecDepth 20000 in
theorem gL_ask_X5_last : GoodIn wsL_ask (wsV RL 46 RX5 yX5_last wsX5_last) := goodIn_app (goodIn_of _ (by decide +kernel)) ggL_ask_X5_last
set_option maxRecDepth 20000 in
theorem ggL_ask_X5_waiting : GoodIn wsL_ask wsX5_waiting := goodIn_ca (goodIn_ca (goodIn_ca (goodIn_r _ [184, 21, 69, 70, 71, 16, 72, 73, 74, 20, 25, 26, 27, 28, 29, 35, 36, 37, 38, 39, 185, 142, 186, 187, 147, 148, 149, 150, 151, 145, 452, 453, 454, 455, 456, 457, 458, 459, 460, 461, 462, 463, 464, 465, 466, 470, 471, 472, 473, 474, 475, 476, 477, 478, 479, 480, 467, 468, 469] (by decide +kernel) (by decide +kernel)) (goodIn_sub (fun _ h => List.mem_cons_of_mem _ (List.mem_append_left _ (List.mem_append_left _ (List.mem_append_left _ (List.mem_append_right _ h))))) (by decide +kernel))) (goodIn_sub (fun _ h => List.mem_cons_of_mem _ (List.mem_append_left _ (List.mem_append_left _ (List.mem_append_left _ (List.mem_append_left _ (List.mem_append_left _ (List.mem_append_right _ h))))))) (by decide +kernel))) (goodIn_sub (fun _ h => List.mem_cons_of_mem _ (List.mem_append_left _ (List.mem_append_left _ (List.mem_append_left _ (List.mem_append_left _ (List.mem_append_left _ (List.mem_append_left _ (List.mem_append_left _ (List.mem_append_right _ h))))))))) (by decide +kernel))
set_option maxRecDepth 20000 in
theorem gL_ask_X5_waiting : GoodIn wsL_ask (wsV RL 49 RX5 yX5_waiting wsX5_waiting) := goodIn_app (goodIn_of _ (by decide +kernel)) ggL_ask_X5_waiting
set_option maxRecDepth 20000 in
theorem ggL_ask_X5_strip : GoodIn wsL_ask wsX5_strip := goodIn_ca (goodIn_ca (goodIn_ca (goodIn_ca (goodIn_ca (goodIn_r _ [191, 192, 21, 20, 69, 70, 71, 16, 72, 73, 74, 25, 26, 27, 28, 29, 35, 36, 37, 38, 39, 193, 194, 195, 196, 18, 19, 137, 197, 142, 198, 199, 146, 200, 201, 202, 203, 147, 145, 141, 143, 144, 148, 149, 150, 151, 152, 153, 154, 43, 44, 45, 155, 156, 81, 157, 158, 159, 160, 161, 452, 453, 454, 455, 456, 457, 458, 459, 460, 461, 462, 463, 464, 465, 466, 470, 471, 472, 473, 474, 475, 476, 477, 478, 479, 480, 467, 468, 469] (by decide +kernel) (by decide +kernel)) (goodIn_sub (fun _ h => List.mem_cons_of_mem _ (List.mem_append_left _ (List.mem_append_left _ (List.mem_append_left _ (List.mem_append_right _ h))))) (by decide +kernel))) (goodIn_sub (fun _ h => List.mem_cons_of_mem _ (List.mem_append_left _ (List.mem_append_left _ (List.mem_append_left _ (List.mem_append_left _ (List.mem_append_left _ (List.mem_append_right _ h))))))) (by decide +kernel))) (goodIn_sub (fun _ h => List.mem_cons_of_mem _ (List.mem_append_left _ (List.mem_append_left _ (List.mem_append_left _ (List.mem_append_left _ (List.mem_append_left _ (List.mem_append_left _ (List.mem_append_right _ h)))))))) (by decide +kernel))) (goodIn_sub (fun _ h => List.mem_cons_of_mem _ (List.mem_append_left _ (List.mem_append_left _ (List.mem_append_left _ (List.mem_append_left _ (List.mem_append_left _ (List.mem_append_left _ (List.mem_append_left _ (List.mem_append_right _ h))))))))) (by decide +kernel))) (goodIn_sub (fun _ h => List.mem_cons_of_mem _ (List.mem_append_left _ (List.mem_append_right _ h))) (by decide +kernel))
set_option maxRecDepth 20000 in
theorem gL_ask_X5_strip : GoodIn wsL_ask (wsV RL 52 RX5 yX5_strip wsX5_strip) := goodIn_app (goodIn_of _ (by decide +kernel)) ggL_ask_X5_strip
set_option maxRecDepth 20000 in
theorem ggL_ask_X5_cycle : GoodIn wsL_ask wsX5_cycle := goodIn_ca (goodIn_ca (goodIn_ca (goodIn_ca (goodIn_r _ [207, 208, 209, 210, 16, 211, 212, 213, 24, 214, 20, 21, 215, 193, 194, 195, 196, 18, 19, 137, 216, 217, 218, 219, 220, 221, 222, 223, 197, 142, 198, 199, 146, 200, 201, 202, 203, 147, 145, 141, 143, 144, 148, 149, 150, 151, 152, 36, 153, 154, 43, 44, 45, 155, 156, 81, 157, 158, 159, 160, 161, 224, 225, 226, 227, 228, 229, 230, 231, 486, 487, 488, 489, 490, 491, 452, 453, 454, 455, 456, 457, 458, 459, 460, 461, 462, 463, 464, 465, 466, 467, 468, 469, 470, 471, 472, 473, 474, 475, 476, 477, 478, 479, 480] (by decide +kernel) (by decide +kernel)) (goodIn_sub (fun _ h => List.mem_cons_of_mem _ (List.mem_append_right _ h)) (by decide +kernel))) (goodIn_sub (fun _ h => List.mem_cons_of_mem _ (List.mem_append_left _ (List.mem_append_left _ (List.mem_append_left _ (List.mem_append_left _ (List.mem_append_left _ (List.mem_append_left _ (List.mem_append_right _ h)))))))) (by decide +kernel))) (goodIn_sub (fun _ h => List.mem_cons_of_mem _ (List.mem_append_left _ (List.mem_append_left _ (List.mem_append_left _ (List.mem_append_left _ (List.mem_append_left _ (List.mem_append_left _ (List.mem_append_left _ (List.mem_append_right _ h))))))))) (by decide +kernel))) (goodIn_sub (fun _ h => List.mem_cons_of_mem _ (List.mem_append_left _ (List.mem_append_right _ h))) (by decide +kernel))
set_option maxRecDepth 20000 in
theorem gL_ask_X5_cycle : GoodIn wsL_ask (wsV RL 55 RX5 yX5_cycle wsX5_cycle) := goodIn_app (goodIn_of _ (by decide +kernel)) ggL_ask_X5_cycle
set_option maxRecDepth 20000 in
theorem ggL_ask_X5_lead : GoodIn wsL_ask wsX5_lead := goodIn_ca (goodIn_ca (goodIn_ca (goodIn_ca (goodIn_r _ [235, 208, 209, 210, 16, 211, 212, 213, 24, 214, 20, 21, 215, 193, 194, 195, 196, 18, 19, 137, 216, 217, 218, 219, 220, 221, 222, 223, 197, 142, 198, 199, 146, 200, 201, 202, 203, 147, 145, 141, 143, 144, 148, 149, 150, 151, 152, 36, 153, 154, 43, 44, 45, 155, 156, 81, 157, 158, 159, 160, 161, 224, 225, 226, 227, 228, 229, 230, 231, 486, 487, 488, 489, 490, 491, 452, 453, 454, 455, 456, 457, 458, 459, 460, 461, 462, 463, 464, 465, 466, 467, 468, 469, 470, 471, 472, 473, 474, 475, 476, 477, 478, 479, 480] (by decide +kernel) (by decide +kernel)) (goodIn_sub (fun _ h => List.mem_cons_of_mem _ (List.mem_append_right _ h)) (by decide +kernel))) (goodIn_sub (fun _ h => List.mem_cons_of_mem _ (List.mem_append_left _ (List.mem_append_left _ (List.mem_append_left _ (List.mem_append_left _ (List.mem_append_left _ (List.mem_append_left _ (List.mem_append_right _ h)))))))) (by decide +kernel))) (goodIn_sub (fun _ h => List.mem_cons_of_mem _ (List.mem_append_left _ (List.mem_append_left _ (List.mem_append_left _ (List.mem_append_left _ (List.mem_append_left _ (List.mem_append_left _ (List.mem_append_left _ (List.mem_append_right _ h))))))))) (by decide +kernel))) (goodIn_sub (fun _ h => List.mem_cons_of_mem _ (List.mem_append_left _ (List.mem_append_right _ h))) (by decide +kernel))
set_option maxRecDepth 20000 in
theorem gL_ask_X5_lead : GoodIn wsL_ask (wsV RL 59 RX5 yX5_lead wsX5_lead) := goodIn_app (goodIn_of _ (by decide +kernel)) ggL_ask_X5_lead
set_option maxRecDepth 20000 in
theorem ggL_ask_X5_beats : GoodIn wsL_ask wsX5_beats := goodIn_ca (goodIn_ca (goodIn_ca (goodIn_ca (goodIn_ca (goodIn_ca (goodIn_r _ [239, 69, 70, 71, 16, 72, 73, 74, 20, 25, 26, 27, 28, 29, 35, 36, 37, 38, 39, 208, 209, 210, 211, 212, 213, 24, 214, 21, 215, 193, 194, 195, 196, 18, 19, 137, 216, 217, 218, 219, 220, 221, 222, 223, 197, 142, 198, 199, 146, 200, 201, 202, 203, 147, 145, 141, 143, 144, 148, 149, 150, 151, 152, 153, 154, 43, 44, 45, 155, 156, 81, 157, 158, 159, 160, 161, 224, 225, 226, 227, 228, 229, 230, 231, 240, 241, 242, 243, 244, 245, 246, 452, 453, 454, 455, 456, 457, 458, 459, 460, 461, 462, 463, 464, 465, 466, 470, 471, 472, 473, 474, 475, 476, 477, 478, 479, 480, 486, 487, 488, 489, 490, 491, 467, 468, 469] (by decide +kernel) (by decide +kernel)) (goodIn_sub (fun _ h => List.mem_cons_of_mem _ (List.mem_append_left _ (List.mem_append_left _ (List.mem_append_left _ (List.mem_append_right _ h))))) (by decide +kernel))) (goodIn_sub (fun _ h => List.mem_cons_of_mem _ (List.mem_append_left _ (List.mem_append_left _ (List.mem_append_left _ (List.mem_append_left _ (List.mem_append_left _ (List.mem_append_right _ h))))))) (by decide +kernel))) (goodIn_sub (fun _ h => List.mem_cons_of_mem _ (List.mem_append_right _ h)) (by decide +kernel))) (goodIn_sub (fun _ h => List.mem_cons_of_mem _ (List.mem_append_left _ (List.mem_append_left _ (List.mem_append_left _ (List.mem_append_left _ (List.mem_append_left _ (List.mem_append_left _ (List.mem_append_right _ h)))))))) (by decide +kernel))) (goodIn_sub (fun _ h => List.mem_cons_of_mem _ (List.mem_append_left _ (List.mem_append_left _ (List.mem_append_left _ (List.mem_append_left _ (List.mem_append_left _ (List.mem_append_left _ (List.mem_append_left _ (List.mem_append_right _ h))))))))) (by decide +kernel))) (goodIn_sub (fun _ h => List.mem_cons_of_mem _ (List.mem_append_left _ (List.mem_append_right _ h))) (by decide +kernel))
set_option maxRecDepth 20000 in
theorem gL_ask_X5_beats : GoodIn wsL_ask (wsV RL 62 RX5 yX5_beats wsX5_beats) := goodIn_app (goodIn_of _ (by decide +kernel)) ggL_ask_X5_beats
theorem dL_ask_0 : decode cL_ask 0 = .ok (.iload_n 1, 1) := by decide +kernel
theorem dL_ask_1 : decode cL_ask 1 = .ok (.tableswitch 410 65 119 #[298, 235, 329, 410, 410, 410, 410, 410, 410, 410, 410, 312, 410, 337, 410, 287, 410, 352, 260, 410, 410, 410, 410, 410, 410, 410, 410, 410, 410, 410, 410, 410, 410, 402, 392, 397, 410, 360, 410, 410, 410, 410, 410, 368, 410, 410, 410, 279, 410, 410, 384, 410, 410, 410, 376], 235) := by decide +kernel
theorem dL_ask_236 : decode cL_ask 236 = .ok (.aload_n 0, 1) := by decide +kernel
theorem dL_ask_237 : decode cL_ask 237 = .ok (.aload_n 2, 1) := by decide +kernel
theorem dL_ask_238 : decode cL_ask 238 = .ok (.iconst 0, 1) := by decide +kernel
theorem dL_ask_239 : decode cL_ask 239 = .ok (.iaload, 1) := by decide +kernel
theorem dL_ask_240 : decode cL_ask 240 = .ok (.aload_n 2, 1) := by decide +kernel
theorem dL_ask_241 : decode cL_ask 241 = .ok (.iconst 1, 1) := by decide +kernel
theorem dL_ask_242 : decode cL_ask 242 = .ok (.iaload, 1) := by decide +kernel
theorem dL_ask_243 : decode cL_ask 243 = .ok (.aload_n 2, 1) := by decide +kernel
theorem dL_ask_244 : decode cL_ask 244 = .ok (.iconst 2, 1) := by decide +kernel
theorem dL_ask_245 : decode cL_ask 245 = .ok (.iaload, 1) := by decide +kernel
theorem dL_ask_246 : decode cL_ask 246 = .ok (.aload_n 2, 1) := by decide +kernel
theorem dL_ask_247 : decode cL_ask 247 = .ok (.iconst 3, 1) := by decide +kernel
theorem dL_ask_248 : decode cL_ask 248 = .ok (.iaload, 1) := by decide +kernel
theorem dL_ask_249 : decode cL_ask 249 = .ok (.invokevirtual 7, 3) := by decide +kernel
theorem dL_ask_252 : decode cL_ask 252 = .ok (.ifCond .eq 7, 3) := by decide +kernel
theorem dL_ask_255 : decode cL_ask 255 = .ok (.iconst 1, 1) := by decide +kernel
theorem dL_ask_256 : decode cL_ask 256 = .ok (.goto 4, 3) := by decide +kernel
theorem dL_ask_259 : decode cL_ask 259 = .ok (.iconst 0, 1) := by decide +kernel
theorem dL_ask_260 : decode cL_ask 260 = .ok (.ireturn, 1) := by decide +kernel
theorem dL_ask_261 : decode cL_ask 261 = .ok (.aload_n 0, 1) := by decide +kernel
theorem dL_ask_262 : decode cL_ask 262 = .ok (.aload_n 2, 1) := by decide +kernel
theorem dL_ask_263 : decode cL_ask 263 = .ok (.iconst 0, 1) := by decide +kernel
theorem dL_ask_264 : decode cL_ask 264 = .ok (.iaload, 1) := by decide +kernel
theorem dL_ask_265 : decode cL_ask 265 = .ok (.aload_n 2, 1) := by decide +kernel
theorem dL_ask_266 : decode cL_ask 266 = .ok (.iconst 1, 1) := by decide +kernel
theorem dL_ask_267 : decode cL_ask 267 = .ok (.iaload, 1) := by decide +kernel
theorem dL_ask_268 : decode cL_ask 268 = .ok (.invokevirtual 13, 3) := by decide +kernel
theorem dL_ask_271 : decode cL_ask 271 = .ok (.ifCond .eq 7, 3) := by decide +kernel
theorem dL_ask_274 : decode cL_ask 274 = .ok (.iconst 1, 1) := by decide +kernel
theorem dL_ask_275 : decode cL_ask 275 = .ok (.goto 4, 3) := by decide +kernel
theorem dL_ask_278 : decode cL_ask 278 = .ok (.iconst 0, 1) := by decide +kernel
theorem dL_ask_279 : decode cL_ask 279 = .ok (.ireturn, 1) := by decide +kernel
theorem dL_ask_280 : decode cL_ask 280 = .ok (.aload_n 0, 1) := by decide +kernel
theorem dL_ask_281 : decode cL_ask 281 = .ok (.aload_n 2, 1) := by decide +kernel
theorem dL_ask_282 : decode cL_ask 282 = .ok (.iconst 0, 1) := by decide +kernel
theorem dL_ask_283 : decode cL_ask 283 = .ok (.iaload, 1) := by decide +kernel
theorem dL_ask_284 : decode cL_ask 284 = .ok (.invokevirtual 17, 3) := by decide +kernel
theorem dL_ask_287 : decode cL_ask 287 = .ok (.ireturn, 1) := by decide +kernel
theorem dL_ask_288 : decode cL_ask 288 = .ok (.aload_n 0, 1) := by decide +kernel
theorem dL_ask_289 : decode cL_ask 289 = .ok (.aload_n 2, 1) := by decide +kernel
theorem dL_ask_290 : decode cL_ask 290 = .ok (.iconst 0, 1) := by decide +kernel
theorem dL_ask_291 : decode cL_ask 291 = .ok (.iaload, 1) := by decide +kernel
theorem dL_ask_292 : decode cL_ask 292 = .ok (.aload_n 2, 1) := by decide +kernel
theorem dL_ask_293 : decode cL_ask 293 = .ok (.iconst 1, 1) := by decide +kernel
theorem dL_ask_294 : decode cL_ask 294 = .ok (.iaload, 1) := by decide +kernel
theorem dL_ask_295 : decode cL_ask 295 = .ok (.invokevirtual 21, 3) := by decide +kernel
theorem dL_ask_298 : decode cL_ask 298 = .ok (.ireturn, 1) := by decide +kernel
theorem dL_ask_299 : decode cL_ask 299 = .ok (.aload_n 0, 1) := by decide +kernel
theorem dL_ask_300 : decode cL_ask 300 = .ok (.aload_n 2, 1) := by decide +kernel
theorem dL_ask_301 : decode cL_ask 301 = .ok (.iconst 0, 1) := by decide +kernel
theorem dL_ask_302 : decode cL_ask 302 = .ok (.iaload, 1) := by decide +kernel
theorem dL_ask_303 : decode cL_ask 303 = .ok (.aload_n 2, 1) := by decide +kernel
theorem dL_ask_304 : decode cL_ask 304 = .ok (.iconst 1, 1) := by decide +kernel
theorem dL_ask_305 : decode cL_ask 305 = .ok (.iaload, 1) := by decide +kernel
theorem dL_ask_306 : decode cL_ask 306 = .ok (.aload_n 2, 1) := by decide +kernel
theorem dL_ask_307 : decode cL_ask 307 = .ok (.iconst 2, 1) := by decide +kernel
theorem dL_ask_308 : decode cL_ask 308 = .ok (.iaload, 1) := by decide +kernel
theorem dL_ask_309 : decode cL_ask 309 = .ok (.invokevirtual 25, 3) := by decide +kernel
theorem dL_ask_312 : decode cL_ask 312 = .ok (.ireturn, 1) := by decide +kernel
theorem dL_ask_313 : decode cL_ask 313 = .ok (.aload_n 0, 1) := by decide +kernel
theorem dL_ask_314 : decode cL_ask 314 = .ok (.aload_n 2, 1) := by decide +kernel
theorem dL_ask_315 : decode cL_ask 315 = .ok (.iconst 0, 1) := by decide +kernel
theorem dL_ask_316 : decode cL_ask 316 = .ok (.iaload, 1) := by decide +kernel
theorem dL_ask_317 : decode cL_ask 317 = .ok (.aload_n 2, 1) := by decide +kernel
theorem dL_ask_318 : decode cL_ask 318 = .ok (.iconst 1, 1) := by decide +kernel
theorem dL_ask_319 : decode cL_ask 319 = .ok (.iaload, 1) := by decide +kernel
theorem dL_ask_320 : decode cL_ask 320 = .ok (.aload_n 2, 1) := by decide +kernel
theorem dL_ask_321 : decode cL_ask 321 = .ok (.iconst 2, 1) := by decide +kernel
theorem dL_ask_322 : decode cL_ask 322 = .ok (.iaload, 1) := by decide +kernel
theorem dL_ask_323 : decode cL_ask 323 = .ok (.aload_n 2, 1) := by decide +kernel
theorem dL_ask_324 : decode cL_ask 324 = .ok (.iconst 3, 1) := by decide +kernel
theorem dL_ask_325 : decode cL_ask 325 = .ok (.iaload, 1) := by decide +kernel
theorem dL_ask_326 : decode cL_ask 326 = .ok (.invokevirtual 29, 3) := by decide +kernel
theorem dL_ask_329 : decode cL_ask 329 = .ok (.ireturn, 1) := by decide +kernel
theorem dL_ask_330 : decode cL_ask 330 = .ok (.aload_n 0, 1) := by decide +kernel
theorem dL_ask_331 : decode cL_ask 331 = .ok (.aload_n 2, 1) := by decide +kernel
theorem dL_ask_332 : decode cL_ask 332 = .ok (.iconst 0, 1) := by decide +kernel
theorem dL_ask_333 : decode cL_ask 333 = .ok (.iaload, 1) := by decide +kernel
theorem dL_ask_334 : decode cL_ask 334 = .ok (.invokevirtual 33, 3) := by decide +kernel
theorem dL_ask_337 : decode cL_ask 337 = .ok (.ireturn, 1) := by decide +kernel
theorem dL_ask_338 : decode cL_ask 338 = .ok (.aload_n 0, 1) := by decide +kernel
theorem dL_ask_339 : decode cL_ask 339 = .ok (.aload_n 2, 1) := by decide +kernel
theorem dL_ask_340 : decode cL_ask 340 = .ok (.iconst 0, 1) := by decide +kernel
theorem dL_ask_341 : decode cL_ask 341 = .ok (.iaload, 1) := by decide +kernel
theorem dL_ask_342 : decode cL_ask 342 = .ok (.i2c, 1) := by decide +kernel
theorem dL_ask_343 : decode cL_ask 343 = .ok (.aload_n 2, 1) := by decide +kernel
theorem dL_ask_344 : decode cL_ask 344 = .ok (.iconst 1, 1) := by decide +kernel
theorem dL_ask_345 : decode cL_ask 345 = .ok (.iaload, 1) := by decide +kernel
theorem dL_ask_346 : decode cL_ask 346 = .ok (.aload_n 2, 1) := by decide +kernel
theorem dL_ask_347 : decode cL_ask 347 = .ok (.iconst 2, 1) := by decide +kernel
theorem dL_ask_348 : decode cL_ask 348 = .ok (.iaload, 1) := by decide +kernel
theorem dL_ask_349 : decode cL_ask 349 = .ok (.invokevirtual 36, 3) := by decide +kernel
theorem dL_ask_352 : decode cL_ask 352 = .ok (.ireturn, 1) := by decide +kernel
theorem dL_ask_353 : decode cL_ask 353 = .ok (.aload_n 0, 1) := by decide +kernel
theorem dL_ask_354 : decode cL_ask 354 = .ok (.aload_n 2, 1) := by decide +kernel
theorem dL_ask_355 : decode cL_ask 355 = .ok (.iconst 0, 1) := by decide +kernel
theorem dL_ask_356 : decode cL_ask 356 = .ok (.iaload, 1) := by decide +kernel
theorem dL_ask_357 : decode cL_ask 357 = .ok (.invokevirtual 40, 3) := by decide +kernel
theorem dL_ask_360 : decode cL_ask 360 = .ok (.ireturn, 1) := by decide +kernel
theorem dL_ask_361 : decode cL_ask 361 = .ok (.aload_n 0, 1) := by decide +kernel
theorem dL_ask_362 : decode cL_ask 362 = .ok (.aload_n 2, 1) := by decide +kernel
theorem dL_ask_363 : decode cL_ask 363 = .ok (.iconst 0, 1) := by decide +kernel
theorem dL_ask_364 : decode cL_ask 364 = .ok (.iaload, 1) := by decide +kernel
theorem dL_ask_365 : decode cL_ask 365 = .ok (.invokevirtual 43, 3) := by decide +kernel
theorem dL_ask_368 : decode cL_ask 368 = .ok (.ireturn, 1) := by decide +kernel
theorem dL_ask_369 : decode cL_ask 369 = .ok (.aload_n 0, 1) := by decide +kernel
theorem dL_ask_370 : decode cL_ask 370 = .ok (.aload_n 2, 1) := by decide +kernel
theorem dL_ask_371 : decode cL_ask 371 = .ok (.iconst 0, 1) := by decide +kernel
theorem dL_ask_372 : decode cL_ask 372 = .ok (.iaload, 1) := by decide +kernel
theorem dL_ask_373 : decode cL_ask 373 = .ok (.invokevirtual 46, 3) := by decide +kernel
theorem dL_ask_376 : decode cL_ask 376 = .ok (.ireturn, 1) := by decide +kernel
theorem dL_ask_377 : decode cL_ask 377 = .ok (.aload_n 0, 1) := by decide +kernel
theorem dL_ask_378 : decode cL_ask 378 = .ok (.aload_n 2, 1) := by decide +kernel
theorem dL_ask_379 : decode cL_ask 379 = .ok (.iconst 0, 1) := by decide +kernel
theorem dL_ask_380 : decode cL_ask 380 = .ok (.iaload, 1) := by decide +kernel
theorem dL_ask_381 : decode cL_ask 381 = .ok (.invokevirtual 49, 3) := by decide +kernel
theorem dL_ask_384 : decode cL_ask 384 = .ok (.ireturn, 1) := by decide +kernel
theorem dL_ask_385 : decode cL_ask 385 = .ok (.aload_n 0, 1) := by decide +kernel
theorem dL_ask_386 : decode cL_ask 386 = .ok (.aload_n 2, 1) := by decide +kernel
theorem dL_ask_387 : decode cL_ask 387 = .ok (.iconst 0, 1) := by decide +kernel
theorem dL_ask_388 : decode cL_ask 388 = .ok (.iaload, 1) := by decide +kernel
theorem dL_ask_389 : decode cL_ask 389 = .ok (.invokevirtual 52, 3) := by decide +kernel
theorem dL_ask_392 : decode cL_ask 392 = .ok (.ireturn, 1) := by decide +kernel
theorem dL_ask_393 : decode cL_ask 393 = .ok (.aload_n 0, 1) := by decide +kernel
theorem dL_ask_394 : decode cL_ask 394 = .ok (.invokevirtual 55, 3) := by decide +kernel
theorem dL_ask_397 : decode cL_ask 397 = .ok (.ireturn, 1) := by decide +kernel
theorem dL_ask_398 : decode cL_ask 398 = .ok (.aload_n 0, 1) := by decide +kernel
theorem dL_ask_399 : decode cL_ask 399 = .ok (.invokevirtual 59, 3) := by decide +kernel
theorem dL_ask_402 : decode cL_ask 402 = .ok (.ireturn, 1) := by decide +kernel
theorem dL_ask_403 : decode cL_ask 403 = .ok (.aload_n 0, 1) := by decide +kernel
theorem dL_ask_404 : decode cL_ask 404 = .ok (.aload_n 2, 1) := by decide +kernel
theorem dL_ask_405 : decode cL_ask 405 = .ok (.iconst 0, 1) := by decide +kernel
theorem dL_ask_406 : decode cL_ask 406 = .ok (.iaload, 1) := by decide +kernel
theorem dL_ask_407 : decode cL_ask 407 = .ok (.invokevirtual 62, 3) := by decide +kernel
theorem dL_ask_410 : decode cL_ask 410 = .ok (.ireturn, 1) := by decide +kernel
theorem dL_ask_411 : decode cL_ask 411 = .ok (.aload_n 0, 1) := by decide +kernel
theorem dL_ask_412 : decode cL_ask 412 = .ok (.iload_n 1, 1) := by decide +kernel
theorem dL_ask_413 : decode cL_ask 413 = .ok (.aload_n 2, 1) := by decide +kernel
theorem dL_ask_414 : decode cL_ask 414 = .ok (.invokestatic 65, 3) := by decide +kernel
theorem dL_ask_417 : decode cL_ask 417 = .ok (.ireturn, 1) := by decide +kernel
theorem dL_ask_418 : decode cL_ask 418 = .ok (.astore_n 3, 1) := by decide +kernel
theorem dL_ask_419 : decode cL_ask 419 = .ok (.ldc 73, 2) := by decide +kernel
theorem dL_ask_421 : decode cL_ask 421 = .ok (.ireturn, 1) := by decide +kernel
theorem dL_ask_422 : decode cL_ask 422 = .ok (.astore_n 3, 1) := by decide +kernel
theorem dL_ask_423 : decode cL_ask 423 = .ok (.ldc 76, 2) := by decide +kernel
theorem dL_ask_425 : decode cL_ask 425 = .ok (.ireturn, 1) := by decide +kernel
theorem dL_ask_426 : decode cL_ask 426 = .ok (.astore_n 3, 1) := by decide +kernel
theorem dL_ask_427 : decode cL_ask 427 = .ok (.ldc 79, 2) := by decide +kernel
theorem dL_ask_429 : decode cL_ask 429 = .ok (.ireturn, 1) := by decide +kernel
theorem dL_ask_430 : decode cL_ask 430 = .ok (.astore_n 3, 1) := by decide +kernel
theorem dL_ask_431 : decode cL_ask 431 = .ok (.ldc 82, 2) := by decide +kernel
theorem dL_ask_433 : decode cL_ask 433 = .ok (.ireturn, 1) := by decide +kernel
theorem dL_ask_434 : decode cL_ask 434 = .ok (.astore_n 3, 1) := by decide +kernel
theorem dL_ask_435 : decode cL_ask 435 = .ok (.ldc 85, 2) := by decide +kernel
theorem dL_ask_437 : decode cL_ask 437 = .ok (.ireturn, 1) := by decide +kernel
theorem dL_ask_438 : decode cL_ask 438 = .ok (.astore_n 3, 1) := by decide +kernel
theorem dL_ask_439 : decode cL_ask 439 = .ok (.ldc 88, 2) := by decide +kernel
theorem dL_ask_441 : decode cL_ask 441 = .ok (.ireturn, 1) := by decide +kernel
set_option maxRecDepth 20000 in
theorem ggL_asked_X5_inStep : GoodIn wsL_asked wsX5_inStep := goodIn_ca (goodIn_ca (goodIn_ca (goodIn_ca (goodIn_ca (goodIn_ca (goodIn_r _ [5, 6, 7, 4, 8, 9, 10, 11, 12, 13, 14, 15, 16, 17, 18, 19, 20, 21, 22, 23, 24, 25, 26, 27, 28, 29, 30, 31, 32, 33, 34, 35, 36, 37, 38, 39, 40, 41, 42, 43, 44, 45, 46, 47, 48, 49, 50, 51, 52, 53, 54, 55, 56, 57, 58, 59, 60, 61, 62, 63, 64, 65, 66, 67, 68, 69, 70, 71, 72, 73, 74, 75, 76, 77, 78, 79, 80, 81, 82, 83, 84, 85, 86, 87, 88, 89, 90, 91, 92, 93, 94, 334, 335, 336, 337, 338, 339, 340, 341, 342, 343, 344, 345, 346, 347, 348, 349, 350, 351, 352, 353, 354, 355, 356, 357, 358, 359, 360, 361, 362, 363, 364, 365, 366, 367, 368] (by decide +kernel) (by decide +kernel)) (goodIn_sub (fun _ h => List.mem_cons_of_mem _ (List.mem_append_left _ (List.mem_append_left _ (List.mem_append_left _ (List.mem_append_left _ (List.mem_append_left _ (List.mem_append_left _ (List.mem_append_right _ h)))))))) (by decide +kernel))) (goodIn_sub (fun _ h => List.mem_cons_of_mem _ (List.mem_append_left _ (List.mem_append_left _ (List.mem_append_left _ (List.mem_append_left _ (List.mem_append_left _ (List.mem_append_right _ h))))))) (by decide +kernel))) (goodIn_sub (fun _ h => List.mem_cons_of_mem _ (List.mem_append_left _ (List.mem_append_left _ (List.mem_append_left _ (List.mem_append_left _ (List.mem_append_right _ h)))))) (by decide +kernel))) (goodIn_sub (fun _ h => List.mem_cons_of_mem _ (List.mem_append_left _ (List.mem_append_left _ (List.mem_append_left _ (List.mem_append_right _ h))))) (by decide +kernel))) (goodIn_sub (fun _ h => List.mem_cons_of_mem _ (List.mem_append_left _ (List.mem_append_left _ (List.mem_append_left _ (List.mem_append_left _ (List.mem_append_left _ (List.mem_append_left _ (List.mem_append_left _ (List.mem_append_right _ h))))))))) (by decide +kernel))) (goodIn_sub (fun _ h => List.mem_cons_of_mem _ (List.mem_append_left _ (List.mem_append_left _ (List.mem_append_right _ h)))) (by decide +kernel))
set_option maxRecDepth 20000 in
theorem gL_asked_X5_inStep : GoodIn wsL_asked (wsV RL 89 RX5 yX5_inStep wsX5_inStep) := goodIn_app (goodIn_of _ (by decide +kernel)) ggL_asked_X5_inStep
set_option maxRecDepth 20000 in
theorem ggL_asked_X5_groups : GoodIn wsL_asked wsX5_groups := goodIn_ca (goodIn_ca (goodIn_ca (goodIn_ca (goodIn_r _ [98, 17, 23, 24, 25, 4, 26, 27, 28, 29, 30, 31, 32, 33, 34, 35, 36, 37, 38, 39, 40, 41, 42, 43, 44, 45, 46, 47, 48, 49, 50, 51, 52, 53, 54, 55, 56, 57, 58, 59, 60, 61, 62, 63, 64, 65, 66, 19, 67, 68, 69, 70, 71, 72, 73, 74, 75, 76, 77, 78, 79, 80, 81, 82, 83, 84, 85, 86, 87, 99, 100, 101, 102, 103, 104, 105, 106, 107, 88, 89, 90, 91, 92, 93, 94, 334, 335, 336, 337, 338, 339, 340, 341, 342, 343, 344, 345, 346, 347, 348, 360, 361, 362, 363, 364, 365, 366, 367, 368, 349, 350, 351, 352, 353, 354, 355, 356, 357, 358, 359] (by decide +kernel) (by decide +kernel)) (goodIn_sub (fun _ h => List.mem_cons_of_mem _ (List.mem_append_left _ (List.mem_append_left _ (List.mem_append_left _ (List.mem_append_left _ (List.mem_append_right _ h)))))) (by decide +kernel))) (goodIn_sub (fun _ h => List.mem_cons_of_mem _ (List.mem_append_left _ (List.mem_append_left _ (List.mem_append_left _ (List.mem_append_right _ h))))) (by decide +kernel))) (goodIn_sub (fun _ h => List.mem_cons_of_mem _ (List.mem_append_left _ (List.mem_append_left _ (List.mem_append_left _ (List.mem_append_left _ (List.mem_append_left _ (List.mem_append_left _ (List.mem_append_left _ (List.mem_append_right _ h))))))))) (by decide +kernel))) (goodIn_sub (fun _ h => List.mem_cons_of_mem _ (List.mem_append_left _ (List.mem_append_left _ (List.mem_append_right _ h)))) (by decide +kernel))
set_option maxRecDepth 20000 in
theorem gL_asked_X5_groups : GoodIn wsL_asked (wsV RL 92 RX5 yX5_groups wsX5_groups) := goodIn_app (goodIn_of _ (by decide +kernel)) ggL_asked_X5_groups
set_option maxRecDepth 20000 in
theorem ggL_asked_X5_groupOf : GoodIn wsL_asked wsX5_groupOf := goodIn_ca (goodIn_ca (goodIn_ca (goodIn_ca (goodIn_ca (goodIn_ca (goodIn_r _ [111, 17, 11, 12, 13, 4, 14, 15, 16, 6, 7, 8, 9, 10, 18, 19, 20, 21, 22, 23, 24, 25, 26, 27, 28, 29, 30, 31, 32, 33, 34, 35, 36, 37, 38, 39, 40, 41, 42, 43, 44, 45, 46, 47, 48, 49, 50, 51, 52, 53, 54, 55, 56, 57, 58, 59, 60, 61, 62, 63, 64, 65, 66, 67, 68, 69, 70, 71, 72, 73, 74, 75, 76, 77, 78, 79, 80, 81, 82, 83, 84, 85, 86, 87, 99, 100, 101, 102, 103, 104, 105, 106, 107, 88, 89, 90, 91, 92, 93, 94, 334, 335, 336, 337, 338, 339, 340, 341, 342, 343, 344, 345, 346, 347, 348, 360, 361, 362, 363, 364, 365, 349, 350, 351, 352, 353, 354, 355, 356, 357, 358, 359, 366, 367, 368] (by decide +kernel) (by decide +kernel)) (goodIn_sub (fun _ h => List.mem_cons_of_mem _ (List.mem_append_left _ (List.mem_append_left _ (List.mem_append_left _ (List.mem_append_left _ (List.mem_append_left _ (List.mem_append_left _ (List.mem_append_left _ (List.mem_append_right _ h))))))))) (by decide +kernel))) (goodIn_sub (fun _ h => List.mem_cons_of_mem _ (List.mem_append_left _ (List.mem_append_left _ (List.mem_append_left _ (List.mem_append_left _ (List.mem_append_left _ (List.mem_append_right _ h))))))) (by decide +kernel))) (goodIn_sub (fun _ h => List.mem_cons_of_mem _ (List.mem_append_left _ (List.mem_append_left _ (List.mem_append_left _ (List.mem_append_left _ (List.mem_append_left _ (List.mem_append_left _ (List.mem_append_right _ h)))))))) (by decide +kernel))) (goodIn_sub (fun _ h => List.mem_cons_of_mem _ (List.mem_append_left _ (List.mem_append_left _ (List.mem_append_left _ (List.mem_append_left _ (List.mem_append_right _ h)))))) (by decide +kernel))) (goodIn_sub (fun _ h => List.mem_cons_of_mem _ (List.mem_append_left _ (List.mem_append_left _ (List.mem_append_left _ (List.mem_append_right _ h))))) (by decide +kernel))) (goodIn_sub (fun _ h => List.mem_cons_of_mem _ (List.mem_append_left _ (List.mem_append_left _ (List.mem_append_right _ h)))) (by decide +kernel))
set_option maxRecDepth 20000 in
theorem gL_asked_X5_groupOf : GoodIn wsL_asked (wsV RL 95 RX5 yX5_groupOf wsX5_groupOf) := goodIn_app (goodIn_of _ (by decide +kernel)) ggL_asked_X5_groupOf
set_option maxRecDepth 20000 in
theorem ggL_asked_X5_islands : GoodIn wsL_asked wsX5_islands := goodIn_ca (goodIn_ca (goodIn_ca (goodIn_ca (goodIn_r _ [115, 17, 23, 24, 25, 4, 26, 27, 28, 29, 30, 31, 32, 33, 34, 35, 36, 37, 38, 39, 40, 41, 42, 43, 44, 45, 46, 47, 48, 49, 50, 51, 52, 53, 54, 55, 56, 57, 58, 59, 60, 61, 62, 63, 64, 65, 66, 19, 67, 68, 69, 70, 71, 72, 73, 74, 75, 76, 77, 78, 79, 80, 81, 82, 83, 84, 85, 86, 87, 116, 117, 118, 107, 88, 89, 90, 91, 92, 93, 94, 334, 335, 336, 337, 338, 339, 340, 341, 342, 343, 344, 345, 346, 347, 348, 349, 350, 351, 352, 353, 354, 355, 356, 357, 358, 359, 360, 361, 362, 363, 364, 365, 366, 367, 368] (by decide +kernel) (by decide +kernel)) (goodIn_sub (fun _ h => List.mem_cons_of_mem _ (List.mem_append_left _ (List.mem_append_left _ (List.mem_append_left _ (List.mem_append_left _ (List.mem_append_right _ h)))))) (by decide +kernel))) (goodIn_sub (fun _ h => List.mem_cons_of_mem _ (List.mem_append_left _ (List.mem_append_left _ (List.mem_append_left _ (List.mem_append_right _ h))))) (by decide +kernel))) (goodIn_sub (fun _ h => List.mem_cons_of_mem _ (List.mem_append_left _ (List.mem_append_left _ (List.mem_append_left _ (List.mem_append_left _ (List.mem_append_left _ (List.mem_append_left _ (List.mem_append_left _ (List.mem_append_right _ h))))))))) (by decide +kernel))) (goodIn_sub (fun _ h => List.mem_cons_of_mem _ (List.mem_append_left _ (List.mem_append_left _ (List.mem_append_right _ h)))) (by decide +kernel))
set_option maxRecDepth 20000 in
theorem gL_asked_X5_islands : GoodIn wsL_asked (wsV RL 98 RX5 yX5_islands wsX5_islands) := goodIn_app (goodIn_of _ (by decide +kernel)) ggL_asked_X5_islands
set_option maxRecDepth 20000 in
theorem ggL_asked_X5_order : GoodIn wsL_asked wsX5_order := goodIn_ca (goodIn_ca (goodIn_ca (goodIn_ca (goodIn_ca (goodIn_r _ [122, 15, 16, 17, 23, 24, 25, 4, 26, 27, 28, 29, 30, 31, 32, 33, 34, 35, 36, 37, 38, 39, 40, 41, 42, 43, 44, 45, 46, 47, 48, 49, 50, 51, 52, 53, 54, 55, 56, 57, 58, 59, 60, 61, 62, 63, 64, 65, 66, 19, 67, 68, 69, 70, 71, 72, 73, 74, 75, 76, 77, 78, 79, 80, 81, 82, 83, 84, 85, 86, 87, 123, 124, 125, 91, 92, 93, 94, 334, 335, 336, 337, 338, 339, 340, 341, 342, 343, 344, 345, 346, 347, 348, 360, 361, 362, 363, 364, 365, 366, 367, 368, 349, 350, 351, 352, 353, 354, 355, 356, 357, 358, 359] (by decide +kernel) (by decide +kernel)) (goodIn_sub (fun _ h => List.mem_cons_of_mem _ (List.mem_append_left _ (List.mem_append_left _ (List.mem_append_left _ (List.mem_append_left _ (List.mem_append_left _ (List.mem_append_right _ h))))))) (by decide +kernel))) (goodIn_sub (fun _ h => List.mem_cons_of_mem _ (List.mem_append_left _ (List.mem_append_left _ (List.mem_append_left _ (List.mem_append_left _ (List.mem_append_right _ h)))))) (by decide +kernel))) (goodIn_sub (fun _ h => List.mem_cons_of_mem _ (List.mem_append_left _ (List.mem_append_left _ (List.mem_append_left _ (List.mem_append_right _ h))))) (by decide +kernel))) (goodIn_sub (fun _ h => List.mem_cons_of_mem _ (List.mem_append_left _ (List.mem_append_left _ (List.mem_append_left _ (List.mem_append_left _ (List.mem_append_left _ (List.mem_append_left _ (List.mem_append_left _ (List.mem_append_right _ h))))))))) (by decide +kernel))) (goodIn_sub (fun _ h => List.mem_cons_of_mem _ (List.mem_append_left _ (List.mem_append_left _ (List.mem_append_right _ h)))) (by decide +kernel))
set_option maxRecDepth 20000 in
theorem gL_asked_X5_order : GoodIn wsL_asked (wsV RL 101 RX5 yX5_order wsX5_order) := goodIn_app (goodIn_of _ (by decide +kernel)) ggL_asked_X5_order
set_option maxRecDepth 20000 in
theorem ggL_asked_X5_map : GoodIn wsL_asked wsX5_map := goodIn_ca (goodIn_ca (goodIn_ca (goodIn_ca (goodIn_ca (goodIn_ca (goodIn_r _ [129, 27, 28, 17, 130, 131, 132, 133, 134, 4, 135, 6, 7, 8, 9, 10, 136, 137, 138, 139, 140, 11, 12, 13, 14, 15, 16, 18, 19, 20, 21, 22, 141, 142, 143, 144, 145, 146, 147, 69, 148, 54, 55, 56, 70, 71, 149, 150, 151, 152, 153, 154, 155, 156, 157, 158, 159, 160, 161, 162, 163, 164, 165, 49, 166, 167, 52, 57, 59, 60, 61, 58, 62, 63, 64, 65, 66, 67, 68, 72, 73, 74, 75, 76, 77, 78, 79, 334, 335, 336, 337, 338, 339, 340, 341, 342, 343, 344, 345, 346, 347, 348, 349, 350, 351, 352, 353, 354, 355, 356, 357, 358, 359, 366, 367, 368] (by decide +kernel) (by decide +kernel)) (goodIn_sub (fun _ h => List.mem_cons_of_mem _ (List.mem_append_left _ (List.mem_append_left _ (List.mem_append_left _ (List.mem_append_left _ (List.mem_append_left _ (List.mem_append_left _ (List.mem_append_left _ (List.mem_append_right _ h))))))))) (by decide +kernel))) (goodIn_sub (fun _ h => List.mem_cons_of_mem _ (List.mem_append_left _ (List.mem_append_left _ (List.mem_append_left _ (List.mem_append_left _ (List.mem_append_right _ h)))))) (by decide +kernel))) (goodIn_sub (fun _ h => List.mem_cons_of_mem _ (List.mem_append_left _ (List.mem_append_left _ (List.mem_append_left _ (List.mem_append_left _ (List.mem_append_left _ (List.mem_append_left _ (List.mem_append_right _ h)))))))) (by decide +kernel))) (goodIn_sub (fun _ h => List.mem_cons_of_mem _ (List.mem_append_left _ (List.mem_append_right _ h))) (by decide +kernel))) (goodIn_sub (fun _ h => List.mem_cons_of_mem _ (List.mem_append_left _ (List.mem_append_left _ (List.mem_append_left _ (List.mem_append_left _ (List.mem_append_left _ (List.mem_append_right _ h))))))) (by decide +kernel))) (goodIn_sub (fun _ h => List.mem_cons_of_mem _ (List.mem_append_left _ (List.mem_append_left _ (List.mem_append_right _ h)))) (by decide +kernel))
set_option maxRecDepth 20000 in
theorem gL_asked_X5_map : GoodIn wsL_asked (wsV RL 104 RX5 yX5_map wsX5_map) := goodIn_app (goodIn_of _ (by decide +kernel)) ggL_asked_X5_map
set_option maxRecDepth 20000 in
theorem ggL_asked_X5_locks : GoodIn wsL_asked wsX5_locks := goodIn_ca (goodIn_ca (goodIn_ca (goodIn_ca (goodIn_ca (goodIn_ca (goodIn_r _ [171, 27, 28, 6, 7, 4, 8, 9, 10, 136, 137, 138, 139, 140, 172, 173, 174, 132, 133, 134, 135, 11, 12, 13, 14, 15, 16, 17, 18, 19, 20, 21, 22, 141, 142, 143, 144, 131, 130, 145, 146, 147, 69, 148, 54, 55, 56, 70, 71, 149, 150, 151, 152, 153, 154, 155, 156, 157, 158, 159, 160, 161, 162, 163, 164, 165, 49, 166, 167, 52, 57, 175, 176, 177, 178, 179, 180, 74, 181, 31, 182, 40, 41, 42, 43, 44, 45, 46, 47, 48, 50, 51, 53, 58, 59, 60, 61, 62, 63, 64, 65, 66, 67, 68, 72, 73, 75, 76, 77, 78, 79, 80, 81, 82, 83, 84, 85, 86, 87, 183, 184, 185, 186, 187, 188, 189, 91, 92, 93, 94, 334, 335, 336, 337, 338, 339, 340, 341, 342, 343, 344, 345, 346, 347, 348, 349, 350, 351, 352, 353, 354, 355, 356, 357, 358, 359, 366, 367, 368, 360, 361, 362, 363, 364, 365] (by decide +kernel) (by decide +kernel)) (goodIn_sub (fun _ h => List.mem_cons_of_mem _ (List.mem_append_left _ (List.mem_append_left _ (List.mem_append_left _ (List.mem_append_left _ (List.mem_append_right _ h)))))) (by decide +kernel))) (goodIn_sub (fun _ h => List.mem_cons_of_mem _ (List.mem_append_left _ (List.mem_append_left _ (List.mem_append_left _ (List.mem_append_left _ (List.mem_append_left _ (List.mem_append_left _ (List.mem_append_right _ h)))))))) (by decide +kernel))) (goodIn_sub (fun _ h => List.mem_cons_of_mem _ (List.mem_append_left _ (List.mem_append_right _ h))) (by decide +kernel))) (goodIn_sub (fun _ h => List.mem_cons_of_mem _ (List.mem_append_left _ (List.mem_append_left _ (List.mem_append_left _ (List.mem_append_left _ (List.mem_append_left _ (List.mem_append_right _ h))))))) (by decide +kernel))) (goodIn_sub (fun _ h => List.mem_cons_of_mem _ (List.mem_append_left _ (List.mem_append_left _ (List.mem_append_left _ (List.mem_append_left _ (List.mem_append_left _ (List.mem_append_left _ (List.mem_append_left _ (List.mem_append_right _ h))))))))) (by decide +kernel))) (goodIn_sub (fun _ h => List.mem_cons_of_mem _ (List.mem_append_left _ (List.mem_append_left _ (List.mem_append_right _ h)))) (by decide +kernel))
set_option maxRecDepth 20000 in
theorem gL_asked_X5_locks : GoodIn wsL_asked (wsV RL 107 RX5 yX5_locks wsX5_locks) := goodIn_app (goodIn_of _ (by decide +kernel)) ggL_asked_X5_locks
set_option maxRecDepth 20000 in
theorem ggL_asked_X5_tongue : GoodIn wsL_asked wsX5_tongue := goodIn_ca (goodIn_ca (goodIn_ca (goodIn_ca (goodIn_ca (goodIn_r _ [193, 132, 133, 134, 4, 135, 6, 7, 8, 9, 10, 136, 137, 138, 139, 140, 11, 12, 13, 14, 15, 16, 17, 18, 19, 20, 21, 22, 141, 142, 143, 144, 131, 130, 145, 146, 147, 69, 148, 54, 55, 56, 70, 71, 149, 150, 151, 152, 153, 154, 155, 156, 157, 158, 159, 160, 161, 162, 163, 164, 165, 49, 166, 167, 52, 57, 175, 176, 177, 178, 179, 180, 74, 181, 31, 182, 40, 41, 42, 43, 44, 45, 46, 47, 48, 50, 51, 53, 58, 59, 60, 61, 62, 63, 64, 65, 66, 67, 68, 72, 73, 75, 76, 77, 78, 79, 80, 81, 82, 83, 84, 85, 86, 87, 183, 184, 185, 186, 187, 188, 189, 91, 92, 93, 94, 334, 335, 336, 337, 338, 339, 340, 341, 342, 343, 344, 345, 346, 347, 348, 349, 350, 351, 352, 353, 354, 355, 356, 357, 358, 359, 366, 367, 368, 360, 361, 362, 363, 364, 365] (by decide +kernel) (by decide +kernel)) (goodIn_sub (fun _ h => List.mem_cons_of_mem _ (List.mem_append_left _ (List.mem_append_left _ (List.mem_append_left _ (List.mem_append_left _ (List.mem_append_left _ (List.mem_append_left _ (List.mem_append_right _ h)))))))) (by decide +kernel))) (goodIn_sub (fun _ h => List.mem_cons_of_mem _ (List.mem_append_left _ (List.mem_append_right _ h))) (by decide +kernel))) (goodIn_sub (fun _ h => List.mem_cons_of_mem _ (List.mem_append_left _ (List.mem_append_left _ (List.mem_append_left _ (List.mem_append_left _ (List.mem_append_left _ (List.mem_append_right _ h))))))) (by decide +kernel))) (goodIn_sub (fun _ h => List.mem_cons_of_mem _ (List.mem_append_left _ (List.mem_append_left _ (List.mem_append_left _ (List.mem_append_left _ (List.mem_append_left _ (List.mem_append_left _ (List.mem_append_left _ (List.mem_append_right _ h))))))))) (by decide +kernel))) (goodIn_sub (fun _ h => List.mem_cons_of_mem _ (List.mem_append_left _ (List.mem_append_left _ (List.mem_append_right _ h)))) (by decide +kernel))
set_option maxRecDepth 20000 in
theorem gL_asked_X5_tongue : GoodIn wsL_asked (wsV RL 111 RX5 yX5_tongue wsX5_tongue) := goodIn_app (goodIn_of _ (by decide +kernel)) ggL_asked_X5_tongue
set_option maxRecDepth 20000 in
theorem ggL_asked_X5_push : GoodIn wsL_asked wsX5_push := goodIn_ca (goodIn_ca (goodIn_ca (goodIn_ca (goodIn_r _ [197, 17, 31, 179, 180, 74, 181, 198, 73, 75, 29, 6, 7, 4, 8, 9, 10, 172, 173, 174, 139, 140, 11, 12, 13, 14, 15, 16, 18, 19, 20, 21, 22, 334, 335, 336, 337, 338, 339, 340, 341, 342, 343, 344, 345, 346, 347, 348, 349, 350, 351, 352, 353, 354, 355, 356, 357, 358, 359, 366, 367, 368] (by decide +kernel) (by decide +kernel)) (goodIn_sub (fun _ h => List.mem_cons_of_mem _ (List.mem_append_left _ (List.mem_append_left _ (List.mem_append_left _ (List.mem_append_left _ (List.mem_append_left _ (List.mem_append_left _ (List.mem_append_left _ (List.mem_append_right _ h))))))))) (by decide +kernel))) (goodIn_sub (fun _ h => List.mem_cons_of_mem _ (List.mem_append_left _ (List.mem_append_left _ (List.mem_append_left _ (List.mem_append_left _ (List.mem_append_left _ (List.mem_append_left _ (List.mem_append_right _ h)))))))) (by decide +kernel))) (goodIn_sub (fun _ h => List.mem_cons_of_mem _ (List.mem_append_left _ (List.mem_append_right _ h))) (by decide +kernel))) (goodIn_sub (fun _ h => List.mem_cons_of_mem _ (List.mem_append_left _ (List.mem_append_left _ (List.mem_append_left _ (List.mem_append_left _ (List.mem_append_left _ (List.mem_append_right _ h))))))) (by decide +kernel))
set_option maxRecDepth 20000 in
theorem gL_asked_X5_push : GoodIn wsL_asked (wsV RL 114 RX5 yX5_push wsX5_push) := goodIn_app (goodIn_of _ (by decide +kernel)) ggL_asked_X5_push
set_option maxRecDepth 20000 in
theorem ggL_asked_X5_leastPush : GoodIn wsL_asked wsX5_leastPush := goodIn_ca (goodIn_ca (goodIn_ca (goodIn_ca (goodIn_r _ [202, 37, 38, 15, 16, 17, 33, 34, 35, 4, 36, 39, 203, 204, 205, 206, 31, 207, 208, 209, 210, 179, 180, 74, 181, 211, 212, 213, 214, 215, 216, 217, 218, 219, 220, 221, 222, 223, 224, 225, 130, 182, 48, 49, 50, 51, 52, 53, 54, 55, 56, 57, 58, 40, 41, 42, 43, 44, 45, 46, 47, 59, 60, 61, 62, 63, 64, 65, 66, 19, 67, 68, 69, 70, 71, 72, 73, 75, 76, 77, 78, 79, 80, 81, 82, 83, 84, 85, 86, 87, 226, 227, 228, 91, 92, 93, 94, 334, 335, 336, 337, 338, 339, 340, 341, 342, 343, 344, 345, 346, 347, 348, 349, 350, 351, 352, 353, 354, 355, 356, 357, 358, 359, 366, 367, 368, 360, 361, 362, 363, 364, 365] (by decide +kernel) (by decide +kernel)) (goodIn_sub (fun _ h => List.mem_cons_of_mem _ (List.mem_append_left _ (List.mem_append_left _ (List.mem_append_left _ (List.mem_append_right _ h))))) (by decide +kernel))) (goodIn_sub (fun _ h => List.mem_cons_of_mem _ (List.mem_append_left _ (List.mem_append_left _ (List.mem_append_left _ (List.mem_append_left _ (List.mem_append_left _ (List.mem_append_right _ h))))))) (by decide +kernel))) (goodIn_sub (fun _ h => List.mem_cons_of_mem _ (List.mem_append_left _ (List.mem_append_left _ (List.mem_append_left _ (List.mem_append_left _ (List.mem_append_left _ (List.mem_append_left _ (List.mem_append_left _ (List.mem_append_right _ h))))))))) (by decide +kernel))) (goodIn_sub (fun _ h => List.mem_cons_of_mem _ (List.mem_append_left _ (List.mem_append_left _ (List.mem_append_right _ h)))) (by decide +kernel))
set_option maxRecDepth 20000 in
theorem gL_asked_X5_leastPush : GoodIn wsL_asked (wsV RL 117 RX5 yX5_leastPush wsX5_leastPush) := goodIn_app (goodIn_of _ (by decide +kernel)) ggL_asked_X5_leastPush
set_option maxRecDepth 20000 in
theorem ggL_asked_X5_noise : GoodIn wsL_asked wsX5_noise := goodIn_ca (goodIn_r _ [232, 39, 172, 173, 4, 174, 139, 140, 334, 335, 336, 337, 338, 339, 340, 341, 342, 343, 344, 345, 346, 347, 348] (by decide +kernel) (by decide +kernel)) (goodIn_sub (fun _ h => List.mem_cons_of_mem _ (List.mem_append_left _ (List.mem_append_right _ h))) (by decide +kernel))
set_option maxRecDepth 20000 in
theorem gL_asked_X5_noise : GoodIn wsL_asked (wsV RL 120 RX5 yX5_noise wsX5_noise) := goodIn_app (goodIn_of _ (by decide +kernel)) ggL_asked_X5_noise
set_option maxRecDepth 20000 in
theorem ggL_asked_X5_seed : GoodIn wsL_asked wsX5_seed := goodIn_ca (goodIn_r _ [236, 237, 238, 172, 173, 4, 174, 139, 140, 334, 335, 336, 337, 338, 339, 340, 341, 342, 343, 344, 345, 346, 347, 348] (by decide +kernel) (by decide +kernel)) (goodIn_sub (fun _ h => List.mem_cons_of_mem _ (List.mem_append_left _ (List.mem_append_right _ h))) (by decide +kernel))
set_option maxRecDepth 20000 in
theorem gL_asked_X5_seed : GoodIn wsL_asked (wsV RL 123 RX5 yX5_seed wsX5_seed) := goodIn_app (goodIn_of _ (by decide +kernel)) ggL_asked_X5_seed
set_option maxRecDepth 20000 in
theorem ggL_asked_X5_mark : GoodIn wsL_asked wsX5_mark := goodIn_ca (goodIn_ca (goodIn_ca (goodIn_r _ [242, 243, 244, 245, 172, 173, 4, 174, 139, 140, 246, 247, 248, 249, 250, 251, 334, 335, 336, 337, 338, 339, 340, 341, 342, 343, 344, 345, 346, 347, 348, 369, 370] (by decide +kernel) (by decide +kernel)) (goodIn_sub (fun _ h => List.mem_cons_of_mem _ (List.mem_append_right _ h)) (by decide +kernel))) (goodIn_sub (fun _ h => List.mem_cons_of_mem _ (List.mem_append_left _ (List.mem_append_right _ h))) (by decide +kernel))) (goodIn_sub (fun _ h => List.mem_cons_of_mem _ (List.mem_append_left _ (List.mem_append_left _ (List.mem_append_left _ (List.mem_append_left _ (List.mem_append_left _ (List.mem_append_left _ (List.mem_append_left _ (List.mem_append_right _ h))))))))) (by decide +kernel))
set_option maxRecDepth 20000 in
theorem gL_asked_X5_mark : GoodIn wsL_asked (wsV RL 126 RX5 yX5_mark wsX5_mark) := goodIn_app (goodIn_of _ (by decide +kernel)) ggL_asked_X5_mark
set_option maxRecDepth 20000 in
theorem ggL_asked_X5_fits : GoodIn wsL_asked wsX5_fits := goodIn_ca (goodIn_ca (goodIn_r _ [255, 245, 256, 247, 257, 258, 259, 260, 261, 262, 250, 251, 334, 335, 336, 337, 338, 339, 340, 341, 342, 343, 344, 345, 346, 347, 348, 369, 370] (by decide +kernel) (by decide +kernel)) (goodIn_sub (fun _ h => List.mem_cons_of_mem _ (List.mem_append_left _ (List.mem_append_left _ (List.mem_append_left _ (List.mem_append_left _ (List.mem_append_left _ (List.mem_append_left _ (List.mem_append_left _ (List.mem_append_right _ h))))))))) (by decide +kernel))) (goodIn_sub (fun _ h => List.mem_cons_of_mem _ (List.mem_append_left _ (List.mem_append_left _ (List.mem_append_right _ h)))) (by decide +kernel))
set_option maxRecDepth 20000 in
theorem gL_asked_X5_fits : GoodIn wsL_asked (wsV RL 129 RX5 yX5_fits wsX5_fits) := goodIn_app (goodIn_of _ (by decide +kernel)) ggL_asked_X5_fits
set_option maxRecDepth 20000 in
theorem ggL_asked_X5_guess : GoodIn wsL_asked wsX5_guess := goodIn_ca (goodIn_ca (goodIn_ca (goodIn_r _ [266, 15, 16, 245, 267, 247, 268, 269, 259, 260, 261, 262, 250, 251, 334, 335, 336, 337, 338, 339, 340, 341, 342, 343, 344, 345, 346, 347, 348, 369, 370] (by decide +kernel) (by decide +kernel)) (goodIn_sub (fun _ h => List.mem_cons_of_mem _ (List.mem_append_left _ (List.mem_append_left _ (List.mem_append_left _ (List.mem_append_left _ (List.mem_append_left _ (List.mem_append_right _ h))))))) (by decide +kernel))) (goodIn_sub (fun _ h => List.mem_cons_of_mem _ (List.mem_append_left _ (List.mem_append_left _ (List.mem_append_left _ (List.mem_append_left _ (List.mem_append_left _ (List.mem_append_left _ (List.mem_append_left _ (List.mem_append_right _ h))))))))) (by decide +kernel))) (goodIn_sub (fun _ h => List.mem_cons_of_mem _ (List.mem_append_left _ (List.mem_append_left _ (List.mem_append_right _ h)))) (by decide +kernel))
set_option maxRecDepth 20000 in
theorem gL_asked_X5_guess : GoodIn wsL_asked (wsV RL 132 RX5 yX5_guess wsX5_guess) := goodIn_app (goodIn_of _ (by decide +kernel)) ggL_asked_X5_guess
set_option maxRecDepth 20000 in
theorem ggL_asked_X5_beam : GoodIn wsL_asked wsX5_beam := goodIn_ca (goodIn_r _ [273, 274, 172, 173, 4, 174, 139, 140, 334, 335, 336, 337, 338, 339, 340, 341, 342, 343, 344, 345, 346, 347, 348, 371, 372, 373, 374, 375] (by decide +kernel) (by decide +kernel)) (goodIn_sub (fun _ h => List.mem_cons_of_mem _ (List.mem_append_left _ (List.mem_append_right _ h))) (by decide +kernel))
set_option maxRecDepth 20000 in
theorem gL_asked_X5_beam : GoodIn wsL_asked (wsV RL 135 RX5 yX5_beam wsX5_beam) := goodIn_app (goodIn_of _ (by decide +kernel)) ggL_asked_X5_beam
set_option maxRecDepth 20000 in
theorem ggL_asked_X5_sway : GoodIn wsL_asked wsX5_sway := goodIn_ca (goodIn_ca (goodIn_r _ [278, 274, 172, 173, 4, 174, 139, 140, 279, 280, 281, 282, 283, 284, 285, 286, 287, 288, 289, 290, 291, 292, 293, 294, 295, 296, 297, 298, 299, 300, 301, 302, 303, 304, 305, 306, 307, 308, 309, 310, 311, 312, 313, 314, 315, 316, 317, 334, 335, 336, 337, 338, 339, 340, 341, 342, 343, 344, 345, 346, 347, 348, 371, 372, 373, 374, 375] (by decide +kernel) (by decide +kernel)) (goodIn_sub (fun _ h => List.mem_cons_of_mem _ (List.mem_append_left _ (List.mem_append_right _ h))) (by decide +kernel))) (goodIn_sub (fun _ h => List.mem_cons_of_mem _ (List.mem_append_left _ (List.mem_append_left _ (List.mem_append_left _ (List.mem_append_left _ (List.mem_append_left _ (List.mem_append_left _ (List.mem_append_left _ (List.mem_append_right _ h))))))))) (by decide +kernel))
set_option maxRecDepth 20000 in
theorem gL_asked_X5_sway : GoodIn wsL_asked (wsV RL 138 RX5 yX5_sway wsX5_sway) := goodIn_app (goodIn_of _ (by decide +kernel)) ggL_asked_X5_sway
set_option maxRecDepth 20000 in
theorem ggL_asked_X5_angleBits : GoodIn wsL_asked wsX5_angleBits := goodIn_ca (goodIn_ca (goodIn_ca (goodIn_r _ [321, 15, 16, 274, 6, 7, 4, 8, 9, 10, 322, 280, 323, 324, 283, 325, 326, 327, 285, 328, 329, 330, 331, 332, 333, 296, 297, 298, 299, 300, 301, 302, 303, 304, 305, 306, 307, 334, 335, 336, 337, 338, 339, 340, 341, 342, 343, 344, 345, 346, 347, 348, 371, 372, 373, 374, 375] (by decide +kernel) (by decide +kernel)) (goodIn_sub (fun _ h => List.mem_cons_of_mem _ (List.mem_append_left _ (List.mem_append_left _ (List.mem_append_left _ (List.mem_append_left _ (List.mem_append_left _ (List.mem_append_right _ h))))))) (by decide +kernel))) (goodIn_sub (fun _ h => List.mem_cons_of_mem _ (List.mem_append_left _ (List.mem_append_left _ (List.mem_append_left _ (List.mem_append_left _ (List.mem_append_left _ (List.mem_append_left _ (List.mem_append_right _ h)))))))) (by decide +kernel))) (goodIn_sub (fun _ h => List.mem_cons_of_mem _ (List.mem_append_left _ (List.mem_append_left _ (List.mem_append_left _ (List.mem_append_left _ (List.mem_append_left _ (List.mem_append_left _ (List.mem_append_left _ (List.mem_append_right _ h))))))))) (by decide +kernel))
set_option maxRecDepth 20000 in
theorem gL_asked_X5_angleBits : GoodIn wsL_asked (wsV RL 141 RX5 yX5_angleBits wsX5_angleBits) := goodIn_app (goodIn_of _ (by decide +kernel)) ggL_asked_X5_angleBits
theorem dL_asked_0 : decode cL_asked 0 = .ok (.iload_n 1, 1) := by decide +kernel
theorem dL_asked_1 : decode cL_asked 1 = .ok (.tableswitch 391 70 122 #[359, 251, 391, 259, 391, 391, 391, 351, 391, 391, 391, 391, 391, 391, 391, 391, 391, 391, 330, 383, 391, 391, 391, 391, 391, 391, 391, 391, 391, 391, 391, 391, 391, 246, 391, 227, 391, 286, 391, 272, 335, 264, 391, 391, 391, 391, 308, 364, 391, 391, 319, 372, 343], 227) := by decide +kernel
theorem dL_asked_228 : decode cL_asked 228 = .ok (.aload_n 0, 1) := by decide +kernel
theorem dL_asked_229 : decode cL_asked 229 = .ok (.aload_n 2, 1) := by decide +kernel
theorem dL_asked_230 : decode cL_asked 230 = .ok (.iconst 0, 1) := by decide +kernel
theorem dL_asked_231 : decode cL_asked 231 = .ok (.iaload, 1) := by decide +kernel
theorem dL_asked_232 : decode cL_asked 232 = .ok (.aload_n 2, 1) := by decide +kernel
theorem dL_asked_233 : decode cL_asked 233 = .ok (.iconst 1, 1) := by decide +kernel
theorem dL_asked_234 : decode cL_asked 234 = .ok (.iaload, 1) := by decide +kernel
theorem dL_asked_235 : decode cL_asked 235 = .ok (.invokevirtual 89, 3) := by decide +kernel
theorem dL_asked_238 : decode cL_asked 238 = .ok (.ifCond .eq 7, 3) := by decide +kernel
theorem dL_asked_241 : decode cL_asked 241 = .ok (.iconst 1, 1) := by decide +kernel
theorem dL_asked_242 : decode cL_asked 242 = .ok (.goto 4, 3) := by decide +kernel
theorem dL_asked_245 : decode cL_asked 245 = .ok (.iconst 0, 1) := by decide +kernel
theorem dL_asked_246 : decode cL_asked 246 = .ok (.ireturn, 1) := by decide +kernel
theorem dL_asked_247 : decode cL_asked 247 = .ok (.aload_n 0, 1) := by decide +kernel
theorem dL_asked_248 : decode cL_asked 248 = .ok (.invokevirtual 92, 3) := by decide +kernel
theorem dL_asked_251 : decode cL_asked 251 = .ok (.ireturn, 1) := by decide +kernel
theorem dL_asked_252 : decode cL_asked 252 = .ok (.aload_n 0, 1) := by decide +kernel
theorem dL_asked_253 : decode cL_asked 253 = .ok (.aload_n 2, 1) := by decide +kernel
theorem dL_asked_254 : decode cL_asked 254 = .ok (.iconst 0, 1) := by decide +kernel
theorem dL_asked_255 : decode cL_asked 255 = .ok (.iaload, 1) := by decide +kernel
